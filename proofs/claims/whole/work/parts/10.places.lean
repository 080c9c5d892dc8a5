theorem kd_0 : kd 0 = (5, 9) := by decide +kernel
theorem kd_1 : kd 1 = (5, 4) := by decide +kernel
theorem kd_2 : kd 2 = (0, 100) := by decide +kernel
theorem kd_3 : kd 3 = (5, 4) := by decide +kernel
theorem kd_4 : kd 4 = (0, 100) := by decide +kernel
theorem kd_5 : kd 5 = (5, 0) := by decide +kernel
theorem kd_6 : kd 6 = (4, 8) := by decide +kernel
theorem kd_7 : kd 7 = (5, 4) := by decide +kernel
theorem kd_8 : kd 8 = (0, 100) := by decide +kernel
theorem kd_9 : kd 9 = (5, 4) := by decide +kernel
theorem kd_10 : kd 10 = (0, 100) := by decide +kernel
theorem kd_11 : kd 11 = (5, 4) := by decide +kernel
theorem kd_12 : kd 12 = (0, 100) := by decide +kernel
theorem kd_13 : kd 13 = (5, 4) := by decide +kernel
theorem kd_14 : kd 14 = (0, 100) := by decide +kernel
theorem kd_15 : kd 15 = (5, 4) := by decide +kernel
theorem kd_16 : kd 16 = (0, 100) := by decide +kernel
theorem kd_17 : kd 17 = (5, 4) := by decide +kernel
theorem kd_18 : kd 18 = (0, 100) := by decide +kernel
theorem kd_19 : kd 19 = (5, 4) := by decide +kernel
theorem kd_20 : kd 20 = (0, 100) := by decide +kernel
theorem kd_21 : kd 21 = (5, 4) := by decide +kernel
theorem kd_22 : kd 22 = (0, 100) := by decide +kernel
theorem kd_23 : kd 23 = (5, 6) := by decide +kernel
theorem kd_24 : kd 24 = (0, 200) := by decide +kernel
theorem kd_25 : kd 25 = (5, 8) := by decide +kernel
theorem kd_26 : kd 26 = (0, 10) := by decide +kernel
theorem kd_27 : kd 27 = (5, 8) := by decide +kernel
theorem kd_28 : kd 28 = (0, 10) := by decide +kernel
theorem kd_29 : kd 29 = (5, 2) := by decide +kernel
theorem kd_30 : kd 30 = (5, 8) := by decide +kernel
theorem kd_31 : kd 31 = (0, 10) := by decide +kernel
theorem kd_32 : kd 32 = (0, 20) := by decide +kernel
theorem kd_33 : kd 33 = (0, 20) := by decide +kernel
theorem kd_34 : kd 34 = (0, 20) := by decide +kernel
theorem kd_35 : kd 35 = (0, 20) := by decide +kernel
theorem kd_36 : kd 36 = (0, 20) := by decide +kernel
theorem kd_37 : kd 37 = (1, 20) := by decide +kernel
theorem kd_38 : kd 38 = (5, 5) := by decide +kernel
theorem kd_39 : kd 39 = (1, 80) := by decide +kernel
theorem kd_40 : kd 40 = (5, 5) := by decide +kernel
theorem kd_41 : kd 41 = (1, 80) := by decide +kernel
theorem kd_42 : kd 42 = (5, 3) := by decide +kernel
theorem kd_43 : kd 43 = (0, 6) := by decide +kernel
theorem kd_44 : kd 44 = (3, 6) := by decide +kernel
theorem kd_45 : kd 45 = (1, 20) := by decide +kernel
theorem kd_46 : kd 46 = (1, 20) := by decide +kernel
theorem kd_47 : kd 47 = (1, 20) := by decide +kernel
theorem kd_48 : kd 48 = (1, 20) := by decide +kernel
theorem kd_49 : kd 49 = (1, 20) := by decide +kernel
theorem kd_50 : kd 50 = (1, 20) := by decide +kernel
theorem kd_51 : kd 51 = (0, 310) := by decide +kernel
theorem kd_52 : kd 52 = (1, 1244) := by decide +kernel
theorem kd_53 : kd 53 = (2, 311) := by decide +kernel
theorem kd_54 : kd 54 = (5, 3) := by decide +kernel
theorem kd_55 : kd 55 = (0, 6) := by decide +kernel
theorem kd_56 : kd 56 = (3, 6) := by decide +kernel
theorem kd_57 : kd 57 = (1, 20) := by decide +kernel
theorem kd_58 : kd 58 = (1, 20) := by decide +kernel
theorem kd_59 : kd 59 = (1, 20) := by decide +kernel
theorem kd_60 : kd 60 = (1, 20) := by decide +kernel
theorem kd_61 : kd 61 = (1, 20) := by decide +kernel
theorem kd_62 : kd 62 = (1, 20) := by decide +kernel
theorem kd_63 : kd 63 = (0, 6) := by decide +kernel
theorem kd_64 : kd 64 = (1, 28) := by decide +kernel
theorem kd_65 : kd 65 = (2, 7) := by decide +kernel
theorem kd_66 : kd 66 = (5, 3) := by decide +kernel
theorem kd_67 : kd 67 = (0, 6) := by decide +kernel
theorem kd_68 : kd 68 = (3, 6) := by decide +kernel
theorem kd_69 : kd 69 = (1, 20) := by decide +kernel
theorem kd_70 : kd 70 = (1, 20) := by decide +kernel
theorem kd_71 : kd 71 = (1, 20) := by decide +kernel
theorem kd_72 : kd 72 = (1, 20) := by decide +kernel
theorem kd_73 : kd 73 = (1, 20) := by decide +kernel
theorem kd_74 : kd 74 = (1, 20) := by decide +kernel
theorem kd_75 : kd 75 = (0, 6) := by decide +kernel
theorem kd_76 : kd 76 = (1, 28) := by decide +kernel
theorem kd_77 : kd 77 = (2, 7) := by decide +kernel
theorem kd_78 : kd 78 = (5, 7) := by decide +kernel
theorem kd_79 : kd 79 = (0, 301) := by decide +kernel
theorem kd_80 : kd 80 = (0, 301) := by decide +kernel
theorem kd_81 : kd 81 = (0, 301) := by decide +kernel
theorem kd_82 : kd 82 = (0, 301) := by decide +kernel
theorem kd_83 : kd 83 = (5, 1) := by decide +kernel
theorem kd_84 : kd 84 = (0, 4032) := by decide +kernel
theorem kd_85 : kd 85 = (3, 24) := by decide +kernel
theorem kd_86 : kd 86 = (1, 20) := by decide +kernel
theorem kd_87 : kd 87 = (1, 20) := by decide +kernel
theorem kd_88 : kd 88 = (1, 20) := by decide +kernel
theorem kd_89 : kd 89 = (1, 20) := by decide +kernel
theorem kd_90 : kd 90 = (1, 20) := by decide +kernel
theorem kd_91 : kd 91 = (1, 20) := by decide +kernel
theorem kd_92 : kd 92 = (1, 20) := by decide +kernel
theorem kd_93 : kd 93 = (1, 20) := by decide +kernel
theorem kd_94 : kd 94 = (1, 20) := by decide +kernel
theorem kd_95 : kd 95 = (1, 20) := by decide +kernel
theorem kd_96 : kd 96 = (1, 20) := by decide +kernel
theorem kd_97 : kd 97 = (1, 20) := by decide +kernel
theorem kd_98 : kd 98 = (1, 20) := by decide +kernel
theorem kd_99 : kd 99 = (1, 20) := by decide +kernel
theorem kd_100 : kd 100 = (1, 20) := by decide +kernel
theorem kd_101 : kd 101 = (1, 20) := by decide +kernel
theorem kd_102 : kd 102 = (1, 20) := by decide +kernel
theorem kd_103 : kd 103 = (1, 20) := by decide +kernel
theorem kd_104 : kd 104 = (1, 20) := by decide +kernel
theorem kd_105 : kd 105 = (1, 20) := by decide +kernel
theorem kd_106 : kd 106 = (1, 20) := by decide +kernel
theorem kd_107 : kd 107 = (1, 20) := by decide +kernel
theorem kd_108 : kd 108 = (1, 20) := by decide +kernel
theorem kd_109 : kd 109 = (1, 20) := by decide +kernel
theorem kd_110 : kd 110 = (1, 24) := by decide +kernel
theorem kd_111 : kd 111 = (2, 20) := by decide +kernel
theorem kd_112 : kd 112 = (0, 20) := by decide +kernel
theorem kd_113 : kd 113 = (0, 504) := by decide +kernel
theorem kd_114 : kd 114 = (0, 504) := by decide +kernel
theorem kd_115 : kd 115 = (0, 504) := by decide +kernel
theorem kd_116 : kd 116 = (5, 10) := by decide +kernel
theorem kd_117 : kd 117 = (0, 105) := by decide +kernel
theorem kd_118 : kd 118 = (0, 840) := by decide +kernel
theorem kd_119 : kd 119 = (0, 200) := by decide +kernel
theorem kd_120 : kd 120 = (1, 605) := by decide +kernel
theorem kd_121 : kd 121 = (0, 320) := by decide +kernel
theorem kd_122 : kd 122 = (1, 3531) := by decide +kernel
theorem kd_123 : kd 123 = (0, 7350) := by decide +kernel
theorem kd_124 : kd 124 = (0, 280) := by decide +kernel
theorem kd_125 : kd 125 = (0, 35) := by decide +kernel
theorem kd_126 : kd 126 = (0, 35) := by decide +kernel
theorem kd_127 : kd 127 = (0, 105) := by decide +kernel
theorem rfc_0_1 {p : Nat} (h : kd p = (5, 0)) : rf p 1 = p + 1 := by unfold rf; rw [h]; rfl
theorem rfc_1_2 {p : Nat} (h : kd p = (5, 1)) : rf p 2 = 29 := by unfold rf; rw [h]; rfl
theorem rfc_1_3 {p : Nat} (h : kd p = (5, 1)) : rf p 3 = 38 := by unfold rf; rw [h]; rfl
theorem rfc_1_4 {p : Nat} (h : kd p = (5, 1)) : rf p 4 = p + 1 := by unfold rf; rw [h]; rfl
theorem rfc_1_5 {p : Nat} (h : kd p = (5, 1)) : rf p 5 = p + 2 := by unfold rf; rw [h]; rfl
theorem rfc_1_6 {p : Nat} (h : kd p = (5, 1)) : rf p 6 = p + 27 := by unfold rf; rw [h]; rfl
theorem rfc_1_7 {p : Nat} (h : kd p = (5, 1)) : rf p 7 = p + 28 := by unfold rf; rw [h]; rfl
theorem rfc_1_8 {p : Nat} (h : kd p = (5, 1)) : rf p 8 = p + 29 := by unfold rf; rw [h]; rfl
theorem rfc_1_10 {p : Nat} (h : kd p = (5, 1)) : rf p 10 = p + 30 := by unfold rf; rw [h]; rfl
theorem rfc_1_11 {p : Nat} (h : kd p = (5, 1)) : rf p 11 = p + 31 := by unfold rf; rw [h]; rfl
theorem rfc_1_12 {p : Nat} (h : kd p = (5, 1)) : rf p 12 = p + 32 := by unfold rf; rw [h]; rfl
theorem rfc_2_3 {p : Nat} (h : kd p = (5, 2)) : rf p 3 = p + 1 := by unfold rf; rw [h]; rfl
theorem rfc_2_4 {p : Nat} (h : kd p = (5, 2)) : rf p 4 = p + 3 := by unfold rf; rw [h]; rfl
theorem rfc_2_5 {p : Nat} (h : kd p = (5, 2)) : rf p 5 = p + 4 := by unfold rf; rw [h]; rfl
theorem rfc_2_6 {p : Nat} (h : kd p = (5, 2)) : rf p 6 = p + 5 := by unfold rf; rw [h]; rfl
theorem rfc_2_7 {p : Nat} (h : kd p = (5, 2)) : rf p 7 = p + 6 := by unfold rf; rw [h]; rfl
theorem rfc_2_8 {p : Nat} (h : kd p = (5, 2)) : rf p 8 = p + 7 := by unfold rf; rw [h]; rfl
theorem rfc_2_9 {p : Nat} (h : kd p = (5, 2)) : rf p 9 = p + 8 := by unfold rf; rw [h]; rfl
theorem rfc_3_5 {p : Nat} (h : kd p = (5, 3)) : rf p 5 = p + 1 := by unfold rf; rw [h]; rfl
theorem rfc_3_6 {p : Nat} (h : kd p = (5, 3)) : rf p 6 = p + 2 := by unfold rf; rw [h]; rfl
theorem rfc_3_7 {p : Nat} (h : kd p = (5, 3)) : rf p 7 = 29 := by unfold rf; rw [h]; rfl
theorem rfc_3_10 {p : Nat} (h : kd p = (5, 3)) : rf p 10 = p + 9 := by unfold rf; rw [h]; rfl
theorem rfc_3_11 {p : Nat} (h : kd p = (5, 3)) : rf p 11 = p + 10 := by unfold rf; rw [h]; rfl
theorem rfc_3_12 {p : Nat} (h : kd p = (5, 3)) : rf p 12 = p + 11 := by unfold rf; rw [h]; rfl
theorem rfc_4_5 {p : Nat} (h : kd p = (5, 4)) : rf p 5 = p + 1 := by unfold rf; rw [h]; rfl
theorem rfc_5_1 {p : Nat} (h : kd p = (5, 5)) : rf p 1 = 29 := by unfold rf; rw [h]; rfl
theorem rfc_5_2 {p : Nat} (h : kd p = (5, 5)) : rf p 2 = p + 1 := by unfold rf; rw [h]; rfl
theorem rfc_6_2 {p : Nat} (h : kd p = (5, 6)) : rf p 2 = p + 1 := by unfold rf; rw [h]; rfl
theorem rfc_7_4 {p : Nat} (h : kd p = (5, 7)) : rf p 4 = p + 1 := by unfold rf; rw [h]; rfl
theorem rfc_7_5 {p : Nat} (h : kd p = (5, 7)) : rf p 5 = p + 2 := by unfold rf; rw [h]; rfl
theorem rfc_7_6 {p : Nat} (h : kd p = (5, 7)) : rf p 6 = p + 3 := by unfold rf; rw [h]; rfl
theorem rfc_7_7 {p : Nat} (h : kd p = (5, 7)) : rf p 7 = p + 4 := by unfold rf; rw [h]; rfl
theorem rfc_8_1 {p : Nat} (h : kd p = (5, 8)) : rf p 1 = p + 1 := by unfold rf; rw [h]; rfl
theorem rfc_9_0 {p : Nat} (h : kd p = (5, 9)) : rf p 0 = 1 := by unfold rf; rw [h]; rfl
theorem rfc_9_1 {p : Nat} (h : kd p = (5, 9)) : rf p 1 = 3 := by unfold rf; rw [h]; rfl
theorem rfc_9_2 {p : Nat} (h : kd p = (5, 9)) : rf p 2 = 5 := by unfold rf; rw [h]; rfl
theorem rfc_9_3 {p : Nat} (h : kd p = (5, 9)) : rf p 3 = 23 := by unfold rf; rw [h]; rfl
theorem rfc_9_4 {p : Nat} (h : kd p = (5, 9)) : rf p 4 = 25 := by unfold rf; rw [h]; rfl
theorem rfc_9_5 {p : Nat} (h : kd p = (5, 9)) : rf p 5 = 27 := by unfold rf; rw [h]; rfl
theorem rfc_9_6 {p : Nat} (h : kd p = (5, 9)) : rf p 6 = 29 := by unfold rf; rw [h]; rfl
theorem rfc_9_7 {p : Nat} (h : kd p = (5, 9)) : rf p 7 = 38 := by unfold rf; rw [h]; rfl
theorem rfc_9_8 {p : Nat} (h : kd p = (5, 9)) : rf p 8 = 40 := by unfold rf; rw [h]; rfl
theorem rfc_9_9 {p : Nat} (h : kd p = (5, 9)) : rf p 9 = 42 := by unfold rf; rw [h]; rfl
theorem rfc_9_10 {p : Nat} (h : kd p = (5, 9)) : rf p 10 = 54 := by unfold rf; rw [h]; rfl
theorem rfc_9_11 {p : Nat} (h : kd p = (5, 9)) : rf p 11 = 66 := by unfold rf; rw [h]; rfl
theorem rfc_9_12 {p : Nat} (h : kd p = (5, 9)) : rf p 12 = 78 := by unfold rf; rw [h]; rfl
theorem rfc_9_13 {p : Nat} (h : kd p = (5, 9)) : rf p 13 = 83 := by unfold rf; rw [h]; rfl
theorem rfc_10_0 {p : Nat} (h : kd p = (5, 10)) : rf p 0 = p + 1 := by unfold rf; rw [h]; rfl
theorem rfc_10_1 {p : Nat} (h : kd p = (5, 10)) : rf p 1 = p + 2 := by unfold rf; rw [h]; rfl
theorem rfc_10_4 {p : Nat} (h : kd p = (5, 10)) : rf p 4 = p + 3 := by unfold rf; rw [h]; rfl
theorem rfc_10_6 {p : Nat} (h : kd p = (5, 10)) : rf p 6 = p + 4 := by unfold rf; rw [h]; rfl
theorem rfc_10_9 {p : Nat} (h : kd p = (5, 10)) : rf p 9 = p + 5 := by unfold rf; rw [h]; rfl
theorem rfc_10_10 {p : Nat} (h : kd p = (5, 10)) : rf p 10 = p + 6 := by unfold rf; rw [h]; rfl
theorem rfc_10_12 {p : Nat} (h : kd p = (5, 10)) : rf p 12 = p + 7 := by unfold rf; rw [h]; rfl
theorem rfc_10_13 {p : Nat} (h : kd p = (5, 10)) : rf p 13 = p + 8 := by unfold rf; rw [h]; rfl
theorem rfc_10_14 {p : Nat} (h : kd p = (5, 10)) : rf p 14 = p + 9 := by unfold rf; rw [h]; rfl
theorem rfc_10_15 {p : Nat} (h : kd p = (5, 10)) : rf p 15 = p + 10 := by unfold rf; rw [h]; rfl
theorem rfc_10_18 {p : Nat} (h : kd p = (5, 10)) : rf p 18 = p + 11 := by unfold rf; rw [h]; rfl
theorem rfs_42 : rf 42 8 = 38 := by decide +kernel
theorem rfs_54 : rf 54 8 = 38 := by decide +kernel
theorem rfs_66 : rf 66 8 = 40 := by decide +kernel
/-- a truth as a number -/
noncomputable def bI (c : Prop) : Int := by
  classical
  exact if c then 1 else 0
theorem bI_t {c : Prop} (h : c) : bI c = 1 := if_pos h
theorem bI_f {c : Prop} (h : ¬ c) : bI c = 0 := if_neg h
theorem bI_01 (c : Prop) : bI c = 0 ∨ bI c = 1 := by
  by_cases h : c
  · exact Or.inr (bI_t h)
  · exact Or.inl (bI_f h)
theorem bI_R (c : Prop) : R32 (bI c) := by rcases bI_01 c with h | h <;> rw [h] <;> omega
theorem bI_eq {c : Prop} (h : bI c = 0) : ¬ c := fun hc => by rw [bI_t hc] at h; omega
theorem bI_ne {c : Prop} (h : ¬ bI c = 0) : c := Classical.byContradiction fun hc => h (bI_f hc)
theorem bI_congr {a b : Prop} (h : a ↔ b) : bI a = bI b := by
  by_cases hb : b
  · rw [bI_t hb, bI_t (h.mpr hb)]
  · rw [bI_f hb, bI_f (fun ha => hb (h.mp ha))]
theorem bI_or (a b : Prop) : Int32.ofInt (bI a) ||| Int32.ofInt (bI b) = Int32.ofInt (bI (a ∨ b)) := by
  by_cases ha : a <;> by_cases hb : b
  · rw [bI_t ha, bI_t hb, bI_t (Or.inl ha)]; rfl
  · rw [bI_t ha, bI_f hb, bI_t (Or.inl ha)]; rfl
  · rw [bI_f ha, bI_t hb, bI_t (Or.inr hb)]; rfl
  · rw [bI_f ha, bI_f hb, bI_f (by rintro (h | h) <;> contradiction)]; rfl
theorem bI_and (a b : Prop) : Int32.ofInt (bI a) &&& Int32.ofInt (bI b) = Int32.ofInt (bI (a ∧ b)) := by
  by_cases ha : a <;> by_cases hb : b
  · rw [bI_t ha, bI_t hb, bI_t ⟨ha, hb⟩]; rfl
  · rw [bI_t ha, bI_f hb, bI_f (fun h => hb h.2)]; rfl
  · rw [bI_f ha, bI_t hb, bI_f (fun h => ha h.1)]; rfl
  · rw [bI_f ha, bI_f hb, bI_f (fun h => hb h.2)]; rfl
theorem bI_0 : (0 : Int) = bI False := (bI_f id).symm
theorem bI_1 : (1 : Int) = bI True := (bI_t trivial).symm
section BRows
variable {cc : ByteArray} {own : String} {nL : Nat} {ret : Option FieldType} {R : Room} {E : EQ} {pc q : Nat} {ls st : List AV} {mem : Mem}
theorem v_if_eqB {a : Prop} {off : Int} {tgt : Nat} (hd : decode cc pc = .ok (.ifCond .eq off, 3)) (ht : (pc : Int) + off = (tgt : Int)) (hq : pc + 3 = q) (kt : ¬ a → V cc own nL ret R E tgt ls st mem) (kf : a → V cc own nL ret R E q ls st mem) : V cc own nL ret R E pc ls (aI (bI a) :: st) mem :=
  v_if_eq hd ht hq (bI_R a) (fun h => kt (bI_eq h)) (fun h => kf (bI_ne h))
theorem v_if_neB {a : Prop} {off : Int} {tgt : Nat} (hd : decode cc pc = .ok (.ifCond .ne off, 3)) (ht : (pc : Int) + off = (tgt : Int)) (hq : pc + 3 = q) (kt : a → V cc own nL ret R E tgt ls st mem) (kf : ¬ a → V cc own nL ret R E q ls st mem) : V cc own nL ret R E pc ls (aI (bI a) :: st) mem :=
  v_if_ne hd ht hq (bI_R a) (fun h => kt (bI_ne h)) (fun h => kf (bI_eq h))
end BRows
