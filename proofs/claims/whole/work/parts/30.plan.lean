/-! ===== Plan: the system in the form for computing ===== -/
def hdR (r : Rl) : Int := r.1 * 5 + r.2.1 - 1
def nxR (r : Rl) : Int := if nd r.2.2.2.1 = 0 then 0 else r.2.2.1 * 5 + (if nd r.2.2.2.1 = 1 then r.2.2.2.1 else r.2.2.2.1 / 10) - 1
def blR (r : Rl) : Int := if nd r.2.2.2.1 = 2 then r.2.2.2.1 % 10 else 0
def PLk (m : Mem) (k : Int) (r : Rl) : Prop := m 32 k = hdR r ∧ m 33 k = r.2.2.1 ∧ m 34 k = nd r.2.2.2.1 ∧ m 35 k = nxR r ∧ m 36 k = blR r ∧ m 37 k = cr 16777216 r
def PL (m : Mem) (y : Sy) : Prop := m 29 0 = y.1 ∧ m 29 1 = y.2.2.2.2.length ∧ m 29 2 = y.2.2.1 ∧ WdIs m 30 (dgs y.2.2.2.1) ∧ ∀ k : Nat, (h : k < y.2.2.2.2.length) → PLk m k y.2.2.2.2[k]
theorem c_X2_takeRule (k : Int) (r : Rl) (mem : Mem) (S G : Int) (hk : 0 ≤ k ∧ k < 20) (hr : r = rl5 (mem 2) (k * 5)) (ok : okR S G r) (hG : G ≤ 5 ∧ S ≤ 4) : CtrV mX2_takeRule [aR 29, aR 1, aI k] mem (fun m => (∀ q, q < 32 ∨ 37 < q → m q = mem q) ∧ (∀ q j, j ≠ k → m q j = mem q j) ∧ PLk m k r) := by
  have g0 : mem 2 (k * 5 + 0) = r.1 := by rw [hr, Int.add_zero]; rfl
  have g1 : mem 2 (k * 5 + 1) = r.2.1 := by rw [hr]; rfl
  have g2 : mem 2 (k * 5 + 2) = r.2.2.1 := by rw [hr]; rfl
  have g3 : mem 2 (k * 5 + 3) = r.2.2.2.1 := by rw [hr]; rfl
  have g4 : mem 2 (k * 5 + 4) = r.2.2.2.2 := by rw [hr]; rfl
  obtain ⟨o1, o2, o3, ⟨o4, o4b⟩, o5⟩ := id ok
  have hw0 := o4.1
  have hw := dgs_2 o4.1 o4b
  have hn0 := nd_nn r.2.2.2.1
  have hw99 : r.2.2.2.1 ≤ 99 := by omega
  have n2 : ∀ (M : Mem) q i z, q ≠ 2 → um M q i z 2 = M 2 := fun M q i z h => um_ne _ _ _ (fun e => h e.symm)
  have n33 : ∀ (M : Mem) i z, um M 34 i z 33 = M 33 := fun M i z => um_ne _ _ _ (by decide)
  have n34 : ∀ (M : Mem) i z, um M 35 i z 34 = M 34 := fun M i z => um_ne _ _ _ (by decide)
  obtain ⟨M1, e1⟩ : ∃ M1, M1 = um mem 32 k (hdR r) := ⟨_, rfl⟩
  obtain ⟨M2, e2⟩ : ∃ M2, M2 = um M1 33 k r.2.2.1 := ⟨_, rfl⟩
  obtain ⟨M3, e3⟩ : ∃ M3, M3 = um M2 34 k (nd r.2.2.2.1) := ⟨_, rfl⟩
  have p1 : M1 2 = mem 2 := by rw [e1, n2 _ _ _ _ (by decide)]
  have p2 : M2 2 = mem 2 := by rw [e2, n2 _ _ _ _ (by decide), p1]
  have p3 : M3 2 = mem 2 := by rw [e3, n2 _ _ _ _ (by decide), p2]
  have s3 : M3 34 k = nd r.2.2.2.1 := by rw [e3, um_same, ui_same]
  have t3 : M3 33 k = r.2.2.1 := by rw [e3, n33, e2, um_same, ui_same]
  have fin : ∀ nx bl, nx = nxR r → bl = blR r → ∀ m, um (um (um M3 35 k nx) 36 k bl) 37 k (r.2.2.2.2 * 16777216 + 1) = m → (∀ q, q < 32 ∨ 37 < q → m q = mem q) ∧ (∀ q j, j ≠ k → m q j = mem q j) ∧ PLk m k r := fun nx bl h1 h2 m hm => by
    subst hm
    refine ⟨fun q hq => by rw [um_ne _ _ _ (by omega), um_ne _ _ _ (by omega), um_ne _ _ _ (by omega), e3, um_ne _ _ _ (by omega), e2, um_ne _ _ _ (by omega), e1, um_ne _ _ _ (by omega)], fun q j hj => ?_, ?_, ?_, ?_, ?_, ?_, ?_⟩
    · have key : ∀ (M : Mem) p z, um M p k z q j = M q j := fun M p z => by
        by_cases h : q = p
        · rw [h, um_same, ui_ne _ _ hj]
        · rw [um_ne _ _ _ h]
      rw [key, key, key, e3, key, e2, key, e1, key]
    · rw [um_ne _ _ _ (by decide), um_ne _ _ _ (by decide), um_ne _ _ _ (by decide), e3, um_ne _ _ _ (by decide), e2, um_ne _ _ _ (by decide), e1, um_same, ui_same]
    · rw [um_ne _ _ _ (by decide), um_ne _ _ _ (by decide), um_ne _ _ _ (by decide), t3]
    · rw [um_ne _ _ _ (by decide), um_ne _ _ _ (by decide), um_ne _ _ _ (by decide), s3]
    · rw [um_ne _ _ _ (by decide), um_ne _ _ _ (by decide), um_same, ui_same, h1]
    · rw [um_ne _ _ _ (by decide), um_same, ui_same, h2]
    · rw [um_same, ui_same]; rfl
  refine Ctr.ofV (ls := [aR 29, aR 1, aI k, aU]) rfl (by decide) rfl (Nat.le_of_ble_eq_true rfl) ?_
  refine v_aload_n (j := 1) (q := 1) rfl dX2_takeRule_0 rfl ?_
  refine v_iload_n (j := 2) (q := 2) rfl dX2_takeRule_1 rfl ?_
  refine v_iconst (q := 3) dX2_takeRule_2 rfl ?_
  refine v_cVI2 (q := 6) dX2_takeRule_3 mlX2_67 mdX4_part (by decide) kd_1 rfl rfl ⟨Nat.le_refl 0, Nat.le_refl 0⟩ (by exact Nat.le_of_ble_eq_true rfl) rfl (c_X4_part 1 k 3 mem su_1 (by omega) (by omega)) ?_
  rintro _ _ ⟨rfl, rfl⟩
  rw [show (1 + 1 : Nat) = 2 from rfl, g3]
  refine v_ist3 (q := 7) rfl dX2_takeRule_6 (by decide) rfl ?_
  refine v_aload_n (j := 0) (q := 8) rfl dX2_takeRule_7 rfl ?_
  refine v_getR (p' := 32) (q := 11) dX2_takeRule_8 fl_X2_28 kd_29 rfl (rfc_2_4 kd_29) rfl ?_
  refine v_iload_n (j := 2) (q := 12) rfl dX2_takeRule_11 rfl ?_
  refine v_aload_n (j := 1) (q := 13) rfl dX2_takeRule_12 rfl ?_
  refine v_iload_n (j := 2) (q := 14) rfl dX2_takeRule_13 rfl ?_
  refine v_iconst (q := 15) dX2_takeRule_14 rfl ?_
  refine v_cVI2 (q := 18) dX2_takeRule_15 mlX2_67 mdX4_part (by decide) kd_1 rfl rfl ⟨Nat.le_refl 0, Nat.le_refl 0⟩ (by exact Nat.le_of_ble_eq_true rfl) rfl (c_X4_part 1 k 0 mem su_1 (by omega) (by omega)) ?_
  rintro _ _ ⟨rfl, rfl⟩
  rw [show (1 + 1 : Nat) = 2 from rfl, g0]
  refine v_aload_n (j := 1) (q := 19) rfl dX2_takeRule_18 rfl ?_
  refine v_iload_n (j := 2) (q := 20) rfl dX2_takeRule_19 rfl ?_
  refine v_iconst (q := 21) dX2_takeRule_20 rfl ?_
  refine v_cVI2 (q := 24) dX2_takeRule_21 mlX2_67 mdX4_part (by decide) kd_1 rfl rfl ⟨Nat.le_refl 0, Nat.le_refl 0⟩ (by exact Nat.le_of_ble_eq_true rfl) rfl (c_X4_part 1 k 1 mem su_1 (by omega) (by omega)) ?_
  rintro _ _ ⟨rfl, rfl⟩
  rw [show (1 + 1 : Nat) = 2 from rfl, g1]
  refine v_cSNI2 (q := 27) dX2_takeRule_24 mlX2_71 mdX9_headOf (by decide) ⟨Nat.le_refl 0, Nat.le_refl 0⟩ (by exact Nat.le_of_ble_eq_true rfl) rfl (c_X9_headOf _ _ mem) ?_
  rintro _ _ ⟨rfl, rfl⟩
  refine v_iast (q := 28) dX2_takeRule_27 kd_32 (by omega) (by omega) rfl ?_
  rw [show um mem 32 k (r.1 * 5 + r.2.1 - 1) = M1 from e1.symm]
  refine v_aload_n (j := 0) (q := 29) rfl dX2_takeRule_28 rfl ?_
  refine v_getR (p' := 33) (q := 32) dX2_takeRule_29 fl_X2_32 kd_29 rfl (rfc_2_5 kd_29) rfl ?_
  refine v_iload_n (j := 2) (q := 33) rfl dX2_takeRule_32 rfl ?_
  refine v_aload_n (j := 1) (q := 34) rfl dX2_takeRule_33 rfl ?_
  refine v_iload_n (j := 2) (q := 35) rfl dX2_takeRule_34 rfl ?_
  refine v_iconst (q := 36) dX2_takeRule_35 rfl ?_
  refine v_cVI2 (q := 39) dX2_takeRule_36 mlX2_67 mdX4_part (by decide) kd_1 rfl rfl ⟨Nat.le_refl 0, Nat.le_refl 0⟩ (by exact Nat.le_of_ble_eq_true rfl) rfl (c_X4_part 1 k 2 M1 su_1 (by omega) (by omega)) ?_
  rintro _ _ ⟨rfl, rfl⟩
  rw [show (1 + 1 : Nat) = 2 from rfl, p1, g2]
  refine v_iast (q := 40) dX2_takeRule_39 kd_33 (by omega) (by omega) rfl ?_
  rw [← e2]
  refine v_aload_n (j := 0) (q := 41) rfl dX2_takeRule_40 rfl ?_
  refine v_getR (p' := 34) (q := 44) dX2_takeRule_41 fl_X2_35 kd_29 rfl (rfc_2_6 kd_29) rfl ?_
  refine v_iload_n (j := 2) (q := 45) rfl dX2_takeRule_44 rfl ?_
  refine v_iload_n (j := 3) (q := 46) rfl dX2_takeRule_45 rfl ?_
  refine v_cSNI1 (q := 49) dX2_takeRule_46 mlX2_74 mdX9_digitsOf (by decide) ⟨Nat.le_refl 0, Nat.le_refl 0⟩ (by exact Nat.le_of_ble_eq_true rfl) rfl (c_X9_digitsOf _ M2 (by omega)) ?_
  rintro _ _ ⟨rfl, rfl⟩
  refine v_iast (q := 50) dX2_takeRule_49 kd_34 (by omega) (by omega) rfl ?_
  rw [← e3]
  refine v_aload_n (j := 0) (q := 51) rfl dX2_takeRule_50 rfl ?_
  refine v_getR (p' := 35) (q := 54) dX2_takeRule_51 fl_X2_38 kd_29 rfl (rfc_2_7 kd_29) rfl ?_
  refine v_iload_n (j := 2) (q := 55) rfl dX2_takeRule_54 rfl ?_
  refine v_aload_n (j := 0) (q := 56) rfl dX2_takeRule_55 rfl ?_
  refine v_getR (p' := 34) (q := 59) dX2_takeRule_56 fl_X2_35 kd_29 rfl (rfc_2_6 kd_29) rfl ?_
  refine v_iload_n (j := 2) (q := 60) rfl dX2_takeRule_59 rfl ?_
  refine v_iald (q := 61) dX2_takeRule_60 kd_34 (by omega) (by omega) rfl ?_
  rw [s3]
  refine v_if_ne (tgt := 68) (q := 64) dX2_takeRule_61 (by decide) rfl (by omega) (fun h61 => ?_) (fun h61 => ?_)
  · refine v_aload_n (j := 0) (q := 69) rfl dX2_takeRule_68 rfl ?_
    refine v_getR (p' := 33) (q := 72) dX2_takeRule_69 fl_X2_32 kd_29 rfl (rfc_2_5 kd_29) rfl ?_
    refine v_iload_n (j := 2) (q := 73) rfl dX2_takeRule_72 rfl ?_
    refine v_iald (q := 74) dX2_takeRule_73 kd_33 (by omega) (by omega) rfl ?_
    rw [t3]
    refine v_aload_n (j := 0) (q := 75) rfl dX2_takeRule_74 rfl ?_
    refine v_getR (p' := 34) (q := 78) dX2_takeRule_75 fl_X2_35 kd_29 rfl (rfc_2_6 kd_29) rfl ?_
    refine v_iload_n (j := 2) (q := 79) rfl dX2_takeRule_78 rfl ?_
    refine v_iald (q := 80) dX2_takeRule_79 kd_34 (by omega) (by omega) rfl ?_
    rw [s3]
    refine v_iconst (q := 81) dX2_takeRule_80 rfl ?_
    refine v_icmp_ne (tgt := 88) (q := 84) dX2_takeRule_81 (by decide) rfl (by omega) (by omega) (fun h81 => ?_) (fun h81 => ?_)
    · refine v_iload_n (j := 3) (q := 89) rfl dX2_takeRule_88 rfl ?_
      refine v_bipush (q := 91) (by decide) dX2_takeRule_89 rfl ?_
      refine v_idiv (q := 92) (by omega) (by omega) dX2_takeRule_91 rfl ?_
      refine v_cSNI2 (q := 95) dX2_takeRule_92 mlX2_71 mdX9_headOf (by decide) ⟨Nat.le_refl 0, Nat.le_refl 0⟩ (by exact Nat.le_of_ble_eq_true rfl) rfl (c_X9_headOf _ _ M3) ?_
      rintro _ _ ⟨rfl, rfl⟩
      refine v_iast (q := 96) dX2_takeRule_95 kd_35 (by omega) (by omega) rfl ?_
      refine v_aload_n (j := 0) (q := 97) rfl dX2_takeRule_96 rfl ?_
      refine v_getR (p' := 36) (q := 100) dX2_takeRule_97 fl_X2_41 kd_29 rfl (rfc_2_8 kd_29) rfl ?_
      refine v_iload_n (j := 2) (q := 101) rfl dX2_takeRule_100 rfl ?_
      refine v_aload_n (j := 0) (q := 102) rfl dX2_takeRule_101 rfl ?_
      refine v_getR (p' := 34) (q := 105) dX2_takeRule_102 fl_X2_35 kd_29 rfl (rfc_2_6 kd_29) rfl ?_
      refine v_iload_n (j := 2) (q := 106) rfl dX2_takeRule_105 rfl ?_
      refine v_iald (q := 107) dX2_takeRule_106 kd_34 (by omega) (by omega) rfl ?_
      rw [n34, s3]
      refine v_iconst (q := 108) dX2_takeRule_107 rfl ?_
      refine v_icmp_ne (tgt := 118) (q := 111) dX2_takeRule_108 (by decide) rfl (by omega) (by omega) (fun h108 => ?_) (fun h108 => ?_)
      · refine v_iconst (q := 119) dX2_takeRule_118 rfl ?_
        refine v_iast (q := 120) dX2_takeRule_119 kd_36 (by omega) (by omega) rfl ?_
        refine v_aload_n (j := 0) (q := 121) rfl dX2_takeRule_120 rfl ?_
        refine v_getR (p' := 37) (q := 124) dX2_takeRule_121 fl_X2_44 kd_29 rfl (rfc_2_9 kd_29) rfl ?_
        refine v_iload_n (j := 2) (q := 125) rfl dX2_takeRule_124 rfl ?_
        refine v_aload_n (j := 1) (q := 126) rfl dX2_takeRule_125 rfl ?_
        refine v_iload_n (j := 2) (q := 127) rfl dX2_takeRule_126 rfl ?_
        refine v_iconst (q := 128) dX2_takeRule_127 rfl ?_
        refine v_cVI2 (q := 131) dX2_takeRule_128 mlX2_67 mdX4_part (by decide) kd_1 rfl rfl ⟨Nat.le_refl 0, Nat.le_refl 0⟩ (by exact Nat.le_of_ble_eq_true rfl) rfl (c_X4_part 1 k 4 _ su_1 (by omega) (by omega)) ?_
        rintro _ _ ⟨rfl, rfl⟩
        rw [show (1 + 1 : Nat) = 2 from rfl, n2 _ _ _ _ (by decide), n2 _ _ _ _ (by decide), p3, g4]
        refine v_cSNL1 (q := 134) dX2_takeRule_131 mlX2_78 mdX9_costOfWeight (by decide) ⟨Nat.le_refl 0, Nat.le_refl 0⟩ (by exact Nat.le_of_ble_eq_true rfl) rfl (c_X9_costOfWeight _ _ (by omega)) ?_
        rintro _ _ ⟨rfl, rfl⟩
        refine v_lconst1 (q := 135) dX2_takeRule_134 rfl ?_
        refine v_ladd (q := 136) dX2_takeRule_135 rfl ?_
        refine v_last (q := 137) dX2_takeRule_136 kd_37 (by omega) (by omega) rfl ?_
        refine v_vret dX2_takeRule_137 ?_
        refine ⟨rfl, fin _ _ ?_ ?_ _ rfl⟩
        · unfold nxR
          first
            | (rw [if_pos (by omega)]; done)
            | (rw [if_neg (by omega), if_pos (by omega)]; done)
            | (rw [if_neg (by omega), if_neg (by omega)]; done)
        · unfold blR
          first
            | (rw [if_pos (by omega)]; done)
            | (rw [if_neg (by omega)]; done)
      · refine v_iload_n (j := 3) (q := 112) rfl dX2_takeRule_111 rfl ?_
        refine v_bipush (q := 114) (by decide) dX2_takeRule_112 rfl ?_
        refine v_irem (q := 115) (by omega) (by omega) dX2_takeRule_114 rfl ?_
        refine v_goto (q := 119) dX2_takeRule_115 (by decide) ?_
        refine v_iast (q := 120) dX2_takeRule_119 kd_36 (by omega) (by omega) rfl ?_
        refine v_aload_n (j := 0) (q := 121) rfl dX2_takeRule_120 rfl ?_
        refine v_getR (p' := 37) (q := 124) dX2_takeRule_121 fl_X2_44 kd_29 rfl (rfc_2_9 kd_29) rfl ?_
        refine v_iload_n (j := 2) (q := 125) rfl dX2_takeRule_124 rfl ?_
        refine v_aload_n (j := 1) (q := 126) rfl dX2_takeRule_125 rfl ?_
        refine v_iload_n (j := 2) (q := 127) rfl dX2_takeRule_126 rfl ?_
        refine v_iconst (q := 128) dX2_takeRule_127 rfl ?_
        refine v_cVI2 (q := 131) dX2_takeRule_128 mlX2_67 mdX4_part (by decide) kd_1 rfl rfl ⟨Nat.le_refl 0, Nat.le_refl 0⟩ (by exact Nat.le_of_ble_eq_true rfl) rfl (c_X4_part 1 k 4 _ su_1 (by omega) (by omega)) ?_
        rintro _ _ ⟨rfl, rfl⟩
        rw [show (1 + 1 : Nat) = 2 from rfl, n2 _ _ _ _ (by decide), n2 _ _ _ _ (by decide), p3, g4]
        refine v_cSNL1 (q := 134) dX2_takeRule_131 mlX2_78 mdX9_costOfWeight (by decide) ⟨Nat.le_refl 0, Nat.le_refl 0⟩ (by exact Nat.le_of_ble_eq_true rfl) rfl (c_X9_costOfWeight _ _ (by omega)) ?_
        rintro _ _ ⟨rfl, rfl⟩
        refine v_lconst1 (q := 135) dX2_takeRule_134 rfl ?_
        refine v_ladd (q := 136) dX2_takeRule_135 rfl ?_
        refine v_last (q := 137) dX2_takeRule_136 kd_37 (by omega) (by omega) rfl ?_
        refine v_vret dX2_takeRule_137 ?_
        refine ⟨rfl, fin _ _ ?_ ?_ _ rfl⟩
        · unfold nxR
          first
            | (rw [if_pos (by omega)]; done)
            | (rw [if_neg (by omega), if_pos (by omega)]; done)
            | (rw [if_neg (by omega), if_neg (by omega)]; done)
        · unfold blR
          first
            | (rw [if_pos (by omega)]; done)
            | (rw [if_neg (by omega)]; done)
    · refine v_iload_n (j := 3) (q := 85) rfl dX2_takeRule_84 rfl ?_
      refine v_goto (q := 92) dX2_takeRule_85 (by decide) ?_
      refine v_cSNI2 (q := 95) dX2_takeRule_92 mlX2_71 mdX9_headOf (by decide) ⟨Nat.le_refl 0, Nat.le_refl 0⟩ (by exact Nat.le_of_ble_eq_true rfl) rfl (c_X9_headOf _ _ M3) ?_
      rintro _ _ ⟨rfl, rfl⟩
      refine v_iast (q := 96) dX2_takeRule_95 kd_35 (by omega) (by omega) rfl ?_
      refine v_aload_n (j := 0) (q := 97) rfl dX2_takeRule_96 rfl ?_
      refine v_getR (p' := 36) (q := 100) dX2_takeRule_97 fl_X2_41 kd_29 rfl (rfc_2_8 kd_29) rfl ?_
      refine v_iload_n (j := 2) (q := 101) rfl dX2_takeRule_100 rfl ?_
      refine v_aload_n (j := 0) (q := 102) rfl dX2_takeRule_101 rfl ?_
      refine v_getR (p' := 34) (q := 105) dX2_takeRule_102 fl_X2_35 kd_29 rfl (rfc_2_6 kd_29) rfl ?_
      refine v_iload_n (j := 2) (q := 106) rfl dX2_takeRule_105 rfl ?_
      refine v_iald (q := 107) dX2_takeRule_106 kd_34 (by omega) (by omega) rfl ?_
      rw [n34, s3]
      refine v_iconst (q := 108) dX2_takeRule_107 rfl ?_
      refine v_icmp_ne (tgt := 118) (q := 111) dX2_takeRule_108 (by decide) rfl (by omega) (by omega) (fun h108 => ?_) (fun h108 => ?_)
      · refine v_iconst (q := 119) dX2_takeRule_118 rfl ?_
        refine v_iast (q := 120) dX2_takeRule_119 kd_36 (by omega) (by omega) rfl ?_
        refine v_aload_n (j := 0) (q := 121) rfl dX2_takeRule_120 rfl ?_
        refine v_getR (p' := 37) (q := 124) dX2_takeRule_121 fl_X2_44 kd_29 rfl (rfc_2_9 kd_29) rfl ?_
        refine v_iload_n (j := 2) (q := 125) rfl dX2_takeRule_124 rfl ?_
        refine v_aload_n (j := 1) (q := 126) rfl dX2_takeRule_125 rfl ?_
        refine v_iload_n (j := 2) (q := 127) rfl dX2_takeRule_126 rfl ?_
        refine v_iconst (q := 128) dX2_takeRule_127 rfl ?_
        refine v_cVI2 (q := 131) dX2_takeRule_128 mlX2_67 mdX4_part (by decide) kd_1 rfl rfl ⟨Nat.le_refl 0, Nat.le_refl 0⟩ (by exact Nat.le_of_ble_eq_true rfl) rfl (c_X4_part 1 k 4 _ su_1 (by omega) (by omega)) ?_
        rintro _ _ ⟨rfl, rfl⟩
        rw [show (1 + 1 : Nat) = 2 from rfl, n2 _ _ _ _ (by decide), n2 _ _ _ _ (by decide), p3, g4]
        refine v_cSNL1 (q := 134) dX2_takeRule_131 mlX2_78 mdX9_costOfWeight (by decide) ⟨Nat.le_refl 0, Nat.le_refl 0⟩ (by exact Nat.le_of_ble_eq_true rfl) rfl (c_X9_costOfWeight _ _ (by omega)) ?_
        rintro _ _ ⟨rfl, rfl⟩
        refine v_lconst1 (q := 135) dX2_takeRule_134 rfl ?_
        refine v_ladd (q := 136) dX2_takeRule_135 rfl ?_
        refine v_last (q := 137) dX2_takeRule_136 kd_37 (by omega) (by omega) rfl ?_
        refine v_vret dX2_takeRule_137 ?_
        refine ⟨rfl, fin _ _ ?_ ?_ _ rfl⟩
        · unfold nxR
          first
            | (rw [if_pos (by omega)]; done)
            | (rw [if_neg (by omega), if_pos (by omega)]; done)
            | (rw [if_neg (by omega), if_neg (by omega)]; done)
        · unfold blR
          first
            | (rw [if_pos (by omega)]; done)
            | (rw [if_neg (by omega)]; done)
      · refine v_iload_n (j := 3) (q := 112) rfl dX2_takeRule_111 rfl ?_
        refine v_bipush (q := 114) (by decide) dX2_takeRule_112 rfl ?_
        refine v_irem (q := 115) (by omega) (by omega) dX2_takeRule_114 rfl ?_
        refine v_goto (q := 119) dX2_takeRule_115 (by decide) ?_
        refine v_iast (q := 120) dX2_takeRule_119 kd_36 (by omega) (by omega) rfl ?_
        refine v_aload_n (j := 0) (q := 121) rfl dX2_takeRule_120 rfl ?_
        refine v_getR (p' := 37) (q := 124) dX2_takeRule_121 fl_X2_44 kd_29 rfl (rfc_2_9 kd_29) rfl ?_
        refine v_iload_n (j := 2) (q := 125) rfl dX2_takeRule_124 rfl ?_
        refine v_aload_n (j := 1) (q := 126) rfl dX2_takeRule_125 rfl ?_
        refine v_iload_n (j := 2) (q := 127) rfl dX2_takeRule_126 rfl ?_
        refine v_iconst (q := 128) dX2_takeRule_127 rfl ?_
        refine v_cVI2 (q := 131) dX2_takeRule_128 mlX2_67 mdX4_part (by decide) kd_1 rfl rfl ⟨Nat.le_refl 0, Nat.le_refl 0⟩ (by exact Nat.le_of_ble_eq_true rfl) rfl (c_X4_part 1 k 4 _ su_1 (by omega) (by omega)) ?_
        rintro _ _ ⟨rfl, rfl⟩
        rw [show (1 + 1 : Nat) = 2 from rfl, n2 _ _ _ _ (by decide), n2 _ _ _ _ (by decide), p3, g4]
        refine v_cSNL1 (q := 134) dX2_takeRule_131 mlX2_78 mdX9_costOfWeight (by decide) ⟨Nat.le_refl 0, Nat.le_refl 0⟩ (by exact Nat.le_of_ble_eq_true rfl) rfl (c_X9_costOfWeight _ _ (by omega)) ?_
        rintro _ _ ⟨rfl, rfl⟩
        refine v_lconst1 (q := 135) dX2_takeRule_134 rfl ?_
        refine v_ladd (q := 136) dX2_takeRule_135 rfl ?_
        refine v_last (q := 137) dX2_takeRule_136 kd_37 (by omega) (by omega) rfl ?_
        refine v_vret dX2_takeRule_137 ?_
        refine ⟨rfl, fin _ _ ?_ ?_ _ rfl⟩
        · unfold nxR
          first
            | (rw [if_pos (by omega)]; done)
            | (rw [if_neg (by omega), if_pos (by omega)]; done)
            | (rw [if_neg (by omega), if_neg (by omega)]; done)
        · unfold blR
          first
            | (rw [if_pos (by omega)]; done)
            | (rw [if_neg (by omega)]; done)
  · refine v_iconst (q := 65) dX2_takeRule_64 rfl ?_
    refine v_goto (q := 95) dX2_takeRule_65 (by decide) ?_
    refine v_iast (q := 96) dX2_takeRule_95 kd_35 (by omega) (by omega) rfl ?_
    refine v_aload_n (j := 0) (q := 97) rfl dX2_takeRule_96 rfl ?_
    refine v_getR (p' := 36) (q := 100) dX2_takeRule_97 fl_X2_41 kd_29 rfl (rfc_2_8 kd_29) rfl ?_
    refine v_iload_n (j := 2) (q := 101) rfl dX2_takeRule_100 rfl ?_
    refine v_aload_n (j := 0) (q := 102) rfl dX2_takeRule_101 rfl ?_
    refine v_getR (p' := 34) (q := 105) dX2_takeRule_102 fl_X2_35 kd_29 rfl (rfc_2_6 kd_29) rfl ?_
    refine v_iload_n (j := 2) (q := 106) rfl dX2_takeRule_105 rfl ?_
    refine v_iald (q := 107) dX2_takeRule_106 kd_34 (by omega) (by omega) rfl ?_
    rw [n34, s3]
    refine v_iconst (q := 108) dX2_takeRule_107 rfl ?_
    refine v_icmp_ne (tgt := 118) (q := 111) dX2_takeRule_108 (by decide) rfl (by omega) (by omega) (fun h108 => ?_) (fun h108 => ?_)
    · refine v_iconst (q := 119) dX2_takeRule_118 rfl ?_
      refine v_iast (q := 120) dX2_takeRule_119 kd_36 (by omega) (by omega) rfl ?_
      refine v_aload_n (j := 0) (q := 121) rfl dX2_takeRule_120 rfl ?_
      refine v_getR (p' := 37) (q := 124) dX2_takeRule_121 fl_X2_44 kd_29 rfl (rfc_2_9 kd_29) rfl ?_
      refine v_iload_n (j := 2) (q := 125) rfl dX2_takeRule_124 rfl ?_
      refine v_aload_n (j := 1) (q := 126) rfl dX2_takeRule_125 rfl ?_
      refine v_iload_n (j := 2) (q := 127) rfl dX2_takeRule_126 rfl ?_
      refine v_iconst (q := 128) dX2_takeRule_127 rfl ?_
      refine v_cVI2 (q := 131) dX2_takeRule_128 mlX2_67 mdX4_part (by decide) kd_1 rfl rfl ⟨Nat.le_refl 0, Nat.le_refl 0⟩ (by exact Nat.le_of_ble_eq_true rfl) rfl (c_X4_part 1 k 4 _ su_1 (by omega) (by omega)) ?_
      rintro _ _ ⟨rfl, rfl⟩
      rw [show (1 + 1 : Nat) = 2 from rfl, n2 _ _ _ _ (by decide), n2 _ _ _ _ (by decide), p3, g4]
      refine v_cSNL1 (q := 134) dX2_takeRule_131 mlX2_78 mdX9_costOfWeight (by decide) ⟨Nat.le_refl 0, Nat.le_refl 0⟩ (by exact Nat.le_of_ble_eq_true rfl) rfl (c_X9_costOfWeight _ _ (by omega)) ?_
      rintro _ _ ⟨rfl, rfl⟩
      refine v_lconst1 (q := 135) dX2_takeRule_134 rfl ?_
      refine v_ladd (q := 136) dX2_takeRule_135 rfl ?_
      refine v_last (q := 137) dX2_takeRule_136 kd_37 (by omega) (by omega) rfl ?_
      refine v_vret dX2_takeRule_137 ?_
      refine ⟨rfl, fin _ _ ?_ ?_ _ rfl⟩
      · unfold nxR
        first
          | (rw [if_pos (by omega)]; done)
          | (rw [if_neg (by omega), if_pos (by omega)]; done)
          | (rw [if_neg (by omega), if_neg (by omega)]; done)
      · unfold blR
        first
          | (rw [if_pos (by omega)]; done)
          | (rw [if_neg (by omega)]; done)
    · refine v_iload_n (j := 3) (q := 112) rfl dX2_takeRule_111 rfl ?_
      refine v_bipush (q := 114) (by decide) dX2_takeRule_112 rfl ?_
      refine v_irem (q := 115) (by omega) (by omega) dX2_takeRule_114 rfl ?_
      refine v_goto (q := 119) dX2_takeRule_115 (by decide) ?_
      refine v_iast (q := 120) dX2_takeRule_119 kd_36 (by omega) (by omega) rfl ?_
      refine v_aload_n (j := 0) (q := 121) rfl dX2_takeRule_120 rfl ?_
      refine v_getR (p' := 37) (q := 124) dX2_takeRule_121 fl_X2_44 kd_29 rfl (rfc_2_9 kd_29) rfl ?_
      refine v_iload_n (j := 2) (q := 125) rfl dX2_takeRule_124 rfl ?_
      refine v_aload_n (j := 1) (q := 126) rfl dX2_takeRule_125 rfl ?_
      refine v_iload_n (j := 2) (q := 127) rfl dX2_takeRule_126 rfl ?_
      refine v_iconst (q := 128) dX2_takeRule_127 rfl ?_
      refine v_cVI2 (q := 131) dX2_takeRule_128 mlX2_67 mdX4_part (by decide) kd_1 rfl rfl ⟨Nat.le_refl 0, Nat.le_refl 0⟩ (by exact Nat.le_of_ble_eq_true rfl) rfl (c_X4_part 1 k 4 _ su_1 (by omega) (by omega)) ?_
      rintro _ _ ⟨rfl, rfl⟩
      rw [show (1 + 1 : Nat) = 2 from rfl, n2 _ _ _ _ (by decide), n2 _ _ _ _ (by decide), p3, g4]
      refine v_cSNL1 (q := 134) dX2_takeRule_131 mlX2_78 mdX9_costOfWeight (by decide) ⟨Nat.le_refl 0, Nat.le_refl 0⟩ (by exact Nat.le_of_ble_eq_true rfl) rfl (c_X9_costOfWeight _ _ (by omega)) ?_
      rintro _ _ ⟨rfl, rfl⟩
      refine v_lconst1 (q := 135) dX2_takeRule_134 rfl ?_
      refine v_ladd (q := 136) dX2_takeRule_135 rfl ?_
      refine v_last (q := 137) dX2_takeRule_136 kd_37 (by omega) (by omega) rfl ?_
      refine v_vret dX2_takeRule_137 ?_
      refine ⟨rfl, fin _ _ ?_ ?_ _ rfl⟩
      · unfold nxR
        first
          | (rw [if_pos (by omega)]; done)
          | (rw [if_neg (by omega), if_pos (by omega)]; done)
          | (rw [if_neg (by omega), if_neg (by omega)]; done)
      · unfold blR
        first
          | (rw [if_pos (by omega)]; done)
          | (rw [if_neg (by omega)]; done)
theorem l_X2_takeFrom (y : Sy) (M0 : Mem) (hy : SR M0 1 y) : ∀ (j : Nat) (k : Nat) (M : Mem), k + j = y.2.2.2.2.length → (∀ q, q < 29 ∨ 37 < q → M q = M0 q) → M 29 0 = y.1 → M 29 1 = y.2.2.2.2.length → M 29 2 = y.2.2.1 → WdIs M 30 (dgs y.2.2.2.1) → (∀ i : Nat, (h : i < k) → (h2 : i < y.2.2.2.2.length) → PLk M i y.2.2.2.2[i]) →
    V cX2_takeFrom RX2 3 none (rmk 2 49) (mE (fun r m => r = aU ∧ (∀ q, q < 29 ∨ 37 < q → m q = M0 q) ∧ PL m y)) 42 [aR 29, aR 1, aI k] [] M := by
  have f := hy.facts
  have hc := (eA hy).2.2.2.2
  intro j
  induction j with
  | zero =>
    intro k M h1 h2 h3 h4 h5 h6 h7
    refine v_iload_n (j := 2) (q := 43) rfl dX2_takeFrom_42 rfl ?_
    refine v_aload_n (j := 0) (q := 44) rfl dX2_takeFrom_43 rfl ?_
    refine v_getI (j := 1) (q := 47) dX2_takeFrom_44 fl_X2_15 kd_29 rfl rfl rfl ?_
    refine v_icmp_ge (tgt := 62) (q := 50) dX2_takeFrom_47 (by decide) rfl (by omega) (by rw [h4]; omega) (fun h47 => ?_) (fun h47 => ?_)
    · refine v_vret dX2_takeFrom_62 ?_
      exact ⟨rfl, h2, h3, h4, h5, h6, fun i hi => h7 i (by omega) hi⟩
    · exact absurd h47 (by rw [h4]; omega)
  | succ j ih =>
    intro k M h1 h2 h3 h4 h5 h6 h7
    have hk : k < y.2.2.2.2.length := by omega
    have m2 : M 2 = M0 2 := h2 2 (by omega)
    have er : y.2.2.2.2[k] = rl5 (M 2) ((k : Int) * 5) := by
      have e1 := rls_at (M0 2) 0 (n := (M0 1 4).toNat) (k := k) (by omega)
      rw [← hc.1, List.getElem?_eq_getElem hk] at e1
      rw [Option.some.inj e1, m2, show (0 : Int) + 5 * (k : Int) = (k : Int) * 5 by omega]
    have ok := hy.2.2.1.2.2.2.2.2 _ (List.getElem_mem hk)
    have okG := hy.2.2.1.2.1
    have okS := hy.2.2.1.1
    refine v_iload_n (j := 2) (q := 43) rfl dX2_takeFrom_42 rfl ?_
    refine v_aload_n (j := 0) (q := 44) rfl dX2_takeFrom_43 rfl ?_
    refine v_getI (j := 1) (q := 47) dX2_takeFrom_44 fl_X2_15 kd_29 rfl rfl rfl ?_
    refine v_icmp_ge (tgt := 62) (q := 50) dX2_takeFrom_47 (by decide) rfl (by omega) (by rw [h4]; omega) (fun h47 => ?_) (fun h47 => ?_)
    · exact absurd h47 (by rw [h4]; omega)
    · refine v_aload_n (j := 0) (q := 51) rfl dX2_takeFrom_50 rfl ?_
      refine v_aload_n (j := 1) (q := 52) rfl dX2_takeFrom_51 rfl ?_
      refine v_iload_n (j := 2) (q := 53) rfl dX2_takeFrom_52 rfl ?_
      refine v_cVV2 (q := 56) dX2_takeFrom_53 mlX2_63 mdX2_takeRule (by decide) kd_29 rfl rfl ⟨Nat.le_refl 0, Nat.le_refl 0⟩ (by exact Nat.le_of_ble_eq_true rfl) rfl (c_X2_takeRule k _ M y.1 y.2.1 (by omega) er ok (by omega)) ?_
      rintro m1 ⟨q1, q2, q3⟩
      refine v_iinc2 (q := 59) rfl dX2_takeFrom_56 (by decide) rfl ?_
      refine v_goto (q := 42) dX2_takeFrom_59 (by decide) ?_
      have e29 := q1 29 (by omega)
      have hk2 := ih (k + 1) m1 (by omega) (fun q hq => by rw [q1 q (by omega), h2 q hq]) (by rw [e29]; exact h3) (by rw [e29]; exact h4) (by rw [e29]; exact h5) (h6.congr (q1 30 (by omega)) (q1 31 (by omega))) (fun i hi h9 => by
        by_cases hik : i = k
        · subst hik; exact q3
        · have p := h7 i (by omega) h9
          unfold PLk at p ⊢
          rw [q2 32 i (by omega), q2 33 i (by omega), q2 34 i (by omega), q2 35 i (by omega), q2 36 i (by omega), q2 37 i (by omega)]
          exact p)
      rw [show ((k + 1 : Nat) : Int) = (k : Int) + 1 by omega] at hk2
      exact hk2
theorem c_X2_takeFrom (y : Sy) (mem : Mem) (hy : SR mem 1 y) : CtrV mX2_takeFrom [aR 29, aR 1] mem (fun m => (∀ q, q < 29 ∨ 37 < q → m q = mem q) ∧ PL m y) := by
  have f := hy.facts
  obtain ⟨a1, a2, a3, a4, a5, hc⟩ := eA hy
  have n1 : ∀ (M : Mem) i z, um M 29 i z 1 = M 1 := fun M i z => um_ne _ _ _ (by decide)
  obtain ⟨N, hN⟩ : ∃ N, N = um (um (um mem 29 0 (mem 1 0)) 29 1 (mem 1 4)) 29 2 (mem 1 2) := ⟨_, rfl⟩
  have no : ∀ q, q ≠ 29 → N q = mem q := fun q hq => by rw [hN, um_ne _ _ _ hq, um_ne _ _ _ hq, um_ne _ _ _ hq]
  have n29 : N 29 = ui (ui (ui (mem 29) 0 (mem 1 0)) 1 (mem 1 4)) 2 (mem 1 2) := by rw [hN, um_same, um_same, um_same]
  have e1 := no 1 (by decide)
  refine Ctr.ofV (ls := [aR 29, aR 1, aU]) rfl (by decide) rfl (Nat.le_of_ble_eq_true rfl) ?_
  refine v_aload_n (j := 0) (q := 1) rfl dX2_takeFrom_0 rfl ?_
  refine v_aload_n (j := 1) (q := 2) rfl dX2_takeFrom_1 rfl ?_
  refine v_getI (j := 0) (q := 5) dX2_takeFrom_2 fl_X2_48 kd_1 rfl rfl rfl ?_
  refine v_putI (j := 0) (q := 8) dX2_takeFrom_5 fl_X2_9 kd_29 rfl rfl rfl ?_
  refine v_aload_n (j := 0) (q := 9) rfl dX2_takeFrom_8 rfl ?_
  refine v_aload_n (j := 1) (q := 10) rfl dX2_takeFrom_9 rfl ?_
  refine v_getI (j := 4) (q := 13) dX2_takeFrom_10 fl_X2_51 kd_1 rfl rfl rfl ?_
  rw [n1]
  refine v_putI (j := 1) (q := 16) dX2_takeFrom_13 fl_X2_15 kd_29 rfl rfl rfl ?_
  refine v_aload_n (j := 0) (q := 17) rfl dX2_takeFrom_16 rfl ?_
  refine v_aload_n (j := 1) (q := 18) rfl dX2_takeFrom_17 rfl ?_
  refine v_getI (j := 2) (q := 21) dX2_takeFrom_18 fl_X2_52 kd_1 rfl rfl rfl ?_
  rw [n1, n1]
  refine v_putI (j := 2) (q := 24) dX2_takeFrom_21 fl_X2_18 kd_29 rfl rfl rfl ?_
  rw [← hN]
  refine v_aload_n (j := 0) (q := 25) rfl dX2_takeFrom_24 rfl ?_
  refine v_getR (p' := 30) (q := 28) dX2_takeFrom_25 fl_X2_24 kd_29 rfl (rfc_2_3 kd_29) rfl ?_
  refine v_aload_n (j := 1) (q := 29) rfl dX2_takeFrom_28 rfl ?_
  refine v_getI (j := 3) (q := 32) dX2_takeFrom_29 fl_X2_53 kd_1 rfl rfl rfl ?_
  rw [e1]
  refine v_aload_n (j := 1) (q := 33) rfl dX2_takeFrom_32 rfl ?_
  refine v_getI (j := 1) (q := 36) dX2_takeFrom_33 fl_X2_56 kd_1 rfl rfl rfl ?_
  rw [e1]
  refine v_cVI2 (q := 39) dX2_takeFrom_36 mlX2_59 mdX8_take (by decide) kd_30 rfl rfl ⟨Nat.le_refl 0, Nat.le_refl 0⟩ (by exact Nat.le_of_ble_eq_true rfl) rfl (c_X8_take 30 _ _ N (by unfold isWd; decide) (by omega) (by omega)) ?_
  rintro _ m1 ⟨t1, rfl, t3, t4⟩
  refine v_pop (q := 40) rfl dX2_takeFrom_39 rfl ?_
  refine v_iconst (q := 41) dX2_takeFrom_40 rfl ?_
  refine v_ist2 (q := 42) rfl dX2_takeFrom_41 (by decide) rfl ?_
  have tw := t3 f.2.2.2.1.1
  rw [← a4] at tw
  have m29 : m1 29 = N 29 := t1 29 (by decide) (by decide)
  have mo : ∀ q, q < 29 ∨ 31 < q → m1 q = mem q := fun q hq => by rw [t1 q (by omega) (by omega), no q (by omega)]
  exact l_X2_takeFrom y mem hy y.2.2.2.2.length 0 m1 (by omega) (fun q hq => mo q (by omega)) (by rw [m29, n29, ui_ne _ _ (by omega), ui_ne _ _ (by omega), ui_same, a1]) (by rw [m29, n29, ui_ne _ _ (by omega), ui_same, hc]) (by rw [m29, n29, ui_same, a3]) tw (fun i hi => by omega)
