/-! ===== The reference: promises 3 to 9, 25, 26 ===== -/
theorem bI_or1 (c : Prop) : Int32.ofInt (bI c) ||| Int32.ofInt 1 = Int32.ofInt (bI True) := by
  by_cases h : c
  · rw [bI_t h, bI_t trivial]; rfl
  · rw [bI_f h, bI_t trivial]; rfl
theorem bI_or0 (c : Prop) : Int32.ofInt (bI c) ||| Int32.ofInt 0 = Int32.ofInt (bI c) := by
  by_cases h : c
  · rw [bI_t h]; rfl
  · rw [bI_f h]; rfl
def atR (f : Int → Int) (p x q w k : Int) : Prop := f (5 + 5 * k) = p ∧ f (5 + 5 * k + 1) = x ∧ f (5 + 5 * k + 2) = q ∧ f (5 + 5 * k + 3) = w
theorem atR_there (f : Int → Int) (n : Nat) (p x q w : Int) : (∃ k : Int, 0 ≤ k ∧ k < n ∧ atR f p x q w k) ↔ thereR (rls f 5 n) p x q w := by
  constructor
  · rintro ⟨k, k0, k1, a, b, c, d⟩
    have hk := rls_at f 5 (n := n) (k := k.toNat) (by omega)
    rw [show (5 : Int) + 5 * (k.toNat : Int) = 5 + 5 * k by omega] at hk
    exact ⟨_, List.mem_of_getElem? hk, a, b, c, d⟩
  · rintro ⟨r, hr, a, b, c, d⟩
    obtain ⟨k, hk, rfl⟩ := List.mem_map.mp hr
    have hk := List.mem_range.mp hk
    exact ⟨k, by omega, by omega, a, b, c, d⟩
theorem l_X10_isThere (p x q w : Int) (mem : Mem) (hp : R32 p ∧ R32 x ∧ R32 q ∧ R32 w) (h2 : mem 117 2 ≤ 20) (hr : ∀ i, 5 ≤ i → i < 105 → R32 (mem 117 i)) : ∀ (j : Nat) (k : Int) (c : Prop), k + j = mem 117 2 → 0 ≤ k → (c ↔ ∃ i : Int, 0 ≤ i ∧ i < k ∧ atR (mem 117) p x q w i) →
    V cX10_isThere RX10 7 (some .boolean) (rmk 1 22) (mE (fun r m => ∃ z, r = aI z ∧ mem = m ∧ bI (∃ i : Int, 0 ≤ i ∧ i < mem 117 2 ∧ atR (mem 117) p x q w i) = z)) 6 [aR 116, aI p, aI x, aI q, aI w, aI (bI c), aI k] [] mem := by
  intro j
  induction j with
  | zero =>
    intro k c h3 h4 h5
    refine v_iload (j := 6) (q := 8) rfl dX10_isThere_6 rfl ?_
    refine v_aload_n (j := 0) (q := 9) rfl dX10_isThere_8 rfl ?_
    refine v_getR (p' := 117) (q := 12) dX10_isThere_9 fl_X10_7 kd_116 rfl (rfc_10_0 kd_116) rfl ?_
    refine v_iconst (q := 13) dX10_isThere_12 rfl ?_
    refine v_iald (q := 14) dX10_isThere_13 kd_117 (by omega) (by omega) rfl ?_
    refine v_icmp_ge (tgt := 78) (q := 17) dX10_isThere_14 (by decide) rfl (by omega) (by omega) (fun h14 => ?_) (fun h14 => ?_)
    · refine v_iload (j := 5) (q := 80) rfl dX10_isThere_78 rfl ?_
      refine v_zret (by first | exact Or.inl rfl | exact Or.inr rfl | exact bI_01 _ | omega) dX10_isThere_80 ?_
      refine ⟨_, rfl, rfl, bI_congr ?_⟩
      rw [h5, show k = mem 117 2 by omega]
    · exact absurd h14 (by omega)
  | succ j ih =>
    intro k c h3 h4 h5
    have r0 := hr (5 + 5 * k + 0) (by omega) (by omega)
    have r1 := hr (5 + 5 * k + 1) (by omega) (by omega)
    have r2 := hr (5 + 5 * k + 2) (by omega) (by omega)
    have r3 := hr (5 + 5 * k + 3) (by omega) (by omega)
    rw [Int.add_zero] at r0
    have no : ¬ atR (mem 117) p x q w k → (c ↔ ∃ i : Int, 0 ≤ i ∧ i < k + 1 ∧ atR (mem 117) p x q w i) := fun hn => by
      rw [h5]
      constructor
      · rintro ⟨i, i0, i1, i2⟩; exact ⟨i, i0, by omega, i2⟩
      · rintro ⟨i, i0, i1, i2⟩
        have : i ≠ k := fun e => hn (e ▸ i2)
        exact ⟨i, i0, by omega, i2⟩
    refine v_iload (j := 6) (q := 8) rfl dX10_isThere_6 rfl ?_
    refine v_aload_n (j := 0) (q := 9) rfl dX10_isThere_8 rfl ?_
    refine v_getR (p' := 117) (q := 12) dX10_isThere_9 fl_X10_7 kd_116 rfl (rfc_10_0 kd_116) rfl ?_
    refine v_iconst (q := 13) dX10_isThere_12 rfl ?_
    refine v_iald (q := 14) dX10_isThere_13 kd_117 (by omega) (by omega) rfl ?_
    refine v_icmp_ge (tgt := 78) (q := 17) dX10_isThere_14 (by decide) rfl (by omega) (by omega) (fun h14 => ?_) (fun h14 => ?_)
    · exact absurd h14 (by omega)
    · refine v_iload (j := 5) (q := 19) rfl dX10_isThere_17 rfl ?_
      refine v_aload_n (j := 0) (q := 20) rfl dX10_isThere_19 rfl ?_
      refine v_iload (j := 6) (q := 22) rfl dX10_isThere_20 rfl ?_
      refine v_iconst (q := 23) dX10_isThere_22 rfl ?_
      refine v_cVI2 (q := 26) dX10_isThere_23 mlX10_67 mdX10_of (by decide) kd_116 rfl rfl ⟨Nat.le_refl 0, Nat.le_refl 0⟩ (by exact Nat.le_of_ble_eq_true rfl) rfl (c_X10_of k 0 mem (by omega) (by omega)) ?_
      rintro _ _ ⟨rfl, rfl⟩
      rw [Int.add_zero]
      refine v_iload_n (j := 1) (q := 27) rfl dX10_isThere_26 rfl ?_
      refine v_icmp_ne (tgt := 68) (q := 30) dX10_isThere_27 (by decide) rfl (by omega) (by omega) (fun h27 => ?_) (fun h27 => ?_)
      · refine v_iconst (q := 69) dX10_isThere_68 rfl ?_
        refine v_ior (q := 70) (by first | exact bI_or1 _ | exact bI_or0 _) dX10_isThere_69 rfl ?_
        refine v_ist5 (q := 72) rfl dX10_isThere_70 (by decide) rfl ?_
        refine v_iinc6 (q := 75) rfl dX10_isThere_72 (by decide) rfl ?_
        refine v_goto (q := 6) dX10_isThere_75 (by decide) ?_
        first | exact ih (k + 1) True (by omega) (by omega) ⟨fun _ => ⟨k, h4, by omega, h27, h38, h49, h61⟩, fun _ => trivial⟩ | exact ih (k + 1) c (by omega) (by omega) (no (fun h => h27 h.1)) | exact ih (k + 1) c (by omega) (by omega) (no (fun h => h38 h.2.1)) | exact ih (k + 1) c (by omega) (by omega) (no (fun h => h49 h.2.2.1)) | exact ih (k + 1) c (by omega) (by omega) (no (fun h => h61 h.2.2.2))
      · refine v_aload_n (j := 0) (q := 31) rfl dX10_isThere_30 rfl ?_
        refine v_iload (j := 6) (q := 33) rfl dX10_isThere_31 rfl ?_
        refine v_iconst (q := 34) dX10_isThere_33 rfl ?_
        refine v_cVI2 (q := 37) dX10_isThere_34 mlX10_67 mdX10_of (by decide) kd_116 rfl rfl ⟨Nat.le_refl 0, Nat.le_refl 0⟩ (by exact Nat.le_of_ble_eq_true rfl) rfl (c_X10_of k 1 mem (by omega) (by omega)) ?_
        rintro _ _ ⟨rfl, rfl⟩
        refine v_iload_n (j := 2) (q := 38) rfl dX10_isThere_37 rfl ?_
        refine v_icmp_ne (tgt := 68) (q := 41) dX10_isThere_38 (by decide) rfl (by omega) (by omega) (fun h38 => ?_) (fun h38 => ?_)
        · refine v_iconst (q := 69) dX10_isThere_68 rfl ?_
          refine v_ior (q := 70) (by first | exact bI_or1 _ | exact bI_or0 _) dX10_isThere_69 rfl ?_
          refine v_ist5 (q := 72) rfl dX10_isThere_70 (by decide) rfl ?_
          refine v_iinc6 (q := 75) rfl dX10_isThere_72 (by decide) rfl ?_
          refine v_goto (q := 6) dX10_isThere_75 (by decide) ?_
          first | exact ih (k + 1) True (by omega) (by omega) ⟨fun _ => ⟨k, h4, by omega, h27, h38, h49, h61⟩, fun _ => trivial⟩ | exact ih (k + 1) c (by omega) (by omega) (no (fun h => h27 h.1)) | exact ih (k + 1) c (by omega) (by omega) (no (fun h => h38 h.2.1)) | exact ih (k + 1) c (by omega) (by omega) (no (fun h => h49 h.2.2.1)) | exact ih (k + 1) c (by omega) (by omega) (no (fun h => h61 h.2.2.2))
        · refine v_aload_n (j := 0) (q := 42) rfl dX10_isThere_41 rfl ?_
          refine v_iload (j := 6) (q := 44) rfl dX10_isThere_42 rfl ?_
          refine v_iconst (q := 45) dX10_isThere_44 rfl ?_
          refine v_cVI2 (q := 48) dX10_isThere_45 mlX10_67 mdX10_of (by decide) kd_116 rfl rfl ⟨Nat.le_refl 0, Nat.le_refl 0⟩ (by exact Nat.le_of_ble_eq_true rfl) rfl (c_X10_of k 2 mem (by omega) (by omega)) ?_
          rintro _ _ ⟨rfl, rfl⟩
          refine v_iload_n (j := 3) (q := 49) rfl dX10_isThere_48 rfl ?_
          refine v_icmp_ne (tgt := 68) (q := 52) dX10_isThere_49 (by decide) rfl (by omega) (by omega) (fun h49 => ?_) (fun h49 => ?_)
          · refine v_iconst (q := 69) dX10_isThere_68 rfl ?_
            refine v_ior (q := 70) (by first | exact bI_or1 _ | exact bI_or0 _) dX10_isThere_69 rfl ?_
            refine v_ist5 (q := 72) rfl dX10_isThere_70 (by decide) rfl ?_
            refine v_iinc6 (q := 75) rfl dX10_isThere_72 (by decide) rfl ?_
            refine v_goto (q := 6) dX10_isThere_75 (by decide) ?_
            first | exact ih (k + 1) True (by omega) (by omega) ⟨fun _ => ⟨k, h4, by omega, h27, h38, h49, h61⟩, fun _ => trivial⟩ | exact ih (k + 1) c (by omega) (by omega) (no (fun h => h27 h.1)) | exact ih (k + 1) c (by omega) (by omega) (no (fun h => h38 h.2.1)) | exact ih (k + 1) c (by omega) (by omega) (no (fun h => h49 h.2.2.1)) | exact ih (k + 1) c (by omega) (by omega) (no (fun h => h61 h.2.2.2))
          · refine v_aload_n (j := 0) (q := 53) rfl dX10_isThere_52 rfl ?_
            refine v_iload (j := 6) (q := 55) rfl dX10_isThere_53 rfl ?_
            refine v_iconst (q := 56) dX10_isThere_55 rfl ?_
            refine v_cVI2 (q := 59) dX10_isThere_56 mlX10_67 mdX10_of (by decide) kd_116 rfl rfl ⟨Nat.le_refl 0, Nat.le_refl 0⟩ (by exact Nat.le_of_ble_eq_true rfl) rfl (c_X10_of k 3 mem (by omega) (by omega)) ?_
            rintro _ _ ⟨rfl, rfl⟩
            refine v_iload (j := 4) (q := 61) rfl dX10_isThere_59 rfl ?_
            refine v_icmp_ne (tgt := 68) (q := 64) dX10_isThere_61 (by decide) rfl (by omega) (by omega) (fun h61 => ?_) (fun h61 => ?_)
            · refine v_iconst (q := 69) dX10_isThere_68 rfl ?_
              refine v_ior (q := 70) (by first | exact bI_or1 _ | exact bI_or0 _) dX10_isThere_69 rfl ?_
              refine v_ist5 (q := 72) rfl dX10_isThere_70 (by decide) rfl ?_
              refine v_iinc6 (q := 75) rfl dX10_isThere_72 (by decide) rfl ?_
              refine v_goto (q := 6) dX10_isThere_75 (by decide) ?_
              first | exact ih (k + 1) True (by omega) (by omega) ⟨fun _ => ⟨k, h4, by omega, h27, h38, h49, h61⟩, fun _ => trivial⟩ | exact ih (k + 1) c (by omega) (by omega) (no (fun h => h27 h.1)) | exact ih (k + 1) c (by omega) (by omega) (no (fun h => h38 h.2.1)) | exact ih (k + 1) c (by omega) (by omega) (no (fun h => h49 h.2.2.1)) | exact ih (k + 1) c (by omega) (by omega) (no (fun h => h61 h.2.2.2))
            · refine v_iconst (q := 65) dX10_isThere_64 rfl ?_
              refine v_goto (q := 69) dX10_isThere_65 (by decide) ?_
              refine v_ior (q := 70) (by first | exact bI_or1 _ | exact bI_or0 _) dX10_isThere_69 rfl ?_
              refine v_ist5 (q := 72) rfl dX10_isThere_70 (by decide) rfl ?_
              refine v_iinc6 (q := 75) rfl dX10_isThere_72 (by decide) rfl ?_
              refine v_goto (q := 6) dX10_isThere_75 (by decide) ?_
              first | exact ih (k + 1) True (by omega) (by omega) ⟨fun _ => ⟨k, h4, by omega, h27, h38, h49, h61⟩, fun _ => trivial⟩ | exact ih (k + 1) c (by omega) (by omega) (no (fun h => h27 h.1)) | exact ih (k + 1) c (by omega) (by omega) (no (fun h => h38 h.2.1)) | exact ih (k + 1) c (by omega) (by omega) (no (fun h => h49 h.2.2.1)) | exact ih (k + 1) c (by omega) (by omega) (no (fun h => h61 h.2.2.2))
theorem c_X10_isThere (p x q w : Int) (mem : Mem) (hp : R32 p ∧ R32 x ∧ R32 q ∧ R32 w) (h1 : 0 ≤ mem 117 2) (h2 : mem 117 2 ≤ 20) (hr : ∀ i, 5 ≤ i → i < 105 → R32 (mem 117 i)) : CtrI mX10_isThere [aR 116, aI p, aI x, aI q, aI w] mem (fun z m => mem = m ∧ bI (thereR (rls (mem 117) 5 (mem 117 2).toNat) p x q w) = z) := by
  have e := atR_there (mem 117) (mem 117 2).toNat p x q w
  rw [show ((mem 117 2).toNat : Int) = mem 117 2 by omega] at e
  rw [← propext e]
  refine Ctr.ofV (ls := [aR 116, aI p, aI x, aI q, aI w, aU, aU]) rfl (by decide) rfl (Nat.le_of_ble_eq_true rfl) ?_
  refine v_iconst (q := 1) dX10_isThere_0 rfl ?_
  refine v_ist5 (q := 3) rfl dX10_isThere_1 (by decide) rfl ?_
  refine v_iconst (q := 4) dX10_isThere_3 rfl ?_
  refine v_ist6 (q := 6) rfl dX10_isThere_4 (by decide) rfl ?_
  have hk := l_X10_isThere p x q w mem hp h2 hr (mem 117 2).toNat 0 False (by omega) (by omega) ⟨fun h => h.elim, fun ⟨i, i0, i1, _⟩ => by omega⟩
  rw [← bI_0] at hk
  exact hk
theorem c_X10_lay (k p x q w t : Int) (mem : Mem) (h0 : 0 ≤ k) (h1 : k < 20) : CtrV mX10_lay [aR 116, aI k, aI p, aI x, aI q, aI w, aI t] mem (fun m => um (um (um (um (um mem 117 (5 + 5 * k + 0) p) 117 (5 + 5 * k + 1) x) 117 (5 + 5 * k + 2) q) 117 (5 + 5 * k + 3) w) 117 (5 + 5 * k + 4) t = m) := by
  refine Ctr.ofV (ls := [aR 116, aI k, aI p, aI x, aI q, aI w, aI t]) rfl (by decide) rfl (Nat.le_of_ble_eq_true rfl) ?_
  refine v_aload_n (j := 0) (q := 1) rfl dX10_lay_0 rfl ?_
  refine v_getR (p' := 117) (q := 4) dX10_lay_1 fl_X10_7 kd_116 rfl (rfc_10_0 kd_116) rfl ?_
  refine v_iconst (q := 5) dX10_lay_4 rfl ?_
  refine v_iconst (q := 6) dX10_lay_5 rfl ?_
  refine v_iload_n (j := 1) (q := 7) rfl dX10_lay_6 rfl ?_
  refine v_imul (q := 8) dX10_lay_7 rfl ?_
  refine v_iadd (q := 9) dX10_lay_8 rfl ?_
  refine v_iconst (q := 10) dX10_lay_9 rfl ?_
  refine v_iadd (q := 11) dX10_lay_10 rfl ?_
  refine v_iload_n (j := 2) (q := 12) rfl dX10_lay_11 rfl ?_
  refine v_iast (q := 13) dX10_lay_12 kd_117 (by omega) (by omega) rfl ?_
  refine v_aload_n (j := 0) (q := 14) rfl dX10_lay_13 rfl ?_
  refine v_getR (p' := 117) (q := 17) dX10_lay_14 fl_X10_7 kd_116 rfl (rfc_10_0 kd_116) rfl ?_
  refine v_iconst (q := 18) dX10_lay_17 rfl ?_
  refine v_iconst (q := 19) dX10_lay_18 rfl ?_
  refine v_iload_n (j := 1) (q := 20) rfl dX10_lay_19 rfl ?_
  refine v_imul (q := 21) dX10_lay_20 rfl ?_
  refine v_iadd (q := 22) dX10_lay_21 rfl ?_
  refine v_iconst (q := 23) dX10_lay_22 rfl ?_
  refine v_iadd (q := 24) dX10_lay_23 rfl ?_
  refine v_iload_n (j := 3) (q := 25) rfl dX10_lay_24 rfl ?_
  refine v_iast (q := 26) dX10_lay_25 kd_117 (by omega) (by omega) rfl ?_
  refine v_aload_n (j := 0) (q := 27) rfl dX10_lay_26 rfl ?_
  refine v_getR (p' := 117) (q := 30) dX10_lay_27 fl_X10_7 kd_116 rfl (rfc_10_0 kd_116) rfl ?_
  refine v_iconst (q := 31) dX10_lay_30 rfl ?_
  refine v_iconst (q := 32) dX10_lay_31 rfl ?_
  refine v_iload_n (j := 1) (q := 33) rfl dX10_lay_32 rfl ?_
  refine v_imul (q := 34) dX10_lay_33 rfl ?_
  refine v_iadd (q := 35) dX10_lay_34 rfl ?_
  refine v_iconst (q := 36) dX10_lay_35 rfl ?_
  refine v_iadd (q := 37) dX10_lay_36 rfl ?_
  refine v_iload (j := 4) (q := 39) rfl dX10_lay_37 rfl ?_
  refine v_iast (q := 40) dX10_lay_39 kd_117 (by omega) (by omega) rfl ?_
  refine v_aload_n (j := 0) (q := 41) rfl dX10_lay_40 rfl ?_
  refine v_getR (p' := 117) (q := 44) dX10_lay_41 fl_X10_7 kd_116 rfl (rfc_10_0 kd_116) rfl ?_
  refine v_iconst (q := 45) dX10_lay_44 rfl ?_
  refine v_iconst (q := 46) dX10_lay_45 rfl ?_
  refine v_iload_n (j := 1) (q := 47) rfl dX10_lay_46 rfl ?_
  refine v_imul (q := 48) dX10_lay_47 rfl ?_
  refine v_iadd (q := 49) dX10_lay_48 rfl ?_
  refine v_iconst (q := 50) dX10_lay_49 rfl ?_
  refine v_iadd (q := 51) dX10_lay_50 rfl ?_
  refine v_iload (j := 5) (q := 53) rfl dX10_lay_51 rfl ?_
  refine v_iast (q := 54) dX10_lay_53 kd_117 (by omega) (by omega) rfl ?_
  refine v_aload_n (j := 0) (q := 55) rfl dX10_lay_54 rfl ?_
  refine v_getR (p' := 117) (q := 58) dX10_lay_55 fl_X10_7 kd_116 rfl (rfc_10_0 kd_116) rfl ?_
  refine v_iconst (q := 59) dX10_lay_58 rfl ?_
  refine v_iconst (q := 60) dX10_lay_59 rfl ?_
  refine v_iload_n (j := 1) (q := 61) rfl dX10_lay_60 rfl ?_
  refine v_imul (q := 62) dX10_lay_61 rfl ?_
  refine v_iadd (q := 63) dX10_lay_62 rfl ?_
  refine v_iconst (q := 64) dX10_lay_63 rfl ?_
  refine v_iadd (q := 65) dX10_lay_64 rfl ?_
  refine v_iload (j := 6) (q := 67) rfl dX10_lay_65 rfl ?_
  refine v_iast (q := 68) dX10_lay_67 kd_117 (by omega) (by omega) rfl ?_
  refine v_vret dX10_lay_68 ?_
  exact ⟨rfl, rfl⟩
/-- w with other rules -/
theorem SM.rules {f g : Int → Int} {y : Sy} {l : List Rl} (h : SM f 0 y) (e0 : g 0 = f 0) (e1 : g 1 = f 1) (e3 : g 3 = f 3) (e4 : g 4 = f 4) (c : 0 ≤ g 2 ∧ g 2 ≤ 20) (hl : l = rls g 5 (g 2).toNat) (ok : ∀ r ∈ l, okR y.1 y.2.1 r) (hr : ∀ i, 5 ≤ i → i < 105 → R32 (g i)) : SM g 0 (y.1, y.2.1, y.2.2.1, y.2.2.2.1, l) := by
  obtain ⟨rfl, c0, ok0, r0⟩ := h
  refine ⟨?_, by rw [Int.zero_add]; exact c, ⟨ok0.1, ok0.2.1, ok0.2.2.1, ok0.2.2.2.1, ?_, ok⟩, fun i i0 i1 => by rw [Int.zero_add]; exact hr i i0 i1⟩
  · unfold syM
    simp only [Int.zero_add]
    rw [e0, e1, e3, e4, hl]
  · show l.length ≤ 20
    rw [hl, rls_len]
    omega
theorem c_X10_addRule (p x q w t : Int) (mem : Mem) (A : AS) (h : RI mem A) (hp : R32 p) (hx : R32 x) (hq : R32 q) (hw : R32 w) (ht : R32 t) : CtrI mX10_addRule [aR 116, aI p, aI x, aI q, aI w, aI t] mem (RQ mem A (sAdd A p x q w t)) := by
  obtain ⟨r1, r2, r3, r4, r5, r6⟩ := h.keep
  obtain ⟨f0, f1, f2, f3, f4, f5, a1, a2, a3, a4, a5, hc⟩ := h.1.facts
  have k7 := r1 117 (by decide) (by decide)
  have hn0 := nd_nn w
  have hr : ∀ i, 5 ≤ i → i < 105 → R32 (mem 117 i) := fun i i0 i1 => by have := h.1.2.2.2 i i0 i1; rw [Int.zero_add] at this; exact this
  have bad : ¬ ((0 ≤ p ∧ p < mem 117 0) ∧ (1 ≤ x ∧ x ≤ mem 117 1) ∧ (0 ≤ q ∧ q < mem 117 0) ∧ (isW w (mem 117 1) ∧ nd w ≤ 2)) → RQ mem A (sAdd A p x q w t) (-1) mem := fun hb => by
    unfold sAdd
    rw [a1, a2, if_pos hb]
    exact RQ_same h
  refine Ctr.ofV (ls := [aR 116, aI p, aI x, aI q, aI w, aI t]) rfl (by decide) rfl (Nat.le_of_ble_eq_true rfl) ?_
  refine v_aload_n (j := 0) (q := 1) rfl dX10_addRule_0 rfl ?_
  refine v_iload_n (j := 1) (q := 2) rfl dX10_addRule_1 rfl ?_
  refine v_cVI1 (q := 5) dX10_addRule_2 mlX10_71 mdX10_isState (by decide) kd_116 rfl rfl ⟨Nat.le_refl 0, Nat.le_refl 0⟩ (by exact Nat.le_of_ble_eq_true rfl) rfl (c_X10_isState p mem hp (by omega)) ?_
  rintro _ _ ⟨rfl, rfl⟩
  refine v_if_eqB (tgt := 35) (q := 8) dX10_addRule_5 (by decide) rfl (fun h5 => ?_) (fun h5 => ?_)
  · refine v_iconst (q := 36) dX10_addRule_35 rfl ?_
    refine v_iret dX10_addRule_36 ?_
    exact ⟨_, rfl, by first | exact bad (fun hb => h5 hb.1) | exact bad (fun hb => h13 hb.2.1) | exact bad (fun hb => h21 hb.2.2.1) | exact bad (fun hb => h32 ⟨hb.2.2.2.1, by omega, hb.2.2.2.2⟩)⟩
  · refine v_aload_n (j := 0) (q := 9) rfl dX10_addRule_8 rfl ?_
    refine v_iload_n (j := 2) (q := 10) rfl dX10_addRule_9 rfl ?_
    refine v_cVI1 (q := 13) dX10_addRule_10 mlX10_52 mdX10_isSymbol (by decide) kd_116 rfl rfl ⟨Nat.le_refl 0, Nat.le_refl 0⟩ (by exact Nat.le_of_ble_eq_true rfl) rfl (c_X10_isSymbol x mem hx (by omega)) ?_
    rintro _ _ ⟨rfl, rfl⟩
    refine v_if_eqB (tgt := 35) (q := 16) dX10_addRule_13 (by decide) rfl (fun h13 => ?_) (fun h13 => ?_)
    · refine v_iconst (q := 36) dX10_addRule_35 rfl ?_
      refine v_iret dX10_addRule_36 ?_
      exact ⟨_, rfl, by first | exact bad (fun hb => h5 hb.1) | exact bad (fun hb => h13 hb.2.1) | exact bad (fun hb => h21 hb.2.2.1) | exact bad (fun hb => h32 ⟨hb.2.2.2.1, by omega, hb.2.2.2.2⟩)⟩
    · refine v_aload_n (j := 0) (q := 17) rfl dX10_addRule_16 rfl ?_
      refine v_iload_n (j := 3) (q := 18) rfl dX10_addRule_17 rfl ?_
      refine v_cVI1 (q := 21) dX10_addRule_18 mlX10_71 mdX10_isState (by decide) kd_116 rfl rfl ⟨Nat.le_refl 0, Nat.le_refl 0⟩ (by exact Nat.le_of_ble_eq_true rfl) rfl (c_X10_isState q mem hq (by omega)) ?_
      rintro _ _ ⟨rfl, rfl⟩
      refine v_if_eqB (tgt := 35) (q := 24) dX10_addRule_21 (by decide) rfl (fun h21 => ?_) (fun h21 => ?_)
      · refine v_iconst (q := 36) dX10_addRule_35 rfl ?_
        refine v_iret dX10_addRule_36 ?_
        exact ⟨_, rfl, by first | exact bad (fun hb => h5 hb.1) | exact bad (fun hb => h13 hb.2.1) | exact bad (fun hb => h21 hb.2.2.1) | exact bad (fun hb => h32 ⟨hb.2.2.2.1, by omega, hb.2.2.2.2⟩)⟩
      · refine v_aload_n (j := 0) (q := 25) rfl dX10_addRule_24 rfl ?_
        refine v_iload (j := 4) (q := 27) rfl dX10_addRule_25 rfl ?_
        refine v_iconst (q := 28) dX10_addRule_27 rfl ?_
        refine v_iconst (q := 29) dX10_addRule_28 rfl ?_
        refine v_cVI3 (q := 32) dX10_addRule_29 mlX10_74 mdX10_isWord (by decide) kd_116 rfl rfl ⟨Nat.le_refl 0, Nat.le_refl 0⟩ (by exact Nat.le_of_ble_eq_true rfl) rfl (c_X10_isWord w 0 2 mem hw (by omega) (by omega) (by omega)) ?_
        rintro _ _ ⟨rfl, rfl⟩
        refine v_if_neB (tgt := 37) (q := 35) dX10_addRule_32 (by decide) rfl (fun h32 => ?_) (fun h32 => ?_)
        · have g0 : (0 ≤ p ∧ p < mem 117 0) ∧ (1 ≤ x ∧ x ≤ mem 117 1) ∧ (0 ≤ q ∧ q < mem 117 0) ∧ (isW w (mem 117 1) ∧ nd w ≤ 2) := ⟨h5, h13, h21, h32.1, by omega⟩
          refine v_iload (j := 5) (q := 39) rfl dX10_addRule_37 rfl ?_
          refine v_iconst (q := 40) dX10_addRule_39 rfl ?_
          refine v_bipush (q := 42) (by decide) dX10_addRule_40 rfl ?_
          refine v_cSI3 (q := 45) dX10_addRule_42 mlX10_44 mdX10_isIn (by decide) ⟨Nat.le_refl 0, Nat.le_refl 0⟩ (by exact Nat.le_of_ble_eq_true rfl) rfl (c_X10_isIn _ _ _ mem ht (by omega) (by omega)) ?_
          rintro _ _ ⟨rfl, rfl⟩
          refine v_if_neB (tgt := 51) (q := 48) dX10_addRule_45 (by decide) rfl (fun h45 => ?_) (fun h45 => ?_)
          · refine v_aload_n (j := 0) (q := 52) rfl dX10_addRule_51 rfl ?_
            refine v_iload_n (j := 1) (q := 53) rfl dX10_addRule_52 rfl ?_
            refine v_iload_n (j := 2) (q := 54) rfl dX10_addRule_53 rfl ?_
            refine v_iload_n (j := 3) (q := 55) rfl dX10_addRule_54 rfl ?_
            refine v_iload (j := 4) (q := 57) rfl dX10_addRule_55 rfl ?_
            refine v_cVI4 (q := 60) dX10_addRule_57 mlX10_77 mdX10_isThere (by decide) kd_116 rfl rfl ⟨Nat.le_refl 0, Nat.le_refl 0⟩ (by exact Nat.le_of_ble_eq_true rfl) rfl (c_X10_isThere p x q w mem ⟨hp, hx, hq, hw⟩ (by omega) (by omega) hr) ?_
            rintro _ _ ⟨rfl, rfl⟩
            rw [← a5]
            refine v_if_eqB (tgt := 66) (q := 63) dX10_addRule_60 (by decide) rfl (fun h60 => ?_) (fun h60 => ?_)
            · refine v_aload_n (j := 0) (q := 67) rfl dX10_addRule_66 rfl ?_
              refine v_getR (p' := 117) (q := 70) dX10_addRule_67 fl_X10_7 kd_116 rfl (rfc_10_0 kd_116) rfl ?_
              refine v_iconst (q := 71) dX10_addRule_70 rfl ?_
              refine v_iald (q := 72) dX10_addRule_71 kd_117 (by omega) (by omega) rfl ?_
              refine v_bipush (q := 74) (by decide) dX10_addRule_72 rfl ?_
              refine v_icmp_ne (tgt := 80) (q := 77) dX10_addRule_74 (by decide) rfl (by omega) (by omega) (fun h74 => ?_) (fun h74 => ?_)
              · refine v_aload_n (j := 0) (q := 81) rfl dX10_addRule_80 rfl ?_
                refine v_cVV0 (q := 84) dX10_addRule_81 mlX10_64 mdX10_keep (by decide) kd_116 rfl rfl ⟨Nat.le_refl 0, Nat.le_refl 0⟩ (by exact Nat.le_of_ble_eq_true rfl) rfl (c_X10_keep mem r5 r6) ?_
                rintro _ rfl
                refine v_aload_n (j := 0) (q := 85) rfl dX10_addRule_84 rfl ?_
                refine v_aload_n (j := 0) (q := 86) rfl dX10_addRule_85 rfl ?_
                refine v_getR (p' := 117) (q := 89) dX10_addRule_86 fl_X10_7 kd_116 rfl (rfc_10_0 kd_116) rfl ?_
                refine v_iconst (q := 90) dX10_addRule_89 rfl ?_
                refine v_iald (q := 91) dX10_addRule_90 kd_117 (by omega) (by omega) rfl ?_
                rw [k7]
                refine v_iload_n (j := 1) (q := 92) rfl dX10_addRule_91 rfl ?_
                refine v_iload_n (j := 2) (q := 93) rfl dX10_addRule_92 rfl ?_
                refine v_iload_n (j := 3) (q := 94) rfl dX10_addRule_93 rfl ?_
                refine v_iload (j := 4) (q := 96) rfl dX10_addRule_94 rfl ?_
                refine v_iload (j := 5) (q := 98) rfl dX10_addRule_96 rfl ?_
                refine v_cVV6 (q := 101) dX10_addRule_98 mlX10_81 mdX10_lay (by decide) kd_116 rfl rfl ⟨Nat.le_refl 0, Nat.le_refl 0⟩ (by exact Nat.le_of_ble_eq_true rfl) rfl (c_X10_lay _ p x q w t _ (by omega) (by omega)) ?_
                rintro _ rfl
                refine v_aload_n (j := 0) (q := 102) rfl dX10_addRule_101 rfl ?_
                refine v_getR (p' := 117) (q := 105) dX10_addRule_102 fl_X10_7 kd_116 rfl (rfc_10_0 kd_116) rfl ?_
                refine v_iconst (q := 106) dX10_addRule_105 rfl ?_
                refine v_dup2 (q := 107) rfl rfl dX10_addRule_106 rfl ?_
                refine v_iald (q := 108) dX10_addRule_107 kd_117 (by omega) (by omega) rfl ?_
                refine v_iconst (q := 109) dX10_addRule_108 rfl ?_
                refine v_iadd (q := 110) dX10_addRule_109 rfl ?_
                refine v_iast (q := 111) dX10_addRule_110 kd_117 (by omega) (by omega) rfl ?_
                refine v_aload_n (j := 0) (q := 112) rfl dX10_addRule_111 rfl ?_
                refine v_getR (p' := 117) (q := 115) dX10_addRule_112 fl_X10_7 kd_116 rfl (rfc_10_0 kd_116) rfl ?_
                refine v_iconst (q := 116) dX10_addRule_115 rfl ?_
                refine v_iald (q := 117) dX10_addRule_116 kd_117 (by omega) (by omega) rfl ?_
                refine v_iconst (q := 118) dX10_addRule_117 rfl ?_
                refine v_isub (q := 119) dX10_addRule_118 rfl ?_
                refine v_iret dX10_addRule_119 ?_
                refine ⟨_, rfl, ?_⟩
                unfold sAdd
                rw [if_neg (fun hb => hb (by rw [a1, a2]; exact g0)), if_neg (fun hb => hb h45), if_neg h60, if_neg (by omega)]
                obtain ⟨m8, hm8⟩ : ∃ m8, um (um (um (um (um (kpM mem) 117 (5 + 5 * mem 117 2 + 0) p) 117 (5 + 5 * mem 117 2 + 1) x) 117 (5 + 5 * mem 117 2 + 2) q) 117 (5 + 5 * mem 117 2 + 3) w) 117 (5 + 5 * mem 117 2 + 4) t = m8 := ⟨_, rfl⟩
                rw [hm8]
                have o8 : m8 117 = ui (ui (ui (ui (ui (mem 117) (5 + 5 * mem 117 2 + 0) p) (5 + 5 * mem 117 2 + 1) x) (5 + 5 * mem 117 2 + 2) q) (5 + 5 * mem 117 2 + 3) w) (5 + 5 * mem 117 2 + 4) t := by
                  rw [← hm8, um_same, um_same, um_same, um_same, um_same, k7]
                have e2 : m8 117 2 = mem 117 2 := by rw [o8, ui_ne _ _ (by omega), ui_ne _ _ (by omega), ui_ne _ _ (by omega), ui_ne _ _ (by omega), ui_ne _ _ (by omega)]
                rw [e2, um_same, ui_same]
                have o9 : ∀ j, um m8 117 2 (mem 117 2 + 1) 117 j = if j = 2 then mem 117 2 + 1 else m8 117 j := fun j => by rw [um_same]; rfl
                have lo : ∀ j, j < 5 + 5 * mem 117 2 ∨ 5 + 5 * mem 117 2 + 4 < j → m8 117 j = mem 117 j := fun j hj => by rw [o8, ui_ne _ _ (by omega), ui_ne _ _ (by omega), ui_ne _ _ (by omega), ui_ne _ _ (by omega), ui_ne _ _ (by omega)]
                have v0 : m8 117 (5 + 5 * mem 117 2) = p := by rw [o8, ui_ne _ _ (by omega), ui_ne _ _ (by omega), ui_ne _ _ (by omega), ui_ne _ _ (by omega), Int.add_zero, ui_same]
                have v1 : m8 117 (5 + 5 * mem 117 2 + 1) = x := by rw [o8, ui_ne _ _ (by omega), ui_ne _ _ (by omega), ui_ne _ _ (by omega), ui_same]
                have v2 : m8 117 (5 + 5 * mem 117 2 + 2) = q := by rw [o8, ui_ne _ _ (by omega), ui_ne _ _ (by omega), ui_same]
                have v3 : m8 117 (5 + 5 * mem 117 2 + 3) = w := by rw [o8, ui_ne _ _ (by omega), ui_same]
                have v4 : m8 117 (5 + 5 * mem 117 2 + 4) = t := by rw [o8, ui_same]
                have hok : okR A.1.1 A.1.2.1 (p, x, q, w, t) := by rw [a1, a2]; exact ⟨g0.1, g0.2.1, g0.2.2.1, g0.2.2.2, h45⟩
                have hw2 := nd_bound 2 g0.2.2.2.1.1 g0.2.2.2.2
                rw [show (10 : Int) ^ 2 = 100 by decide] at hw2
                have hw3 := g0.2.2.2.1.1
                have hS := h.1.rules (g := um m8 117 2 (mem 117 2 + 1) 117) (l := A.1.2.2.2.2 ++ [(p, x, q, w, t)]) (by rw [o9, if_neg (by omega), lo _ (by omega)]) (by rw [o9, if_neg (by omega), lo _ (by omega)]) (by rw [o9, if_neg (by omega), lo _ (by omega)]) (by rw [o9, if_neg (by omega), lo _ (by omega)]) (by rw [o9, if_pos rfl]; omega) (by
                  rw [o9, if_pos rfl, show (mem 117 2 + 1).toNat = (mem 117 2).toNat + 1 by omega, rls_succ, a5]
                  congr 1
                  · apply rls_ext
                    intro i i0 i1
                    rw [o9, if_neg (by omega), lo _ (by omega)]
                  · unfold rl5
                    rw [show (5 : Int) + 5 * ((mem 117 2).toNat : Int) = 5 + 5 * mem 117 2 by omega, o9, o9, o9, o9, o9, if_neg (by omega), if_neg (by omega), if_neg (by omega), if_neg (by omega), if_neg (by omega), v0, v1, v2, v3, v4]) (fun r9 h9 => by
                  rcases List.mem_append.mp h9 with h9 | h9
                  · exact h.1.2.2.1.2.2.2.2.2 r9 h9
                  · rw [List.mem_singleton.mp h9]; exact hok) (fun i i0 i1 => by
                  rw [o9, if_neg (by omega)]
                  by_cases hi : i < 5 + 5 * mem 117 2 ∨ 5 + 5 * mem 117 2 + 4 < i
                  · rw [lo i hi]; exact hr i i0 i1
                  · rcases (show i = 5 + 5 * mem 117 2 ∨ i = 5 + 5 * mem 117 2 + 1 ∨ i = 5 + 5 * mem 117 2 + 2 ∨ i = 5 + 5 * mem 117 2 + 3 ∨ i = 5 + 5 * mem 117 2 + 4 by omega) with rfl | rfl | rfl | rfl | rfl
                    · rw [v0]; exact hp
                    · rw [v1]; exact hx
                    · rw [v2]; exact hq
                    · rw [v3]; omega
                    · rw [v4]; exact ht)
                rw [hc, show mem 117 2 + 1 - 1 = mem 117 2 by omega]
                exact RQ_change h (fun r hr9 => by rw [um_ne _ _ _ hr9, ← hm8, um_ne _ _ _ hr9, um_ne _ _ _ hr9, um_ne _ _ _ hr9, um_ne _ _ _ hr9, um_ne _ _ _ hr9]) hS
              · refine v_bipush (q := 79) (by decide) dX10_addRule_77 rfl ?_
                refine v_iret dX10_addRule_79 ?_
                refine ⟨_, rfl, ?_⟩
                unfold sAdd
                rw [a1, a2, if_neg (fun hb => hb g0), if_neg (fun hb => hb h45), if_neg h60, if_pos (by omega)]
                exact RQ_same h
            · refine v_bipush (q := 65) (by decide) dX10_addRule_63 rfl ?_
              refine v_iret dX10_addRule_65 ?_
              refine ⟨_, rfl, ?_⟩
              unfold sAdd
              rw [a1, a2, if_neg (fun hb => hb g0), if_neg (fun hb => hb h45), if_pos h60]
              exact RQ_same h
          · refine v_bipush (q := 50) (by decide) dX10_addRule_48 rfl ?_
            refine v_iret dX10_addRule_50 ?_
            refine ⟨_, rfl, ?_⟩
            unfold sAdd
            rw [a1, a2, if_neg (fun hb => hb g0), if_pos h45]
            exact RQ_same h
        · refine v_iconst (q := 36) dX10_addRule_35 rfl ?_
          refine v_iret dX10_addRule_36 ?_
          exact ⟨_, rfl, by first | exact bad (fun hb => h5 hb.1) | exact bad (fun hb => h13 hb.2.1) | exact bad (fun hb => h21 hb.2.2.1) | exact bad (fun hb => h32 ⟨hb.2.2.2.1, by omega, hb.2.2.2.2⟩)⟩
