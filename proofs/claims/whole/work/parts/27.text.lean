/-! ===== Text: the class reads its text as the document says ===== -/
/-- the text is there, with signs of the document's range -/
def txOK (mem : Mem) : Prop := (0 ≤ mem 23 0 ∧ mem 23 0 ≤ 200) ∧ ∀ i, 0 ≤ i → i < mem 23 0 → 32 ≤ mem 24 i ∧ mem 24 i ≤ 126
theorem c_X6_takeOneOf (f n a : Int) (mem : Mem) (hT : txOK mem) (ha : 0 ≤ a ∧ a ≤ mem 23 0) (hf : 0 ≤ f ∧ f ≤ 200) (hn : 0 ≤ n ∧ n ≤ 100) : CtrI mX6_takeOneOf [aR 23, aI f, aI n] (um mem 23 1 a) (fun z m => tkz (mem 24) (mem 23 0) f n a = z ∧ um mem 23 1 (tka (mem 24) (mem 23 0) f n a) = m) := by
  have e0 : um mem 23 1 a 23 0 = mem 23 0 := by rw [um_same, ui_ne _ _ (by omega)]
  have e1 : um mem 23 1 a 23 1 = a := by rw [um_same, ui_same]
  have e2 : um mem 23 1 a 24 = mem 24 := um_ne _ _ _ (by decide)
  have h2 := hT.2 a
  have h1 := hT.1
  refine Ctr.ofV (ls := [aR 23, aI f, aI n, aU]) rfl (by decide) rfl (Nat.le_of_ble_eq_true rfl) ?_
  refine v_aload_n (j := 0) (q := 1) rfl dX6_takeOneOf_0 rfl ?_
  refine v_getI (j := 1) (q := 4) dX6_takeOneOf_1 fl_X6_15 kd_23 rfl rfl rfl ?_
  refine v_aload_n (j := 0) (q := 5) rfl dX6_takeOneOf_4 rfl ?_
  refine v_getI (j := 0) (q := 8) dX6_takeOneOf_5 fl_X6_9 kd_23 rfl rfl rfl ?_
  rw [e0, e1]
  refine v_icmp_ge (tgt := 39) (q := 11) dX6_takeOneOf_8 (by decide) rfl (by omega) (by omega) (fun h8 => ?_) (fun h8 => ?_)
  · refine v_iconst (q := 40) dX6_takeOneOf_39 rfl ?_
    refine v_iret dX6_takeOneOf_40 ?_
    have hc : ¬ ch (mem 24) (mem 23 0) f n a := by unfold ch; omega
    exact ⟨_, rfl, (tk_f hc).1, by rw [(tk_f hc).2]⟩
  · refine v_aload_n (j := 0) (q := 12) rfl dX6_takeOneOf_11 rfl ?_
    refine v_getR (p' := 24) (q := 15) dX6_takeOneOf_12 fl_X6_18 kd_23 rfl (rfc_6_2 kd_23) rfl ?_
    refine v_aload_n (j := 0) (q := 16) rfl dX6_takeOneOf_15 rfl ?_
    refine v_getI (j := 1) (q := 19) dX6_takeOneOf_16 fl_X6_15 kd_23 rfl rfl rfl ?_
    refine v_iald (q := 20) dX6_takeOneOf_19 kd_24 (by rw [e1]; omega) (by rw [e1]; omega) rfl ?_
    rw [e1, e2]
    refine v_iload_n (j := 1) (q := 21) rfl dX6_takeOneOf_20 rfl ?_
    refine v_icmp_lt (tgt := 39) (q := 24) dX6_takeOneOf_21 (by decide) rfl (by omega) (by omega) (fun h21 => ?_) (fun h21 => ?_)
    · refine v_iconst (q := 40) dX6_takeOneOf_39 rfl ?_
      refine v_iret dX6_takeOneOf_40 ?_
      have hc : ¬ ch (mem 24) (mem 23 0) f n a := by unfold ch; omega
      exact ⟨_, rfl, (tk_f hc).1, by rw [(tk_f hc).2]⟩
    · refine v_aload_n (j := 0) (q := 25) rfl dX6_takeOneOf_24 rfl ?_
      refine v_getR (p' := 24) (q := 28) dX6_takeOneOf_25 fl_X6_18 kd_23 rfl (rfc_6_2 kd_23) rfl ?_
      refine v_aload_n (j := 0) (q := 29) rfl dX6_takeOneOf_28 rfl ?_
      refine v_getI (j := 1) (q := 32) dX6_takeOneOf_29 fl_X6_15 kd_23 rfl rfl rfl ?_
      refine v_iald (q := 33) dX6_takeOneOf_32 kd_24 (by rw [e1]; omega) (by rw [e1]; omega) rfl ?_
      rw [e1, e2]
      refine v_iload_n (j := 1) (q := 34) rfl dX6_takeOneOf_33 rfl ?_
      refine v_iload_n (j := 2) (q := 35) rfl dX6_takeOneOf_34 rfl ?_
      refine v_iadd (q := 36) dX6_takeOneOf_35 rfl ?_
      refine v_icmp_lt (tgt := 41) (q := 39) dX6_takeOneOf_36 (by decide) rfl (by omega) (by omega) (fun h36 => ?_) (fun h36 => ?_)
      · refine v_aload_n (j := 0) (q := 42) rfl dX6_takeOneOf_41 rfl ?_
        refine v_getR (p' := 24) (q := 45) dX6_takeOneOf_42 fl_X6_18 kd_23 rfl (rfc_6_2 kd_23) rfl ?_
        refine v_aload_n (j := 0) (q := 46) rfl dX6_takeOneOf_45 rfl ?_
        refine v_getI (j := 1) (q := 49) dX6_takeOneOf_46 fl_X6_15 kd_23 rfl rfl rfl ?_
        refine v_iald (q := 50) dX6_takeOneOf_49 kd_24 (by rw [e1]; omega) (by rw [e1]; omega) rfl ?_
        rw [e1, e2]
        refine v_iload_n (j := 1) (q := 51) rfl dX6_takeOneOf_50 rfl ?_
        refine v_isub (q := 52) dX6_takeOneOf_51 rfl ?_
        refine v_ist3 (q := 53) rfl dX6_takeOneOf_52 (by decide) rfl ?_
        refine v_aload_n (j := 0) (q := 54) rfl dX6_takeOneOf_53 rfl ?_
        refine v_dup (q := 55) rfl dX6_takeOneOf_54 rfl ?_
        refine v_getI (j := 1) (q := 58) dX6_takeOneOf_55 fl_X6_15 kd_23 rfl rfl rfl ?_
        refine v_iconst (q := 59) dX6_takeOneOf_58 rfl ?_
        refine v_iadd (q := 60) dX6_takeOneOf_59 rfl ?_
        refine v_putI (j := 1) (q := 63) dX6_takeOneOf_60 fl_X6_15 kd_23 rfl rfl rfl ?_
        refine v_iload_n (j := 3) (q := 64) rfl dX6_takeOneOf_63 rfl ?_
        refine v_iret dX6_takeOneOf_64 ?_
        have hc : ch (mem 24) (mem 23 0) f n a := by unfold ch; omega
        exact ⟨_, rfl, (tk_t hc).1, by rw [(tk_t hc).2, e1, um_um]⟩
      · refine v_iconst (q := 40) dX6_takeOneOf_39 rfl ?_
        refine v_iret dX6_takeOneOf_40 ?_
        have hc : ¬ ch (mem 24) (mem 23 0) f n a := by unfold ch; omega
        exact ⟨_, rfl, (tk_f hc).1, by rw [(tk_f hc).2]⟩
theorem c_X6_takeWord (g a : Int) (mem : Mem) (hT : txOK mem) (ha : 0 ≤ a ∧ a ≤ mem 23 0) (hg : 0 ≤ g ∧ g ≤ 100) : CtrI mX6_takeWord [aR 23, aI g] (um mem 23 1 a) (fun z m => (pW (mem 24) (mem 23 0) g a).1 = z ∧ um mem 23 1 (pW (mem 24) (mem 23 0) g a).2 = m) := by
  have h1 := hT.1
  have hz := tkz_R (T := mem 24) (L := mem 23 0) (f := 97) (n := g) (a := a) hg
  have hz2 := tkz_R (T := mem 24) (L := mem 23 0) (f := 97) (n := g) (a := a + 1) hg
  refine Ctr.ofV (ls := [aR 23, aI g, aU, aU, aU]) rfl (by decide) rfl (Nat.le_of_ble_eq_true rfl) ?_
  refine v_iconst (q := 1) dX6_takeWord_0 rfl ?_
  refine v_ist2 (q := 2) rfl dX6_takeWord_1 (by decide) rfl ?_
  refine v_iconst (q := 3) dX6_takeWord_2 rfl ?_
  refine v_ist3 (q := 4) rfl dX6_takeWord_3 (by decide) rfl ?_
  refine v_iload_n (j := 3) (q := 5) rfl dX6_takeWord_4 rfl ?_
  refine v_iconst (q := 6) dX6_takeWord_5 rfl ?_
  refine v_icmp_ge (tgt := 41) (q := 9) dX6_takeWord_6 (by decide) rfl (by omega) (by omega) (fun h6 => ?_) (fun h6 => ?_)
  · exact absurd h6 (by omega)
  · refine v_aload_n (j := 0) (q := 10) rfl dX6_takeWord_9 rfl ?_
    refine v_bipush (q := 12) (by decide) dX6_takeWord_10 rfl ?_
    refine v_iload_n (j := 1) (q := 13) rfl dX6_takeWord_12 rfl ?_
    refine v_cVI2 (q := 16) dX6_takeWord_13 mlX6_34 mdX6_takeOneOf (by decide) kd_23 rfl rfl ⟨Nat.le_refl 0, Nat.le_refl 0⟩ (by exact Nat.le_of_ble_eq_true rfl) rfl (c_X6_takeOneOf 97 g _ mem hT (by omega) (by omega) hg) ?_
    rintro _ _ ⟨rfl, rfl⟩
    refine v_ist4 (q := 18) rfl dX6_takeWord_16 (by decide) rfl ?_
    refine v_iload (j := 4) (q := 20) rfl dX6_takeWord_18 rfl ?_
    refine v_if_ge (tgt := 25) (q := 23) dX6_takeWord_20 (by decide) rfl (by omega) (fun h20 => ?_) (fun h20 => ?_)
    · have hc := tkz_nn h20
      have hcc := hc.1
      rw [(tk_t hc).2]
      refine v_iload_n (j := 2) (q := 26) rfl dX6_takeWord_25 rfl ?_
      refine v_bipush (q := 28) (by decide) dX6_takeWord_26 rfl ?_
      refine v_imul (q := 29) dX6_takeWord_28 rfl ?_
      refine v_iload (j := 4) (q := 31) rfl dX6_takeWord_29 rfl ?_
      refine v_iadd (q := 32) dX6_takeWord_31 rfl ?_
      refine v_iconst (q := 33) dX6_takeWord_32 rfl ?_
      refine v_iadd (q := 34) dX6_takeWord_33 rfl ?_
      refine v_ist2 (q := 35) rfl dX6_takeWord_34 (by decide) rfl ?_
      refine v_iinc3 (q := 38) rfl dX6_takeWord_35 (by decide) rfl ?_
      refine v_goto (q := 4) dX6_takeWord_38 (by decide) ?_
      refine v_iload_n (j := 3) (q := 5) rfl dX6_takeWord_4 rfl ?_
      refine v_iconst (q := 6) dX6_takeWord_5 rfl ?_
      refine v_icmp_ge (tgt := 41) (q := 9) dX6_takeWord_6 (by decide) rfl (by omega) (by omega) (fun h6 => ?_) (fun h6 => ?_)
      · exact absurd h6 (by omega)
      · refine v_aload_n (j := 0) (q := 10) rfl dX6_takeWord_9 rfl ?_
        refine v_bipush (q := 12) (by decide) dX6_takeWord_10 rfl ?_
        refine v_iload_n (j := 1) (q := 13) rfl dX6_takeWord_12 rfl ?_
        refine v_cVI2 (q := 16) dX6_takeWord_13 mlX6_34 mdX6_takeOneOf (by decide) kd_23 rfl rfl ⟨Nat.le_refl 0, Nat.le_refl 0⟩ (by exact Nat.le_of_ble_eq_true rfl) rfl (c_X6_takeOneOf 97 g _ mem hT (by omega) (by omega) hg) ?_
        rintro _ _ ⟨rfl, rfl⟩
        refine v_ist4 (q := 18) rfl dX6_takeWord_16 (by decide) rfl ?_
        refine v_iload (j := 4) (q := 20) rfl dX6_takeWord_18 rfl ?_
        refine v_if_ge (tgt := 25) (q := 23) dX6_takeWord_20 (by decide) rfl (by omega) (fun h20 => ?_) (fun h20 => ?_)
        · have hc := tkz_nn h20
          have hcc := hc.1
          rw [(tk_t hc).2]
          refine v_iload_n (j := 2) (q := 26) rfl dX6_takeWord_25 rfl ?_
          refine v_bipush (q := 28) (by decide) dX6_takeWord_26 rfl ?_
          refine v_imul (q := 29) dX6_takeWord_28 rfl ?_
          refine v_iload (j := 4) (q := 31) rfl dX6_takeWord_29 rfl ?_
          refine v_iadd (q := 32) dX6_takeWord_31 rfl ?_
          refine v_iconst (q := 33) dX6_takeWord_32 rfl ?_
          refine v_iadd (q := 34) dX6_takeWord_33 rfl ?_
          refine v_ist2 (q := 35) rfl dX6_takeWord_34 (by decide) rfl ?_
          refine v_iinc3 (q := 38) rfl dX6_takeWord_35 (by decide) rfl ?_
          refine v_goto (q := 4) dX6_takeWord_38 (by decide) ?_
          refine v_iload_n (j := 3) (q := 5) rfl dX6_takeWord_4 rfl ?_
          refine v_iconst (q := 6) dX6_takeWord_5 rfl ?_
          refine v_icmp_ge (tgt := 41) (q := 9) dX6_takeWord_6 (by decide) rfl (by omega) (by omega) (fun h6 => ?_) (fun h6 => ?_)
          · refine v_iload_n (j := 2) (q := 42) rfl dX6_takeWord_41 rfl ?_
            refine v_iret dX6_takeWord_42 ?_
            rcases pW_cases (mem 24) (mem 23 0) g a with ⟨k1, k2, e⟩ | ⟨k1, k2, e⟩ | ⟨k1, e⟩
            · first
                | exact absurd k1 hc9
                | exact absurd k2 hc9
                | exact ⟨_, rfl, by rw [e, (tk_t k1).1, (tk_t k2).1]; show _ = _; omega, by rw [e]; show um mem 23 1 (a + 2) = um mem 23 1 (a + 1 + 1); rw [Int.add_assoc]; rfl⟩
            · first
                | exact absurd k1 hc9
                | exact ⟨_, rfl, by rw [e, (tk_t k1).1]; show _ = _; omega, by rw [e, (tk_f k2).2]⟩
                | exact absurd hc k2
            · first
                | exact absurd (by assumption) k1
                | exact ⟨_, rfl, by rw [e], by rw [e, (tk_f k1).2]⟩
          · exact absurd h6 (by omega)
        · have hc9 := tkz_neg (Int.not_le.mp h20)
          refine v_iload_n (j := 2) (q := 24) rfl dX6_takeWord_23 rfl ?_
          refine v_iret dX6_takeWord_24 ?_
          rcases pW_cases (mem 24) (mem 23 0) g a with ⟨k1, k2, e⟩ | ⟨k1, k2, e⟩ | ⟨k1, e⟩
          · first
              | exact absurd k1 hc9
              | exact absurd k2 hc9
              | exact ⟨_, rfl, by rw [e, (tk_t k1).1, (tk_t k2).1]; show _ = _; omega, by rw [e]; show um mem 23 1 (a + 2) = um mem 23 1 (a + 1 + 1); rw [Int.add_assoc]; rfl⟩
          · first
              | exact absurd k1 hc9
              | exact ⟨_, rfl, by rw [e, (tk_t k1).1]; show _ = _; omega, by rw [e, (tk_f k2).2]⟩
              | exact absurd hc k2
          · first
              | exact absurd (by assumption) k1
              | exact ⟨_, rfl, by rw [e], by rw [e, (tk_f k1).2]⟩
    · have hc9 := tkz_neg (Int.not_le.mp h20)
      refine v_iload_n (j := 2) (q := 24) rfl dX6_takeWord_23 rfl ?_
      refine v_iret dX6_takeWord_24 ?_
      rcases pW_cases (mem 24) (mem 23 0) g a with ⟨k1, k2, e⟩ | ⟨k1, k2, e⟩ | ⟨k1, e⟩
      · first
          | exact absurd k1 hc9
          | exact absurd k2 hc9
          | exact ⟨_, rfl, by rw [e, (tk_t k1).1, (tk_t k2).1]; show _ = _; omega, by rw [e]; show um mem 23 1 (a + 2) = um mem 23 1 (a + 1 + 1); rw [Int.add_assoc]; rfl⟩
      · first
          | exact absurd k1 hc9
          | exact ⟨_, rfl, by rw [e, (tk_t k1).1]; show _ = _; omega, by rw [e, (tk_f k2).2]⟩
          | exact absurd hc k2
      · first
          | exact absurd (by assumption) k1
          | exact ⟨_, rfl, by rw [e], by rw [e, (tk_f k1).2]⟩
theorem c_X6_takeWeight (b : Int) (mem : Mem) (hT : txOK mem) (ha : 0 ≤ b ∧ b ≤ mem 23 0) : CtrI mX6_takeWeight [aR 23] (um mem 23 1 b) (fun z m => (ch (mem 24) (mem 23 0) 48 10 b ∧ (pN (mem 24) (mem 23 0) b).1 = z ∧ um mem 23 1 (pN (mem 24) (mem 23 0) b).2 = m) ∨ (¬ ch (mem 24) (mem 23 0) 48 10 b ∧ z = -1 ∧ um mem 23 1 b = m)) := by
  have h1 := hT.1
  have hz := tkz_R (T := mem 24) (L := mem 23 0) (f := 48) (n := 10) (a := b) (by omega)
  have hz2 := tkz_R (T := mem 24) (L := mem 23 0) (f := 48) (n := 10) (a := b + 1) (by omega)
  refine Ctr.ofV (ls := [aR 23, aU, aU]) rfl (by decide) rfl (Nat.le_of_ble_eq_true rfl) ?_
  refine v_aload_n (j := 0) (q := 1) rfl dX6_takeWeight_0 rfl ?_
  refine v_bipush (q := 3) (by decide) dX6_takeWeight_1 rfl ?_
  refine v_bipush (q := 5) (by decide) dX6_takeWeight_3 rfl ?_
  refine v_cVI2 (q := 8) dX6_takeWeight_5 mlX6_34 mdX6_takeOneOf (by decide) kd_23 rfl rfl ⟨Nat.le_refl 0, Nat.le_refl 0⟩ (by exact Nat.le_of_ble_eq_true rfl) rfl (c_X6_takeOneOf 48 10 b mem hT (by omega) (by omega) (by omega)) ?_
  rintro _ _ ⟨rfl, rfl⟩
  refine v_ist1 (q := 9) rfl dX6_takeWeight_8 (by decide) rfl ?_
  refine v_iload_n (j := 1) (q := 10) rfl dX6_takeWeight_9 rfl ?_
  refine v_if_ge (tgt := 15) (q := 13) dX6_takeWeight_10 (by decide) rfl (by omega) (fun h10 => ?_) (fun h10 => ?_)
  · have hc := tkz_nn h10
    have hcc := hc.1
    rw [(tk_t hc).2]
    refine v_aload_n (j := 0) (q := 16) rfl dX6_takeWeight_15 rfl ?_
    refine v_bipush (q := 18) (by decide) dX6_takeWeight_16 rfl ?_
    refine v_bipush (q := 20) (by decide) dX6_takeWeight_18 rfl ?_
    refine v_cVI2 (q := 23) dX6_takeWeight_20 mlX6_34 mdX6_takeOneOf (by decide) kd_23 rfl rfl ⟨Nat.le_refl 0, Nat.le_refl 0⟩ (by exact Nat.le_of_ble_eq_true rfl) rfl (c_X6_takeOneOf 48 10 (b + 1) mem hT (by omega) (by omega) (by omega)) ?_
    rintro _ _ ⟨rfl, rfl⟩
    refine v_ist2 (q := 24) rfl dX6_takeWeight_23 (by decide) rfl ?_
    refine v_iload_n (j := 2) (q := 25) rfl dX6_takeWeight_24 rfl ?_
    refine v_if_ge (tgt := 32) (q := 28) dX6_takeWeight_25 (by decide) rfl (by omega) (fun h25 => ?_) (fun h25 => ?_)
    · refine v_iload_n (j := 1) (q := 33) rfl dX6_takeWeight_32 rfl ?_
      refine v_bipush (q := 35) (by decide) dX6_takeWeight_33 rfl ?_
      refine v_imul (q := 36) dX6_takeWeight_35 rfl ?_
      refine v_iload_n (j := 2) (q := 37) rfl dX6_takeWeight_36 rfl ?_
      refine v_iadd (q := 38) dX6_takeWeight_37 rfl ?_
      refine v_iret dX6_takeWeight_38 ?_
      rcases pN_cases (mem 24) (mem 23 0) b with ⟨k1, e⟩ | ⟨k1, e⟩
      · first
          | exact absurd k1 (tkz_neg (Int.not_le.mp h25))
          | exact ⟨_, rfl, Or.inl ⟨hc, by rw [e, (tk_t hc).1, (tk_t k1).1], by rw [e, (tk_t k1).2]; show um mem 23 1 (b + 2) = um mem 23 1 (b + 1 + 1); rw [Int.add_assoc]; rfl⟩⟩
      · first
          | exact absurd (tkz_nn h25) k1
          | exact ⟨_, rfl, Or.inl ⟨hc, by rw [e, (tk_t hc).1], by rw [e, (tk_f k1).2]⟩⟩
    · refine v_iload_n (j := 1) (q := 29) rfl dX6_takeWeight_28 rfl ?_
      refine v_goto (q := 38) dX6_takeWeight_29 (by decide) ?_
      refine v_iret dX6_takeWeight_38 ?_
      rcases pN_cases (mem 24) (mem 23 0) b with ⟨k1, e⟩ | ⟨k1, e⟩
      · first
          | exact absurd k1 (tkz_neg (Int.not_le.mp h25))
          | exact ⟨_, rfl, Or.inl ⟨hc, by rw [e, (tk_t hc).1, (tk_t k1).1], by rw [e, (tk_t k1).2]; show um mem 23 1 (b + 2) = um mem 23 1 (b + 1 + 1); rw [Int.add_assoc]; rfl⟩⟩
      · first
          | exact absurd (tkz_nn h25) k1
          | exact ⟨_, rfl, Or.inl ⟨hc, by rw [e, (tk_t hc).1], by rw [e, (tk_f k1).2]⟩⟩
  · have hc9 := tkz_neg (Int.not_le.mp h10)
    refine v_iconst (q := 14) dX6_takeWeight_13 rfl ?_
    refine v_iret dX6_takeWeight_14 ?_
    exact ⟨_, rfl, Or.inr ⟨hc9, rfl, by rw [(tk_f hc9).2]⟩⟩
/-- the draft: a system whose rules so far are l -/
def DR (mem : Mem) (l : List Rl) : Prop := (1 ≤ mem 3 0 ∧ mem 3 0 ≤ 4) ∧ (1 ≤ mem 3 1 ∧ mem 3 1 ≤ 5) ∧ mem 3 4 = l.length ∧ l.length ≤ 20 ∧ l = rls (mem 4) 0 l.length ∧ (∀ i, 0 ≤ i → i < 100 → R32 (mem 4 i)) ∧ ∀ r ∈ l, okR (mem 3 0) (mem 3 1) r
def itemQ (mem : Mem) (a : Int) (l : List Rl) (z : Int) (m : Mem) : Prop :=
  (∃ f, pItem (mem 24) (mem 23 0) (mem 3 0) (mem 3 1) a l = .inl f ∧ f = z ∧ ∃ a', um mem 23 1 a' = m) ∨
  (∃ b r, pItem (mem 24) (mem 23 0) (mem 3 0) (mem 3 1) a l = .inr (b, r) ∧ -6 = z ∧ (∀ q, q ≠ 3 → q ≠ 4 → q ≠ 23 → m q = mem q) ∧ m 23 0 = mem 23 0 ∧ m 23 1 = b ∧ (∀ j, j ≠ 4 → m 3 j = mem 3 j) ∧ DR m (l ++ [r]))
/-- a rule is appended to the draft -/
theorem DR.append {m m1 : Mem} {l : List Rl} {p x q w t : Int} (h : DR m l) (hr : okR (m 3 0) (m 3 1) (p, x, q, w, t)) (h20 : l.length < 20) (hm : um (um (um (um (um (um m 4 (m 3 4 * 5 + 0) p) 4 (m 3 4 * 5 + 1) x) 4 (m 3 4 * 5 + 2) q) 4 (m 3 4 * 5 + 3) w) 4 (m 3 4 * 5 + 4) t) 3 4 (m 3 4 + 1) = m1) :
    (∀ r, r ≠ 3 → r ≠ 4 → m1 r = m r) ∧ (∀ j, j ≠ 4 → m1 3 j = m 3 j) ∧ DR m1 (l ++ [(p, x, q, w, t)]) := by
  obtain ⟨d1, d2, d3, d4, d5, d6, d7⟩ := h
  have o1 : m1 3 = ui (m 3) 4 (m 3 4 + 1) := by rw [← hm, um_same, um_ne _ _ _ (by decide), um_ne _ _ _ (by decide), um_ne _ _ _ (by decide), um_ne _ _ _ (by decide), um_ne _ _ _ (by decide)]
  have o2 : m1 4 = ui (ui (ui (ui (ui (m 4) (m 3 4 * 5 + 0) p) (m 3 4 * 5 + 1) x) (m 3 4 * 5 + 2) q) (m 3 4 * 5 + 3) w) (m 3 4 * 5 + 4) t := by rw [← hm, um_ne _ _ _ (by decide), um_same, um_same, um_same, um_same, um_same]
  have o3 : ∀ j, j ≠ 4 → m1 3 j = m 3 j := fun j hj => by rw [o1, ui_ne _ _ hj]
  have hw := nd_bound 2 hr.2.2.2.1.1.1 hr.2.2.2.1.2
  have hw0 : 0 ≤ w := hr.2.2.2.1.1.1
  rw [show (10 : Int) ^ 2 = 100 by decide] at hw
  change w < 100 at hw
  obtain ⟨⟨p0, p1⟩, ⟨x0, x1⟩, ⟨q0, q1⟩, -, ⟨t0, t1⟩⟩ := id hr
  change 0 ≤ p at p0; change p < m 3 0 at p1; change 1 ≤ x at x0; change x ≤ m 3 1 at x1; change 0 ≤ q at q0; change q < m 3 0 at q1; change 1 ≤ t at t0; change t ≤ 20 at t1
  refine ⟨fun r h1 h2 => by rw [← hm, um_ne _ _ _ h1, um_ne _ _ _ h2, um_ne _ _ _ h2, um_ne _ _ _ h2, um_ne _ _ _ h2, um_ne _ _ _ h2], o3, ?_, ?_, ?_, ?_, ?_, ?_, ?_⟩
  · rw [o3 0 (by omega)]; exact d1
  · rw [o3 1 (by omega)]; exact d2
  · rw [o1, ui_same, List.length_append, d3]; rfl
  · rw [List.length_append]; simp; omega
  · rw [List.length_append]
    show _ = rls (m1 4) 0 (l.length + 1)
    rw [rls_succ]
    congr 1
    · rw [d5]
      rw [rls_len]
      apply rls_ext
      intro i i0 i1
      rw [o2, Int.zero_add, ui_ne _ _ (by omega), ui_ne _ _ (by omega), ui_ne _ _ (by omega), ui_ne _ _ (by omega), ui_ne _ _ (by omega)]
    · unfold rl5
      rw [show (0 : Int) + 5 * (l.length : Int) = m 3 4 * 5 by omega, o2]
      rw [ui_ne _ _ (show m 3 4 * 5 ≠ m 3 4 * 5 + 4 by omega), ui_ne _ _ (show m 3 4 * 5 ≠ m 3 4 * 5 + 3 by omega), ui_ne _ _ (show m 3 4 * 5 ≠ m 3 4 * 5 + 2 by omega), ui_ne _ _ (show m 3 4 * 5 ≠ m 3 4 * 5 + 1 by omega), Int.add_zero, ui_same]
      rw [ui_ne _ _ (show m 3 4 * 5 + 1 ≠ m 3 4 * 5 + 4 by omega), ui_ne _ _ (show m 3 4 * 5 + 1 ≠ m 3 4 * 5 + 3 by omega), ui_ne _ _ (show m 3 4 * 5 + 1 ≠ m 3 4 * 5 + 2 by omega), ui_same]
      rw [ui_ne _ _ (show m 3 4 * 5 + 2 ≠ m 3 4 * 5 + 4 by omega), ui_ne _ _ (show m 3 4 * 5 + 2 ≠ m 3 4 * 5 + 3 by omega), ui_same]
      rw [ui_ne _ _ (show m 3 4 * 5 + 3 ≠ m 3 4 * 5 + 4 by omega), ui_same, ui_same]
  · intro i i0 i1
    rw [o2]
    unfold ui
    split
    · omega
    · split
      · omega
      · split
        · omega
        · split
          · omega
          · split
            · omega
            · exact d6 i i0 i1
  · intro r hr9
    rw [o3 0 (by omega), o3 1 (by omega)]
    rcases List.mem_append.mp hr9 with h9 | h9
    · exact d7 r h9
    · rw [List.mem_singleton.mp h9]; exact hr
theorem DR.um {m : Mem} {l : List Rl} (h : DR m l) (z : Int) : DR (um m 23 1 z) l := by
  unfold DR
  rw [um_ne _ _ _ (show 3 ≠ 23 by decide), um_ne _ _ _ (show 4 ≠ 23 by decide)]
  exact h
theorem c_X6_parseItem (a : Int) (l : List Rl) (mem : Mem) (hT : txOK mem) (ha : 0 ≤ a ∧ a ≤ mem 23 0) (hD : DR mem l) (hl : l.length < 20) : CtrI mX6_parseItem [aR 23, aR 3] (um mem 23 1 a) (itemQ mem a l) := by
  have h1 := hT.1
  obtain ⟨d1, d2, d3, d4, d5, d6, d7⟩ := id hD
  have u3 : ∀ z, um mem 23 1 z 3 = mem 3 := fun z => um_ne _ _ _ (by decide)
  have u4 : ∀ z, um mem 23 1 z 4 = mem 4 := fun z => um_ne _ _ _ (by decide)
  have u23 : ∀ z, um mem 23 1 z 23 1 = z := fun z => by rw [um_same, ui_same]
  have z1 := tkz_R (T := mem 24) (L := mem 23 0) (f := 48) (n := mem 3 0) (a := a) (by omega)
  have z2 := tkz_R (T := mem 24) (L := mem 23 0) (f := 97) (n := mem 3 1) (a := a + 1) (by omega)
  have z3 := tkz_R (T := mem 24) (L := mem 23 0) (f := 62) (n := 1) (a := a + 2) (by omega)
  have z4 := tkz_R (T := mem 24) (L := mem 23 0) (f := 48) (n := mem 3 0) (a := a + 3) (by omega)
  have z5 := tkz_R (T := mem 24) (L := mem 23 0) (f := 58) (n := 1) (a := (pW (mem 24) (mem 23 0) (mem 3 1) (a + 4)).2) (by omega)
  have z8 := tkz_R (T := mem 24) (L := mem 23 0) (f := 59) (n := 1) (a := (pN (mem 24) (mem 23 0) ((pW (mem 24) (mem 23 0) (mem 3 1) (a + 4)).2 + 1)).2) (by omega)
  have nn : ∀ {P : Prop}, P → ¬ ¬ P := fun h h2 => h2 h
  have bad : ∀ f X, pItem (mem 24) (mem 23 0) (mem 3 0) (mem 3 1) a l = .inl f → f = X → ∀ z, z = X → ∀ y, ∃ z', aI z = aI z' ∧ itemQ mem a l z' (um mem 23 1 y) := fun f X hp hf z hz y => ⟨z, rfl, Or.inl ⟨f, hp, hf.trans hz.symm, y, rfl⟩⟩
  refine Ctr.ofV (ls := [aR 23, aR 3, aU, aU, aU, aU, aU, aU]) rfl (by decide) rfl (Nat.le_of_ble_eq_true rfl) ?_
  refine v_aload_n (j := 0) (q := 1) rfl dX6_parseItem_0 rfl ?_
  refine v_bipush (q := 3) (by decide) dX6_parseItem_1 rfl ?_
  refine v_aload_n (j := 1) (q := 4) rfl dX6_parseItem_3 rfl ?_
  refine v_getI (j := 0) (q := 7) dX6_parseItem_4 fl_X6_31 kd_3 rfl rfl rfl ?_
  rw [u3]
  refine v_cVI2 (q := 10) dX6_parseItem_7 mlX6_34 mdX6_takeOneOf (by decide) kd_23 rfl rfl ⟨Nat.le_refl 0, Nat.le_refl 0⟩ (by exact Nat.le_of_ble_eq_true rfl) rfl (c_X6_takeOneOf 48 (mem 3 0) a mem hT ha (by omega) (by omega)) ?_
  rintro _ _ ⟨rfl, rfl⟩
  refine v_ist2 (q := 11) rfl dX6_parseItem_10 (by decide) rfl ?_
  refine v_iload_n (j := 2) (q := 12) rfl dX6_parseItem_11 rfl ?_
  refine v_if_ge (tgt := 20) (q := 15) dX6_parseItem_12 (by decide) rfl (by omega) (fun h12 => ?_) (fun h12 => ?_)
  · have c1 := tkz_nn h12
    have c1a := c1.1
    rw [(tk_t c1).2]
    refine v_aload_n (j := 0) (q := 21) rfl dX6_parseItem_20 rfl ?_
    refine v_bipush (q := 23) (by decide) dX6_parseItem_21 rfl ?_
    refine v_aload_n (j := 1) (q := 24) rfl dX6_parseItem_23 rfl ?_
    refine v_getI (j := 1) (q := 27) dX6_parseItem_24 fl_X6_38 kd_3 rfl rfl rfl ?_
    rw [u3]
    refine v_cVI2 (q := 30) dX6_parseItem_27 mlX6_34 mdX6_takeOneOf (by decide) kd_23 rfl rfl ⟨Nat.le_refl 0, Nat.le_refl 0⟩ (by exact Nat.le_of_ble_eq_true rfl) rfl (c_X6_takeOneOf 97 (mem 3 1) (a + 1) mem hT (by omega) (by omega) (by omega)) ?_
    rintro _ _ ⟨rfl, rfl⟩
    refine v_ist3 (q := 31) rfl dX6_parseItem_30 (by decide) rfl ?_
    refine v_iload_n (j := 3) (q := 32) rfl dX6_parseItem_31 rfl ?_
    refine v_if_lt (tgt := 45) (q := 35) dX6_parseItem_32 (by decide) rfl (by omega) (fun h32 => ?_) (fun h32 => ?_)
    · have n2 := tkz_neg h32
      refine v_aload_n (j := 0) (q := 46) rfl dX6_parseItem_45 rfl ?_
      refine v_getI (j := 1) (q := 49) dX6_parseItem_46 fl_X6_15 kd_23 rfl rfl rfl ?_
      refine v_iret dX6_parseItem_49 ?_
      first | exact bad (a + 1) (a + 1) (by unfold pItem; rw [if_neg (nn c1), if_pos n2]) rfl _ (by rw [u23, (tk_f n2).2]) _ | exact bad (a + 2) (a + 2) (by unfold pItem; rw [if_neg (nn c1), if_neg (nn c2), if_pos n3]) rfl _ (by rw [u23, (tk_f n3).2]) _
    · have c2 := tkz_nn (Int.not_lt.mp h32)
      have c2a := c2.1
      rw [(tk_t c2).2, show a + 1 + 1 = a + 2 by omega]
      refine v_aload_n (j := 0) (q := 36) rfl dX6_parseItem_35 rfl ?_
      refine v_bipush (q := 38) (by decide) dX6_parseItem_36 rfl ?_
      refine v_iconst (q := 39) dX6_parseItem_38 rfl ?_
      refine v_cVI2 (q := 42) dX6_parseItem_39 mlX6_34 mdX6_takeOneOf (by decide) kd_23 rfl rfl ⟨Nat.le_refl 0, Nat.le_refl 0⟩ (by exact Nat.le_of_ble_eq_true rfl) rfl (c_X6_takeOneOf 62 1 (a + 2) mem hT (by omega) (by omega) (by omega)) ?_
      rintro _ _ ⟨rfl, rfl⟩
      refine v_if_ge (tgt := 50) (q := 45) dX6_parseItem_42 (by decide) rfl (by omega) (fun h42 => ?_) (fun h42 => ?_)
      · have c3 := tkz_nn h42
        have c3a := c3.1
        rw [(tk_t c3).2, show a + 2 + 1 = a + 3 by omega]
        refine v_aload_n (j := 0) (q := 51) rfl dX6_parseItem_50 rfl ?_
        refine v_bipush (q := 53) (by decide) dX6_parseItem_51 rfl ?_
        refine v_aload_n (j := 1) (q := 54) rfl dX6_parseItem_53 rfl ?_
        refine v_getI (j := 0) (q := 57) dX6_parseItem_54 fl_X6_31 kd_3 rfl rfl rfl ?_
        rw [u3]
        refine v_cVI2 (q := 60) dX6_parseItem_57 mlX6_34 mdX6_takeOneOf (by decide) kd_23 rfl rfl ⟨Nat.le_refl 0, Nat.le_refl 0⟩ (by exact Nat.le_of_ble_eq_true rfl) rfl (c_X6_takeOneOf 48 (mem 3 0) (a + 3) mem hT (by omega) (by omega) (by omega)) ?_
        rintro _ _ ⟨rfl, rfl⟩
        refine v_ist4 (q := 62) rfl dX6_parseItem_60 (by decide) rfl ?_
        refine v_iload (j := 4) (q := 64) rfl dX6_parseItem_62 rfl ?_
        refine v_if_ge (tgt := 72) (q := 67) dX6_parseItem_64 (by decide) rfl (by omega) (fun h64 => ?_) (fun h64 => ?_)
        · have c4 := tkz_nn h64
          have c4a := c4.1
          rw [(tk_t c4).2, show a + 3 + 1 = a + 4 by omega]
          have w := pW_ok (mem 24) (mem 23 0) (mem 3 1) (a + 4) (by omega) (by omega)
          refine v_aload_n (j := 0) (q := 73) rfl dX6_parseItem_72 rfl ?_
          refine v_aload_n (j := 1) (q := 74) rfl dX6_parseItem_73 rfl ?_
          refine v_getI (j := 1) (q := 77) dX6_parseItem_74 fl_X6_38 kd_3 rfl rfl rfl ?_
          rw [u3]
          refine v_cVI1 (q := 80) dX6_parseItem_77 mlX6_41 mdX6_takeWord (by decide) kd_23 rfl rfl ⟨Nat.le_refl 0, Nat.le_refl 0⟩ (by exact Nat.le_of_ble_eq_true rfl) rfl (c_X6_takeWord (mem 3 1) (a + 4) mem hT (by omega) (by omega)) ?_
          rintro _ _ ⟨rfl, rfl⟩
          refine v_ist5 (q := 82) rfl dX6_parseItem_80 (by decide) rfl ?_
          refine v_aload_n (j := 0) (q := 83) rfl dX6_parseItem_82 rfl ?_
          refine v_bipush (q := 85) (by decide) dX6_parseItem_83 rfl ?_
          refine v_iconst (q := 86) dX6_parseItem_85 rfl ?_
          refine v_cVI2 (q := 89) dX6_parseItem_86 mlX6_34 mdX6_takeOneOf (by decide) kd_23 rfl rfl ⟨Nat.le_refl 0, Nat.le_refl 0⟩ (by exact Nat.le_of_ble_eq_true rfl) rfl (c_X6_takeOneOf 58 1 _ mem hT (by omega) (by omega) (by omega)) ?_
          rintro _ _ ⟨rfl, rfl⟩
          refine v_if_ge (tgt := 97) (q := 92) dX6_parseItem_89 (by decide) rfl (by omega) (fun h89 => ?_) (fun h89 => ?_)
          · have c5 := tkz_nn h89
            have c5a := c5.1
            rw [(tk_t c5).2]
            refine v_aload_n (j := 0) (q := 98) rfl dX6_parseItem_97 rfl ?_
            refine v_getI (j := 1) (q := 101) dX6_parseItem_98 fl_X6_15 kd_23 rfl rfl rfl ?_
            rw [u23]
            refine v_ist6 (q := 103) rfl dX6_parseItem_101 (by decide) rfl ?_
            refine v_aload_n (j := 0) (q := 104) rfl dX6_parseItem_103 rfl ?_
            refine v_cVI0 (q := 107) dX6_parseItem_104 mlX6_45 mdX6_takeWeight (by decide) kd_23 rfl rfl ⟨Nat.le_refl 0, Nat.le_refl 0⟩ (by exact Nat.le_of_ble_eq_true rfl) rfl (c_X6_takeWeight _ mem hT (by omega)) ?_
            intro z7 m7 hor
            refine v_ist7 (q := 109) rfl dX6_parseItem_107 (by decide) rfl ?_
            refine v_iload (j := 7) (q := 111) rfl dX6_parseItem_109 rfl ?_
            refine v_if_ge (tgt := 119) (q := 114) dX6_parseItem_111 (by decide) rfl (by rcases hor with ⟨k, e, -⟩ | ⟨k, e, -⟩ <;> first | omega | (have := pN_ok _ _ _ k; omega)) (fun h111 => ?_) (fun h111 => ?_)
            · obtain ⟨c6, rfl, rfl⟩ := hor.resolve_right (fun h => by have := h.2.1; omega)
              have v := pN_ok _ _ _ c6
              refine v_iload (j := 7) (q := 121) rfl dX6_parseItem_119 rfl ?_
              refine v_cSNI1 (q := 124) dX6_parseItem_121 mlX6_49 mdX9_isWeight (by decide) ⟨Nat.le_refl 0, Nat.le_refl 0⟩ (by exact Nat.le_of_ble_eq_true rfl) rfl (c_X9_isWeight _ _ (by omega)) ?_
              rintro _ _ ⟨rfl, rfl⟩
              refine v_if_neB (tgt := 130) (q := 127) dX6_parseItem_124 (by decide) rfl (fun h124 => ?_) (fun h124 => ?_)
              · refine v_aload_n (j := 0) (q := 131) rfl dX6_parseItem_130 rfl ?_
                refine v_bipush (q := 133) (by decide) dX6_parseItem_131 rfl ?_
                refine v_iconst (q := 134) dX6_parseItem_133 rfl ?_
                refine v_cVI2 (q := 137) dX6_parseItem_134 mlX6_34 mdX6_takeOneOf (by decide) kd_23 rfl rfl ⟨Nat.le_refl 0, Nat.le_refl 0⟩ (by exact Nat.le_of_ble_eq_true rfl) rfl (c_X6_takeOneOf 59 1 _ mem hT (by omega) (by omega) (by omega)) ?_
                rintro _ _ ⟨rfl, rfl⟩
                refine v_if_ge (tgt := 145) (q := 140) dX6_parseItem_137 (by decide) rfl (by omega) (fun h137 => ?_) (fun h137 => ?_)
                · have c8 := tkz_nn h137
                  have c8a := c8.1
                  rw [(tk_t c8).2, (tk_t c1).1, (tk_t c2).1, (tk_t c4).1]
                  have k1 := c1.2
                  have k2 := c2.2
                  have k4 := c4.2
                  have kt : thereR l (mem 24 a - 48) (mem 24 (a + 1) - 97 + 1) (mem 24 (a + 3) - 48) (pW (mem 24) (mem 23 0) (mem 3 1) (a + 4)).1 ↔ hasR (mem 4) (mem 3 4) (mem 24 a - 48) (mem 24 (a + 1) - 97 + 1) (mem 24 (a + 3) - 48) (pW (mem 24) (mem 23 0) (mem 3 1) (a + 4)).1 := by rw [d3, hasR_rls, ← d5]
                  refine v_aload_n (j := 1) (q := 146) rfl dX6_parseItem_145 rfl ?_
                  refine v_iload_n (j := 2) (q := 147) rfl dX6_parseItem_146 rfl ?_
                  refine v_iload_n (j := 3) (q := 148) rfl dX6_parseItem_147 rfl ?_
                  refine v_iconst (q := 149) dX6_parseItem_148 rfl ?_
                  refine v_iadd (q := 150) dX6_parseItem_149 rfl ?_
                  refine v_iload (j := 4) (q := 152) rfl dX6_parseItem_150 rfl ?_
                  refine v_iload (j := 5) (q := 154) rfl dX6_parseItem_152 rfl ?_
                  refine v_cVI4 (q := 157) dX6_parseItem_154 mlX6_53 mdX4_holds (by decide) kd_3 rfl rfl ⟨Nat.le_refl 0, Nat.le_refl 0⟩ (by exact Nat.le_of_ble_eq_true rfl) rfl (c_X4_holds 3 _ _ _ _ _ su_3 ⟨by omega, by omega, by omega, by have := w.1.1; omega⟩ (by rw [u3]; omega) (by rw [u3]; omega) (by rw [show (3 + 1 : Nat) = 4 from rfl, u4]; exact d6)) ?_
                  rintro _ _ ⟨rfl, rfl⟩
                  rw [u3, show (3 + 1 : Nat) = 4 from rfl, u4]
                  refine v_if_eqB (tgt := 167) (q := 160) dX6_parseItem_157 (by decide) rfl (fun h157 => ?_) (fun h157 => ?_)
                  · refine v_aload_n (j := 1) (q := 168) rfl dX6_parseItem_167 rfl ?_
                    refine v_iload_n (j := 2) (q := 169) rfl dX6_parseItem_168 rfl ?_
                    refine v_iload_n (j := 3) (q := 170) rfl dX6_parseItem_169 rfl ?_
                    refine v_iconst (q := 171) dX6_parseItem_170 rfl ?_
                    refine v_iadd (q := 172) dX6_parseItem_171 rfl ?_
                    refine v_iload (j := 4) (q := 174) rfl dX6_parseItem_172 rfl ?_
                    refine v_iload (j := 5) (q := 176) rfl dX6_parseItem_174 rfl ?_
                    refine v_iload (j := 7) (q := 178) rfl dX6_parseItem_176 rfl ?_
                    refine v_cVV5 (q := 181) dX6_parseItem_178 mlX6_57 mdX4_append (by decide) kd_3 rfl rfl ⟨Nat.le_refl 0, Nat.le_refl 0⟩ (by exact Nat.le_of_ble_eq_true rfl) rfl (c_X4_append 3 _ _ _ _ _ _ su_3 (by rw [u3]; omega) (by rw [u3]; omega)) ?_
                    rintro _ rfl
                    refine v_bipush (q := 183) (by decide) dX6_parseItem_181 rfl ?_
                    refine v_iret dX6_parseItem_183 ?_
                    have ep : pItem (mem 24) (mem 23 0) (mem 3 0) (mem 3 1) a l = .inr ((pN (mem 24) (mem 23 0) ((pW (mem 24) (mem 23 0) (mem 3 1) (a + 4)).2 + 1)).2 + 1, (mem 24 a - 48, mem 24 (a + 1) - 97 + 1, mem 24 (a + 3) - 48, (pW (mem 24) (mem 23 0) (mem 3 1) (a + 4)).1, (pN (mem 24) (mem 23 0) ((pW (mem 24) (mem 23 0) (mem 3 1) (a + 4)).2 + 1)).1)) := by
                      unfold pItem
                      rw [if_neg (nn c1), if_neg (nn c2), if_neg (nn c3), if_neg (nn c4), if_neg (nn c5), if_neg (nn c6), if_neg (nn h124), if_neg (nn c8), if_neg (fun h => h157 (kt.mp h))]
                    have ok := (pItem_ok (T := mem 24) (L := mem 23 0) (S := mem 3 0) (G := mem 3 1) (l := l) (by omega) ha.1 ha.2).2 _ _ ep
                    have hD2 := hD.um ((pN (mem 24) (mem 23 0) ((pW (mem 24) (mem 23 0) (mem 3 1) (a + 4)).2 + 1)).2 + 1)
                    obtain ⟨a1, a2, a3⟩ := hD2.append (by rw [u3]; exact ok.1) hl rfl
                    refine ⟨_, rfl, Or.inr ⟨_, _, ep, rfl, fun q q1 q2 q3 => ?_, ?_, ?_, fun j hj => ?_, a3⟩⟩
                    · rw [show (3 + 1 : Nat) = 4 from rfl, a1 q q1 q2, um_ne _ _ _ q3]
                    · rw [show (3 + 1 : Nat) = 4 from rfl, a1 23 (by decide) (by decide), um_same, ui_ne _ _ (by omega)]
                    · rw [show (3 + 1 : Nat) = 4 from rfl, a1 23 (by decide) (by decide), um_same, ui_same]
                    · rw [show (3 + 1 : Nat) = 4 from rfl, a2 j hj, u3]
                  · refine v_aload_n (j := 0) (q := 161) rfl dX6_parseItem_160 rfl ?_
                    refine v_getI (j := 1) (q := 164) dX6_parseItem_161 fl_X6_15 kd_23 rfl rfl rfl ?_
                    refine v_iconst (q := 165) dX6_parseItem_164 rfl ?_
                    refine v_isub (q := 166) dX6_parseItem_165 rfl ?_
                    refine v_iret dX6_parseItem_166 ?_
                    exact bad _ _ (by unfold pItem; rw [if_neg (nn c1), if_neg (nn c2), if_neg (nn c3), if_neg (nn c4), if_neg (nn c5), if_neg (nn c6), if_neg (nn h124), if_neg (nn c8), if_pos (kt.mpr h157)]) rfl _ (by rw [u23]; omega) _
                · have n8 := tkz_neg (Int.not_le.mp h137)
                  refine v_aload_n (j := 0) (q := 141) rfl dX6_parseItem_140 rfl ?_
                  refine v_getI (j := 1) (q := 144) dX6_parseItem_141 fl_X6_15 kd_23 rfl rfl rfl ?_
                  refine v_iret dX6_parseItem_144 ?_
                  exact bad _ _ (by unfold pItem; rw [if_neg (nn c1), if_neg (nn c2), if_neg (nn c3), if_neg (nn c4), if_neg (nn c5), if_neg (nn c6), if_neg (nn h124), if_pos n8]) rfl _ (by rw [u23, (tk_f n8).2]) _
              · refine v_iload (j := 6) (q := 129) rfl dX6_parseItem_127 rfl ?_
                refine v_iret dX6_parseItem_129 ?_
                exact bad _ _ (by unfold pItem; rw [if_neg (nn c1), if_neg (nn c2), if_neg (nn c3), if_neg (nn c4), if_neg (nn c5), if_neg (nn c6), if_pos h124]) rfl _ rfl _
            · obtain ⟨n6, e7, rfl⟩ := hor.resolve_left (fun h => by have := pN_ok _ _ _ h.1; have := h.2.1; omega)
              refine v_aload_n (j := 0) (q := 115) rfl dX6_parseItem_114 rfl ?_
              refine v_getI (j := 1) (q := 118) dX6_parseItem_115 fl_X6_15 kd_23 rfl rfl rfl ?_
              refine v_iret dX6_parseItem_118 ?_
              exact bad _ _ (by unfold pItem; rw [if_neg (nn c1), if_neg (nn c2), if_neg (nn c3), if_neg (nn c4), if_neg (nn c5), if_pos n6]) rfl _ (by rw [u23]) _
          · have n5 := tkz_neg (Int.not_le.mp h89)
            refine v_aload_n (j := 0) (q := 93) rfl dX6_parseItem_92 rfl ?_
            refine v_getI (j := 1) (q := 96) dX6_parseItem_93 fl_X6_15 kd_23 rfl rfl rfl ?_
            refine v_iret dX6_parseItem_96 ?_
            exact bad _ _ (by unfold pItem; rw [if_neg (nn c1), if_neg (nn c2), if_neg (nn c3), if_neg (nn c4), if_pos n5]) rfl _ (by rw [u23, (tk_f n5).2]) _
        · have n4 := tkz_neg (Int.not_le.mp h64)
          refine v_aload_n (j := 0) (q := 68) rfl dX6_parseItem_67 rfl ?_
          refine v_getI (j := 1) (q := 71) dX6_parseItem_68 fl_X6_15 kd_23 rfl rfl rfl ?_
          refine v_iret dX6_parseItem_71 ?_
          exact bad (a + 3) (a + 3) (by unfold pItem; rw [if_neg (nn c1), if_neg (nn c2), if_neg (nn c3), if_pos n4]) rfl _ (by rw [u23, (tk_f n4).2]) _
      · have n3 := tkz_neg (Int.not_le.mp h42)
        refine v_aload_n (j := 0) (q := 46) rfl dX6_parseItem_45 rfl ?_
        refine v_getI (j := 1) (q := 49) dX6_parseItem_46 fl_X6_15 kd_23 rfl rfl rfl ?_
        refine v_iret dX6_parseItem_49 ?_
        first | exact bad (a + 1) (a + 1) (by unfold pItem; rw [if_neg (nn c1), if_pos n2]) rfl _ (by rw [u23, (tk_f n2).2]) _ | exact bad (a + 2) (a + 2) (by unfold pItem; rw [if_neg (nn c1), if_neg (nn c2), if_pos n3]) rfl _ (by rw [u23, (tk_f n3).2]) _
  · have n1 := tkz_neg (Int.not_le.mp h12)
    refine v_aload_n (j := 0) (q := 16) rfl dX6_parseItem_15 rfl ?_
    refine v_getI (j := 1) (q := 19) dX6_parseItem_16 fl_X6_15 kd_23 rfl rfl rfl ?_
    refine v_iret dX6_parseItem_19 ?_
    exact bad a a (by unfold pItem; rw [if_pos n1]) rfl _ (by rw [u23, (tk_f n1).2]) _
