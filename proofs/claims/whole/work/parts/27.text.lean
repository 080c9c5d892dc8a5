/-! ===== Text: the class reads its text as the document says ===== -/
theorem um_um (mem : Mem) (p : Nat) (i y z : Int) : um (um mem p i y) p i z = um mem p i z := by
  funext q
  unfold um
  by_cases h : q = p
  · rw [if_pos h, if_pos h, if_pos rfl]
    funext j
    unfold ui
    by_cases e : j = i
    · rw [if_pos e, if_pos e]
    · rw [if_neg e, if_neg e, if_neg e]
  · rw [if_neg h, if_neg h, if_neg h]
theorem um_id (mem : Mem) (p : Nat) (i : Int) : um mem p i (mem p i) = mem := by
  funext q
  unfold um
  by_cases h : q = p
  · rw [if_pos h, h]
    funext j
    unfold ui
    by_cases e : j = i
    · rw [if_pos e, e]
    · rw [if_neg e]
  · rw [if_neg h]
/-- the text is there, with signs of the document's range -/
def txOK (mem : Mem) : Prop := (0 ≤ mem 23 0 ∧ mem 23 0 ≤ 200) ∧ ∀ i, 0 ≤ i → i < mem 23 0 → 32 ≤ mem 24 i ∧ mem 24 i ≤ 126
theorem c_X6_takeOneOf (f n a : Int) (mem : Mem) (hT : txOK mem) (ha : 0 ≤ a ∧ a ≤ mem 23 0) (hf : 0 ≤ f ∧ f ≤ 200) (hn : 0 ≤ n ∧ n ≤ 100) : CtrI mX6_takeOneOf [aR 23, aI f, aI n] (um mem 23 1 a) (fun z m => tkz (mem 24) (mem 23 0) f n a = z ∧ um mem 23 1 (tka (mem 24) (mem 23 0) f n a) = m) := by
  have e0 : um mem 23 1 a 23 0 = mem 23 0 := by rw [um_same, ui_ne _ _ (by omega)]
  have e1 : um mem 23 1 a 23 1 = a := by rw [um_same, ui_same]
  have e2 : um mem 23 1 a 24 = mem 24 := um_ne _ _ _ (by decide)
  have h2 := hT.2 a
  have h1 := hT.1
  refine Ctr.ofV (ls := [aR 23, aI f, aI n, aU]) rfl (by decide) rfl (Nat.le_of_ble_eq_true rfl) ?_
  refine v_aload_n (j := 0) (q := 1) rfl dX6_takeOneOf_0 rfl ?_
  refine v_getI (j := 1) (q := 4) dX6_takeOneOf_1 fl_X6_15 kd_23 rfl rfl rfl ?_
  refine v_aload_n (j := 0) (q := 5) rfl dX6_takeOneOf_4 rfl ?_
  refine v_getI (j := 0) (q := 8) dX6_takeOneOf_5 fl_X6_9 kd_23 rfl rfl rfl ?_
  rw [e0, e1]
  refine v_icmp_ge (tgt := 39) (q := 11) dX6_takeOneOf_8 (by decide) rfl (by omega) (by omega) (fun h8 => ?_) (fun h8 => ?_)
  · refine v_iconst (q := 40) dX6_takeOneOf_39 rfl ?_
    refine v_iret dX6_takeOneOf_40 ?_
    have hc : ¬ ch (mem 24) (mem 23 0) f n a := by unfold ch; omega
    exact ⟨_, rfl, (tk_f hc).1, by rw [(tk_f hc).2]⟩
  · refine v_aload_n (j := 0) (q := 12) rfl dX6_takeOneOf_11 rfl ?_
    refine v_getR (p' := 24) (q := 15) dX6_takeOneOf_12 fl_X6_18 kd_23 rfl (rfc_6_2 kd_23) rfl ?_
    refine v_aload_n (j := 0) (q := 16) rfl dX6_takeOneOf_15 rfl ?_
    refine v_getI (j := 1) (q := 19) dX6_takeOneOf_16 fl_X6_15 kd_23 rfl rfl rfl ?_
    refine v_iald (q := 20) dX6_takeOneOf_19 kd_24 (by rw [e1]; omega) (by rw [e1]; omega) rfl ?_
    rw [e1, e2]
    refine v_iload_n (j := 1) (q := 21) rfl dX6_takeOneOf_20 rfl ?_
    refine v_icmp_lt (tgt := 39) (q := 24) dX6_takeOneOf_21 (by decide) rfl (by omega) (by omega) (fun h21 => ?_) (fun h21 => ?_)
    · refine v_iconst (q := 40) dX6_takeOneOf_39 rfl ?_
      refine v_iret dX6_takeOneOf_40 ?_
      have hc : ¬ ch (mem 24) (mem 23 0) f n a := by unfold ch; omega
      exact ⟨_, rfl, (tk_f hc).1, by rw [(tk_f hc).2]⟩
    · refine v_aload_n (j := 0) (q := 25) rfl dX6_takeOneOf_24 rfl ?_
      refine v_getR (p' := 24) (q := 28) dX6_takeOneOf_25 fl_X6_18 kd_23 rfl (rfc_6_2 kd_23) rfl ?_
      refine v_aload_n (j := 0) (q := 29) rfl dX6_takeOneOf_28 rfl ?_
      refine v_getI (j := 1) (q := 32) dX6_takeOneOf_29 fl_X6_15 kd_23 rfl rfl rfl ?_
      refine v_iald (q := 33) dX6_takeOneOf_32 kd_24 (by rw [e1]; omega) (by rw [e1]; omega) rfl ?_
      rw [e1, e2]
      refine v_iload_n (j := 1) (q := 34) rfl dX6_takeOneOf_33 rfl ?_
      refine v_iload_n (j := 2) (q := 35) rfl dX6_takeOneOf_34 rfl ?_
      refine v_iadd (q := 36) dX6_takeOneOf_35 rfl ?_
      refine v_icmp_lt (tgt := 41) (q := 39) dX6_takeOneOf_36 (by decide) rfl (by omega) (by omega) (fun h36 => ?_) (fun h36 => ?_)
      · refine v_aload_n (j := 0) (q := 42) rfl dX6_takeOneOf_41 rfl ?_
        refine v_getR (p' := 24) (q := 45) dX6_takeOneOf_42 fl_X6_18 kd_23 rfl (rfc_6_2 kd_23) rfl ?_
        refine v_aload_n (j := 0) (q := 46) rfl dX6_takeOneOf_45 rfl ?_
        refine v_getI (j := 1) (q := 49) dX6_takeOneOf_46 fl_X6_15 kd_23 rfl rfl rfl ?_
        refine v_iald (q := 50) dX6_takeOneOf_49 kd_24 (by rw [e1]; omega) (by rw [e1]; omega) rfl ?_
        rw [e1, e2]
        refine v_iload_n (j := 1) (q := 51) rfl dX6_takeOneOf_50 rfl ?_
        refine v_isub (q := 52) dX6_takeOneOf_51 rfl ?_
        refine v_ist3 (q := 53) rfl dX6_takeOneOf_52 (by decide) rfl ?_
        refine v_aload_n (j := 0) (q := 54) rfl dX6_takeOneOf_53 rfl ?_
        refine v_dup (q := 55) rfl dX6_takeOneOf_54 rfl ?_
        refine v_getI (j := 1) (q := 58) dX6_takeOneOf_55 fl_X6_15 kd_23 rfl rfl rfl ?_
        refine v_iconst (q := 59) dX6_takeOneOf_58 rfl ?_
        refine v_iadd (q := 60) dX6_takeOneOf_59 rfl ?_
        refine v_putI (j := 1) (q := 63) dX6_takeOneOf_60 fl_X6_15 kd_23 rfl rfl rfl ?_
        refine v_iload_n (j := 3) (q := 64) rfl dX6_takeOneOf_63 rfl ?_
        refine v_iret dX6_takeOneOf_64 ?_
        have hc : ch (mem 24) (mem 23 0) f n a := by unfold ch; omega
        exact ⟨_, rfl, (tk_t hc).1, by rw [(tk_t hc).2, e1, um_um]⟩
      · refine v_iconst (q := 40) dX6_takeOneOf_39 rfl ?_
        refine v_iret dX6_takeOneOf_40 ?_
        have hc : ¬ ch (mem 24) (mem 23 0) f n a := by unfold ch; omega
        exact ⟨_, rfl, (tk_f hc).1, by rw [(tk_f hc).2]⟩
theorem c_X6_takeWord (g a : Int) (mem : Mem) (hT : txOK mem) (ha : 0 ≤ a ∧ a ≤ mem 23 0) (hg : 0 ≤ g ∧ g ≤ 100) : CtrI mX6_takeWord [aR 23, aI g] (um mem 23 1 a) (fun z m => (pW (mem 24) (mem 23 0) g a).1 = z ∧ um mem 23 1 (pW (mem 24) (mem 23 0) g a).2 = m) := by
  have h1 := hT.1
  have hz := tkz_R (T := mem 24) (L := mem 23 0) (f := 97) (n := g) (a := a) hg
  have hz2 := tkz_R (T := mem 24) (L := mem 23 0) (f := 97) (n := g) (a := a + 1) hg
  refine Ctr.ofV (ls := [aR 23, aI g, aU, aU, aU]) rfl (by decide) rfl (Nat.le_of_ble_eq_true rfl) ?_
  refine v_iconst (q := 1) dX6_takeWord_0 rfl ?_
  refine v_ist2 (q := 2) rfl dX6_takeWord_1 (by decide) rfl ?_
  refine v_iconst (q := 3) dX6_takeWord_2 rfl ?_
  refine v_ist3 (q := 4) rfl dX6_takeWord_3 (by decide) rfl ?_
  refine v_iload_n (j := 3) (q := 5) rfl dX6_takeWord_4 rfl ?_
  refine v_iconst (q := 6) dX6_takeWord_5 rfl ?_
  refine v_icmp_ge (tgt := 41) (q := 9) dX6_takeWord_6 (by decide) rfl (by omega) (by omega) (fun h6 => ?_) (fun h6 => ?_)
  · exact absurd h6 (by omega)
  · refine v_aload_n (j := 0) (q := 10) rfl dX6_takeWord_9 rfl ?_
    refine v_bipush (q := 12) (by decide) dX6_takeWord_10 rfl ?_
    refine v_iload_n (j := 1) (q := 13) rfl dX6_takeWord_12 rfl ?_
    refine v_cVI2 (q := 16) dX6_takeWord_13 mlX6_34 mdX6_takeOneOf (by decide) kd_23 rfl rfl ⟨Nat.le_refl 0, Nat.le_refl 0⟩ (by exact Nat.le_of_ble_eq_true rfl) rfl (c_X6_takeOneOf 97 g _ mem hT (by omega) (by omega) hg) ?_
    rintro _ _ ⟨rfl, rfl⟩
    refine v_ist4 (q := 18) rfl dX6_takeWord_16 (by decide) rfl ?_
    refine v_iload (j := 4) (q := 20) rfl dX6_takeWord_18 rfl ?_
    refine v_if_ge (tgt := 25) (q := 23) dX6_takeWord_20 (by decide) rfl (by omega) (fun h20 => ?_) (fun h20 => ?_)
    · have hc := tkz_nn h20
      have hcc := hc.1
      rw [(tk_t hc).2]
      refine v_iload_n (j := 2) (q := 26) rfl dX6_takeWord_25 rfl ?_
      refine v_bipush (q := 28) (by decide) dX6_takeWord_26 rfl ?_
      refine v_imul (q := 29) dX6_takeWord_28 rfl ?_
      refine v_iload (j := 4) (q := 31) rfl dX6_takeWord_29 rfl ?_
      refine v_iadd (q := 32) dX6_takeWord_31 rfl ?_
      refine v_iconst (q := 33) dX6_takeWord_32 rfl ?_
      refine v_iadd (q := 34) dX6_takeWord_33 rfl ?_
      refine v_ist2 (q := 35) rfl dX6_takeWord_34 (by decide) rfl ?_
      refine v_iinc3 (q := 38) rfl dX6_takeWord_35 (by decide) rfl ?_
      refine v_goto (q := 4) dX6_takeWord_38 (by decide) ?_
      refine v_iload_n (j := 3) (q := 5) rfl dX6_takeWord_4 rfl ?_
      refine v_iconst (q := 6) dX6_takeWord_5 rfl ?_
      refine v_icmp_ge (tgt := 41) (q := 9) dX6_takeWord_6 (by decide) rfl (by omega) (by omega) (fun h6 => ?_) (fun h6 => ?_)
      · exact absurd h6 (by omega)
      · refine v_aload_n (j := 0) (q := 10) rfl dX6_takeWord_9 rfl ?_
        refine v_bipush (q := 12) (by decide) dX6_takeWord_10 rfl ?_
        refine v_iload_n (j := 1) (q := 13) rfl dX6_takeWord_12 rfl ?_
        refine v_cVI2 (q := 16) dX6_takeWord_13 mlX6_34 mdX6_takeOneOf (by decide) kd_23 rfl rfl ⟨Nat.le_refl 0, Nat.le_refl 0⟩ (by exact Nat.le_of_ble_eq_true rfl) rfl (c_X6_takeOneOf 97 g _ mem hT (by omega) (by omega) hg) ?_
        rintro _ _ ⟨rfl, rfl⟩
        refine v_ist4 (q := 18) rfl dX6_takeWord_16 (by decide) rfl ?_
        refine v_iload (j := 4) (q := 20) rfl dX6_takeWord_18 rfl ?_
        refine v_if_ge (tgt := 25) (q := 23) dX6_takeWord_20 (by decide) rfl (by omega) (fun h20 => ?_) (fun h20 => ?_)
        · have hc := tkz_nn h20
          have hcc := hc.1
          rw [(tk_t hc).2]
          refine v_iload_n (j := 2) (q := 26) rfl dX6_takeWord_25 rfl ?_
          refine v_bipush (q := 28) (by decide) dX6_takeWord_26 rfl ?_
          refine v_imul (q := 29) dX6_takeWord_28 rfl ?_
          refine v_iload (j := 4) (q := 31) rfl dX6_takeWord_29 rfl ?_
          refine v_iadd (q := 32) dX6_takeWord_31 rfl ?_
          refine v_iconst (q := 33) dX6_takeWord_32 rfl ?_
          refine v_iadd (q := 34) dX6_takeWord_33 rfl ?_
          refine v_ist2 (q := 35) rfl dX6_takeWord_34 (by decide) rfl ?_
          refine v_iinc3 (q := 38) rfl dX6_takeWord_35 (by decide) rfl ?_
          refine v_goto (q := 4) dX6_takeWord_38 (by decide) ?_
          refine v_iload_n (j := 3) (q := 5) rfl dX6_takeWord_4 rfl ?_
          refine v_iconst (q := 6) dX6_takeWord_5 rfl ?_
          refine v_icmp_ge (tgt := 41) (q := 9) dX6_takeWord_6 (by decide) rfl (by omega) (by omega) (fun h6 => ?_) (fun h6 => ?_)
          · refine v_iload_n (j := 2) (q := 42) rfl dX6_takeWord_41 rfl ?_
            refine v_iret dX6_takeWord_42 ?_
            rcases pW_cases (mem 24) (mem 23 0) g a with ⟨k1, k2, e⟩ | ⟨k1, k2, e⟩ | ⟨k1, e⟩
            · first
                | exact absurd k1 hc9
                | exact absurd k2 hc9
                | exact ⟨_, rfl, by rw [e, (tk_t k1).1, (tk_t k2).1]; show _ = _; omega, by rw [e]; show um mem 23 1 (a + 2) = um mem 23 1 (a + 1 + 1); rw [Int.add_assoc]; rfl⟩
            · first
                | exact absurd k1 hc9
                | exact ⟨_, rfl, by rw [e, (tk_t k1).1]; show _ = _; omega, by rw [e, (tk_f k2).2]⟩
                | exact absurd hc k2
            · first
                | exact absurd (by assumption) k1
                | exact ⟨_, rfl, by rw [e], by rw [e, (tk_f k1).2]⟩
          · exact absurd h6 (by omega)
        · have hc9 := tkz_neg (Int.not_le.mp h20)
          refine v_iload_n (j := 2) (q := 24) rfl dX6_takeWord_23 rfl ?_
          refine v_iret dX6_takeWord_24 ?_
          rcases pW_cases (mem 24) (mem 23 0) g a with ⟨k1, k2, e⟩ | ⟨k1, k2, e⟩ | ⟨k1, e⟩
          · first
              | exact absurd k1 hc9
              | exact absurd k2 hc9
              | exact ⟨_, rfl, by rw [e, (tk_t k1).1, (tk_t k2).1]; show _ = _; omega, by rw [e]; show um mem 23 1 (a + 2) = um mem 23 1 (a + 1 + 1); rw [Int.add_assoc]; rfl⟩
          · first
              | exact absurd k1 hc9
              | exact ⟨_, rfl, by rw [e, (tk_t k1).1]; show _ = _; omega, by rw [e, (tk_f k2).2]⟩
              | exact absurd hc k2
          · first
              | exact absurd (by assumption) k1
              | exact ⟨_, rfl, by rw [e], by rw [e, (tk_f k1).2]⟩
    · have hc9 := tkz_neg (Int.not_le.mp h20)
      refine v_iload_n (j := 2) (q := 24) rfl dX6_takeWord_23 rfl ?_
      refine v_iret dX6_takeWord_24 ?_
      rcases pW_cases (mem 24) (mem 23 0) g a with ⟨k1, k2, e⟩ | ⟨k1, k2, e⟩ | ⟨k1, e⟩
      · first
          | exact absurd k1 hc9
          | exact absurd k2 hc9
          | exact ⟨_, rfl, by rw [e, (tk_t k1).1, (tk_t k2).1]; show _ = _; omega, by rw [e]; show um mem 23 1 (a + 2) = um mem 23 1 (a + 1 + 1); rw [Int.add_assoc]; rfl⟩
      · first
          | exact absurd k1 hc9
          | exact ⟨_, rfl, by rw [e, (tk_t k1).1]; show _ = _; omega, by rw [e, (tk_f k2).2]⟩
          | exact absurd hc k2
      · first
          | exact absurd (by assumption) k1
          | exact ⟨_, rfl, by rw [e], by rw [e, (tk_f k1).2]⟩
theorem c_X6_takeWeight (b : Int) (mem : Mem) (hT : txOK mem) (ha : 0 ≤ b ∧ b ≤ mem 23 0) : CtrI mX6_takeWeight [aR 23] (um mem 23 1 b) (fun z m => (ch (mem 24) (mem 23 0) 48 10 b ∧ (pN (mem 24) (mem 23 0) b).1 = z ∧ um mem 23 1 (pN (mem 24) (mem 23 0) b).2 = m) ∨ (¬ ch (mem 24) (mem 23 0) 48 10 b ∧ z = -1 ∧ um mem 23 1 b = m)) := by
  have h1 := hT.1
  have hz := tkz_R (T := mem 24) (L := mem 23 0) (f := 48) (n := 10) (a := b) (by omega)
  have hz2 := tkz_R (T := mem 24) (L := mem 23 0) (f := 48) (n := 10) (a := b + 1) (by omega)
  refine Ctr.ofV (ls := [aR 23, aU, aU]) rfl (by decide) rfl (Nat.le_of_ble_eq_true rfl) ?_
  refine v_aload_n (j := 0) (q := 1) rfl dX6_takeWeight_0 rfl ?_
  refine v_bipush (q := 3) (by decide) dX6_takeWeight_1 rfl ?_
  refine v_bipush (q := 5) (by decide) dX6_takeWeight_3 rfl ?_
  refine v_cVI2 (q := 8) dX6_takeWeight_5 mlX6_34 mdX6_takeOneOf (by decide) kd_23 rfl rfl ⟨Nat.le_refl 0, Nat.le_refl 0⟩ (by exact Nat.le_of_ble_eq_true rfl) rfl (c_X6_takeOneOf 48 10 b mem hT (by omega) (by omega) (by omega)) ?_
  rintro _ _ ⟨rfl, rfl⟩
  refine v_ist1 (q := 9) rfl dX6_takeWeight_8 (by decide) rfl ?_
  refine v_iload_n (j := 1) (q := 10) rfl dX6_takeWeight_9 rfl ?_
  refine v_if_ge (tgt := 15) (q := 13) dX6_takeWeight_10 (by decide) rfl (by omega) (fun h10 => ?_) (fun h10 => ?_)
  · have hc := tkz_nn h10
    have hcc := hc.1
    rw [(tk_t hc).2]
    refine v_aload_n (j := 0) (q := 16) rfl dX6_takeWeight_15 rfl ?_
    refine v_bipush (q := 18) (by decide) dX6_takeWeight_16 rfl ?_
    refine v_bipush (q := 20) (by decide) dX6_takeWeight_18 rfl ?_
    refine v_cVI2 (q := 23) dX6_takeWeight_20 mlX6_34 mdX6_takeOneOf (by decide) kd_23 rfl rfl ⟨Nat.le_refl 0, Nat.le_refl 0⟩ (by exact Nat.le_of_ble_eq_true rfl) rfl (c_X6_takeOneOf 48 10 (b + 1) mem hT (by omega) (by omega) (by omega)) ?_
    rintro _ _ ⟨rfl, rfl⟩
    refine v_ist2 (q := 24) rfl dX6_takeWeight_23 (by decide) rfl ?_
    refine v_iload_n (j := 2) (q := 25) rfl dX6_takeWeight_24 rfl ?_
    refine v_if_ge (tgt := 32) (q := 28) dX6_takeWeight_25 (by decide) rfl (by omega) (fun h25 => ?_) (fun h25 => ?_)
    · refine v_iload_n (j := 1) (q := 33) rfl dX6_takeWeight_32 rfl ?_
      refine v_bipush (q := 35) (by decide) dX6_takeWeight_33 rfl ?_
      refine v_imul (q := 36) dX6_takeWeight_35 rfl ?_
      refine v_iload_n (j := 2) (q := 37) rfl dX6_takeWeight_36 rfl ?_
      refine v_iadd (q := 38) dX6_takeWeight_37 rfl ?_
      refine v_iret dX6_takeWeight_38 ?_
      rcases pN_cases (mem 24) (mem 23 0) b with ⟨k1, e⟩ | ⟨k1, e⟩
      · first
          | exact absurd k1 (tkz_neg (Int.not_le.mp h25))
          | exact ⟨_, rfl, Or.inl ⟨hc, by rw [e, (tk_t hc).1, (tk_t k1).1], by rw [e, (tk_t k1).2]; show um mem 23 1 (b + 2) = um mem 23 1 (b + 1 + 1); rw [Int.add_assoc]; rfl⟩⟩
      · first
          | exact absurd (tkz_nn h25) k1
          | exact ⟨_, rfl, Or.inl ⟨hc, by rw [e, (tk_t hc).1], by rw [e, (tk_f k1).2]⟩⟩
    · refine v_iload_n (j := 1) (q := 29) rfl dX6_takeWeight_28 rfl ?_
      refine v_goto (q := 38) dX6_takeWeight_29 (by decide) ?_
      refine v_iret dX6_takeWeight_38 ?_
      rcases pN_cases (mem 24) (mem 23 0) b with ⟨k1, e⟩ | ⟨k1, e⟩
      · first
          | exact absurd k1 (tkz_neg (Int.not_le.mp h25))
          | exact ⟨_, rfl, Or.inl ⟨hc, by rw [e, (tk_t hc).1, (tk_t k1).1], by rw [e, (tk_t k1).2]; show um mem 23 1 (b + 2) = um mem 23 1 (b + 1 + 1); rw [Int.add_assoc]; rfl⟩⟩
      · first
          | exact absurd (tkz_nn h25) k1
          | exact ⟨_, rfl, Or.inl ⟨hc, by rw [e, (tk_t hc).1], by rw [e, (tk_f k1).2]⟩⟩
  · have hc9 := tkz_neg (Int.not_le.mp h10)
    refine v_iconst (q := 14) dX6_takeWeight_13 rfl ?_
    refine v_iret dX6_takeWeight_14 ?_
    exact ⟨_, rfl, Or.inr ⟨hc9, rfl, by rw [(tk_f hc9).2]⟩⟩
