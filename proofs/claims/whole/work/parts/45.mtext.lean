/-! ===== The reference reads the text ===== -/
def stM (mem : Mem) (a w : Int) : Mem := um (um mem 116 16 a) 116 17 w
theorem stM_ne (mem : Mem) (a w : Int) {q : Nat} (h : q ≠ 116) : stM mem a w q = mem q := by unfold stM; rw [um_ne _ _ _ h, um_ne _ _ _ h]
theorem stM_a (mem : Mem) (a w : Int) : stM mem a w 116 16 = a := by unfold stM; rw [um_same, ui_ne _ _ (by omega), um_same, ui_same]
theorem stM_w (mem : Mem) (a w : Int) : stM mem a w 116 17 = w := by unfold stM; rw [um_same, ui_same]
theorem stM_j (mem : Mem) (a w : Int) {j : Int} (h1 : j ≠ 16) (h2 : j ≠ 17) : stM mem a w 116 j = mem 116 j := by unfold stM; rw [um_same, ui_ne _ _ h2, um_same, ui_ne _ _ h1]
theorem stM_uw (mem : Mem) (a w v : Int) : um (stM mem a w) 116 17 v = stM mem a v := by unfold stM; rw [um_um]
theorem stM_ua (mem : Mem) (a w v : Int) : um (stM mem a w) 116 16 v = stM mem v w := by
  unfold stM
  funext q
  by_cases h : q = 116
  · subst h
    rw [um_same, um_same, um_same, um_same, um_same]
    funext j
    unfold ui
    by_cases h1 : j = 16
    · rw [if_pos h1, if_neg (by omega), if_pos h1]
    · rw [if_neg h1]
      by_cases h2 : j = 17
      · rw [if_pos h2, if_pos h2]
      · rw [if_neg h2, if_neg h2, if_neg h1, if_neg h1]
  · rw [um_ne _ _ _ h, um_ne _ _ _ h, um_ne _ _ _ h, um_ne _ _ _ h, um_ne _ _ _ h]
def txR (mem : Mem) : Prop := (0 ≤ mem 116 5 ∧ mem 116 5 ≤ 200) ∧ ∀ i, 0 ≤ i → i < mem 116 5 → 32 ≤ mem 119 i ∧ mem 119 i ≤ 126
def hrT (T : Int → Int) (L a : Int) : Int := if a < L then T a else 0
theorem c_X10_here (a w : Int) (mem : Mem) (hT : txR mem) (ha : 0 ≤ a ∧ a ≤ mem 116 5) : CtrI mX10_here [aR 116] (stM mem a w) (fun z m => stM mem a w = m ∧ hrT (mem 119) (mem 116 5) a = z) := by
  have h1 := hT.1
  have e0 := stM_a mem a w
  have e1 := stM_j mem a w (j := 5) (by omega) (by omega)
  have e2 := stM_ne mem a w (q := 119) (by decide)
  refine Ctr.ofV (ls := [aR 116]) rfl (by decide) rfl (Nat.le_of_ble_eq_true rfl) ?_
  refine v_aload_n (j := 0) (q := 1) rfl dX10_here_0 rfl ?_
  refine v_getI (j := 16) (q := 4) dX10_here_1 fl_X10_208 kd_116 rfl rfl rfl ?_
  refine v_aload_n (j := 0) (q := 5) rfl dX10_here_4 rfl ?_
  refine v_getI (j := 5) (q := 8) dX10_here_5 fl_X10_205 kd_116 rfl rfl rfl ?_
  rw [e0, e1]
  refine v_icmp_ge (tgt := 23) (q := 11) dX10_here_8 (by decide) rfl (by omega) (by omega) (fun h8 => ?_) (fun h8 => ?_)
  · refine v_iconst (q := 24) dX10_here_23 rfl ?_
    refine v_iret dX10_here_24 ?_
    refine ⟨_, rfl, rfl, ?_⟩
    unfold hrT
    first | rw [if_pos (by omega)] | rw [if_neg (by omega)]
  · refine v_aload_n (j := 0) (q := 12) rfl dX10_here_11 rfl ?_
    refine v_getR (p' := 119) (q := 15) dX10_here_12 fl_X10_16 kd_116 rfl (rfc_10_4 kd_116) rfl ?_
    refine v_aload_n (j := 0) (q := 16) rfl dX10_here_15 rfl ?_
    refine v_getI (j := 16) (q := 19) dX10_here_16 fl_X10_208 kd_116 rfl rfl rfl ?_
    rw [e0]
    refine v_iald (q := 20) dX10_here_19 kd_119 (by omega) (by omega) rfl ?_
    rw [e2]
    refine v_goto (q := 24) dX10_here_20 (by decide) ?_
    refine v_iret dX10_here_24 ?_
    refine ⟨_, rfl, rfl, ?_⟩
    unfold hrT
    first | rw [if_pos (by omega)] | rw [if_neg (by omega)]
theorem c_X10_fails (p a w : Int) (mem : Mem) (hw : R32 w) : CtrV mX10_fails [aR 116, aI p] (stM mem a w) (fun m => stM mem a (if w = -6 then p else w) = m) := by
  have e1 := stM_w mem a w
  refine Ctr.ofV (ls := [aR 116, aI p]) rfl (by decide) rfl (Nat.le_of_ble_eq_true rfl) ?_
  refine v_aload_n (j := 0) (q := 1) rfl dX10_fails_0 rfl ?_
  refine v_aload_n (j := 0) (q := 2) rfl dX10_fails_1 rfl ?_
  refine v_getI (j := 17) (q := 5) dX10_fails_2 fl_X10_211 kd_116 rfl rfl rfl ?_
  refine v_bipush (q := 7) (by decide) dX10_fails_5 rfl ?_
  rw [e1]
  refine v_icmp_ne (tgt := 14) (q := 10) dX10_fails_7 (by decide) rfl (by omega) (by omega) (fun h7 => ?_) (fun h7 => ?_)
  · refine v_aload_n (j := 0) (q := 15) rfl dX10_fails_14 rfl ?_
    refine v_getI (j := 17) (q := 18) dX10_fails_15 fl_X10_211 kd_116 rfl rfl rfl ?_
    try rw [e1]
    refine v_putI (j := 17) (q := 21) dX10_fails_18 fl_X10_211 kd_116 rfl rfl rfl ?_
    refine v_vret dX10_fails_21 ?_
    refine ⟨rfl, ?_⟩
    rw [stM_uw]
    first | rw [if_pos (by omega)] | rw [if_neg (by omega)]
  · refine v_iload_n (j := 1) (q := 11) rfl dX10_fails_10 rfl ?_
    refine v_goto (q := 18) dX10_fails_11 (by decide) ?_
    try rw [e1]
    refine v_putI (j := 17) (q := 21) dX10_fails_18 fl_X10_211 kd_116 rfl rfl rfl ?_
    refine v_vret dX10_fails_21 ?_
    refine ⟨rfl, ?_⟩
    rw [stM_uw]
    first | rw [if_pos (by omega)] | rw [if_neg (by omega)]
theorem ch_here {T : Int → Int} {L f h a : Int} (hf : 1 ≤ f) : (f ≤ hrT T L a ∧ hrT T L a ≤ h) ↔ ch T L f (h - f + 1) a := by
  unfold hrT ch
  split <;> omega
/-- take, while nothing is wrong, and once something is -/
theorem c_X10_take (f h n a : Int) (mem : Mem) (hT : txR mem) (ha : 0 ≤ a ∧ a ≤ mem 116 5) (hf : 1 ≤ f ∧ f ≤ 200) (hh : 0 ≤ h ∧ h ≤ 300) (hn : n = h - f + 1) : CtrI mX10_take [aR 116, aI f, aI h] (stM mem a (-6)) (fun z m => (ch (mem 119) (mem 116 5) f n a ∧ mem 119 a - f = z ∧ stM mem (a + 1) (-6) = m) ∨ (¬ ch (mem 119) (mem 116 5) f n a ∧ 0 = z ∧ stM mem a a = m)) := by
  have h1 := hT.1
  have e0 := stM_a mem a (-6)
  have e1 := stM_w mem a (-6)
  have hr : R32 (hrT (mem 119) (mem 116 5) a) := by
    unfold hrT
    have := hT.2 a
    split <;> omega
  have hc := ch_here (T := mem 119) (L := mem 116 5) (f := f) (h := h) (a := a) hf.1
  rw [← hn] at hc
  refine Ctr.ofV (ls := [aR 116, aI f, aI h]) rfl (by decide) rfl (Nat.le_of_ble_eq_true rfl) ?_
  refine v_aload_n (j := 0) (q := 1) rfl dX10_take_0 rfl ?_
  refine v_getI (j := 17) (q := 4) dX10_take_1 fl_X10_211 kd_116 rfl rfl rfl ?_
  refine v_bipush (q := 6) (by decide) dX10_take_4 rfl ?_
  rw [e1]
  refine v_icmp_eq (tgt := 11) (q := 9) dX10_take_6 (by decide) rfl (by omega) (by omega) (fun h6 => ?_) (fun h6 => ?_)
  · refine v_aload_n (j := 0) (q := 12) rfl dX10_take_11 rfl ?_
    refine v_cVI0 (q := 15) dX10_take_12 mlX10_214 mdX10_here (by decide) kd_116 rfl rfl ⟨Nat.le_refl 0, Nat.le_refl 0⟩ (by exact Nat.le_of_ble_eq_true rfl) rfl (c_X10_here a (-6) mem hT ha) ?_
    rintro _ _ ⟨rfl, rfl⟩
    refine v_iload_n (j := 1) (q := 16) rfl dX10_take_15 rfl ?_
    refine v_iload_n (j := 2) (q := 17) rfl dX10_take_16 rfl ?_
    refine v_cSI3 (q := 20) dX10_take_17 mlX10_44 mdX10_isIn (by decide) ⟨Nat.le_refl 0, Nat.le_refl 0⟩ (by exact Nat.le_of_ble_eq_true rfl) rfl (c_X10_isIn _ _ _ _ hr (by omega) (by omega)) ?_
    rintro _ _ ⟨rfl, rfl⟩
    refine v_if_neB (tgt := 33) (q := 23) dX10_take_20 (by decide) rfl (fun h20 => ?_) (fun h20 => ?_)
    · have hcc := (hc.mp h20).1
      refine v_aload_n (j := 0) (q := 34) rfl dX10_take_33 rfl ?_
      refine v_dup (q := 35) rfl dX10_take_34 rfl ?_
      refine v_getI (j := 16) (q := 38) dX10_take_35 fl_X10_208 kd_116 rfl rfl rfl ?_
      refine v_iconst (q := 39) dX10_take_38 rfl ?_
      refine v_iadd (q := 40) dX10_take_39 rfl ?_
      rw [e0]
      refine v_putI (j := 16) (q := 43) dX10_take_40 fl_X10_208 kd_116 rfl rfl rfl ?_
      rw [stM_ua]
      refine v_aload_n (j := 0) (q := 44) rfl dX10_take_43 rfl ?_
      refine v_getR (p' := 119) (q := 47) dX10_take_44 fl_X10_16 kd_116 rfl (rfc_10_4 kd_116) rfl ?_
      refine v_aload_n (j := 0) (q := 48) rfl dX10_take_47 rfl ?_
      refine v_getI (j := 16) (q := 51) dX10_take_48 fl_X10_208 kd_116 rfl rfl rfl ?_
      refine v_iconst (q := 52) dX10_take_51 rfl ?_
      refine v_isub (q := 53) dX10_take_52 rfl ?_
      rw [stM_a, show a + 1 - 1 = a by omega]
      refine v_iald (q := 54) dX10_take_53 kd_119 (by omega) (by omega) rfl ?_
      rw [stM_ne _ _ _ (show 119 ≠ 116 by decide)]
      refine v_iload_n (j := 1) (q := 55) rfl dX10_take_54 rfl ?_
      refine v_isub (q := 56) dX10_take_55 rfl ?_
      refine v_iret dX10_take_56 ?_
      exact ⟨_, rfl, Or.inl ⟨hc.mp h20, rfl, rfl⟩⟩
    · refine v_aload_n (j := 0) (q := 24) rfl dX10_take_23 rfl ?_
      refine v_aload_n (j := 0) (q := 25) rfl dX10_take_24 rfl ?_
      refine v_getI (j := 16) (q := 28) dX10_take_25 fl_X10_208 kd_116 rfl rfl rfl ?_
      rw [e0]
      refine v_cVV1 (q := 31) dX10_take_28 mlX10_218 mdX10_fails (by decide) kd_116 rfl rfl ⟨Nat.le_refl 0, Nat.le_refl 0⟩ (by exact Nat.le_of_ble_eq_true rfl) rfl (c_X10_fails a a (-6) mem (by omega)) ?_
      rintro _ rfl
      rw [if_pos rfl]
      refine v_iconst (q := 32) dX10_take_31 rfl ?_
      refine v_iret dX10_take_32 ?_
      exact ⟨_, rfl, Or.inr ⟨fun hx => h20 (hc.mpr hx), rfl, rfl⟩⟩
  · exact absurd h6 (by omega)
theorem c_X10_takeD (f h a w : Int) (mem : Mem) (hw : R32 w) (hw6 : w ≠ -6) : CtrI mX10_take [aR 116, aI f, aI h] (stM mem a w) (fun z m => stM mem a w = m ∧ 0 = z) := by
  have e1 := stM_w mem a w
  refine Ctr.ofV (ls := [aR 116, aI f, aI h]) rfl (by decide) rfl (Nat.le_of_ble_eq_true rfl) ?_
  refine v_aload_n (j := 0) (q := 1) rfl dX10_take_0 rfl ?_
  refine v_getI (j := 17) (q := 4) dX10_take_1 fl_X10_211 kd_116 rfl rfl rfl ?_
  refine v_bipush (q := 6) (by decide) dX10_take_4 rfl ?_
  rw [e1]
  refine v_icmp_eq (tgt := 11) (q := 9) dX10_take_6 (by decide) rfl (by omega) (by omega) (fun h6 => ?_) (fun h6 => ?_)
  · exact absurd h6 (by exact hw6)
  · refine v_iconst (q := 10) dX10_take_9 rfl ?_
    refine v_iret dX10_take_10 ?_
    exact ⟨_, rfl, rfl, rfl⟩
