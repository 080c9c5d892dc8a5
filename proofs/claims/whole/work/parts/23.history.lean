/-! ===== History; what a change does ===== -/
def isPU (b : Nat) : Prop := b ∈ [7, 9, 11, 13, 15, 17, 19, 21]
theorem pu_su {b : Nat} (h : isPU b) : isSU b := by
  have : ∀ b ∈ [7, 9, 11, 13, 15, 17, 19, 21], b ∈ [1, 3, 7, 9, 11, 13, 15, 17, 19, 21] := by decide
  exact this b h
theorem pu_ne {b : Nat} (h : isPU b) : 7 ≤ b := by
  have : ∀ b ∈ [7, 9, 11, 13, 15, 17, 19, 21], 7 ≤ b := by decide
  exact this b h
/-- the row of the past: eight Setups, all different -/
def HP (f : Int → Int) : Prop := (∀ i, 0 ≤ i → i < 8 → 0 ≤ f i ∧ isPU (f i).toNat) ∧ ∀ i j, 0 ≤ i → i < 8 → 0 ≤ j → j < 8 → f i = f j → i = j
def rotF (f : Int → Int) : Int → Int := fun i => if 0 ≤ i ∧ i < 7 then f (i + 1) else if i = 7 then f 0 else f i
theorem HP_rot {f : Int → Int} (h : HP f) : HP (rotF f) := by
  have key : ∀ i, 0 ≤ i → i < 8 → ∃ k, 0 ≤ k ∧ k < 8 ∧ rotF f i = f k ∧ (k = i + 1 ∧ i < 7 ∨ k = 0 ∧ i = 7) := by
    intro i h0 h1
    by_cases h2 : i < 7
    · exact ⟨i + 1, by omega, by omega, if_pos ⟨h0, h2⟩, Or.inl ⟨rfl, h2⟩⟩
    · refine ⟨0, by omega, by omega, ?_, Or.inr ⟨rfl, by omega⟩⟩
      unfold rotF
      rw [if_neg (by omega), if_pos (by omega)]
  refine ⟨fun i h0 h1 => ?_, fun i j h0 h1 h2 h3 he => ?_⟩
  · obtain ⟨k, k0, k1, e, -⟩ := key i h0 h1
    rw [e]
    exact h.1 k k0 k1
  · obtain ⟨k, k0, k1, e, c1⟩ := key i h0 h1
    obtain ⟨l, l0, l1, e2, c2⟩ := key j h2 h3
    rw [e, e2] at he
    have := h.2 k l k0 k1 l0 l1 he
    omega
theorem su_1 : isSU 1 := by unfold isSU; decide
theorem su_3 : isSU 3 := by unfold isSU; decide
def drM (mem : Mem) : Mem := fun q => if q = 6 then rotF (mem 6) else mem q
theorem drM_ne (mem : Mem) {q : Nat} (h : q ≠ 6) : drM mem q = mem q := if_neg h
theorem drM_6 (mem : Mem) : drM mem 6 = rotF (mem 6) := if_pos rfl
theorem l_X0_dropOldest (w : Nat) (mem : Mem) (h : HP (mem 6)) (hw : isPU w) (hw0 : (w : Int) = mem 6 0) : ∀ (j : Nat) (k : Int) (M : Mem), k + j = 8 → 1 ≤ k → (∀ q, q ≠ 6 → M q = mem q) → (∀ i, 0 ≤ i → i < k - 1 → M 6 i = mem 6 (i + 1)) → (∀ i, i < 0 ∨ k - 1 ≤ i → M 6 i = mem 6 i) →
    V cX0_dropOldest RX0 3 none (rmk 0 0) (mE (fun r m => r = aU ∧ drM mem = m)) 9 [aR 5, aR w, aI k] [] M := by
  intro j
  induction j with
  | zero =>
    intro k M h1 h2 h3 h4 h5
    refine v_iload_n (j := 2) (q := 10) rfl dX0_dropOldest_9 rfl ?_
    refine v_bipush (q := 12) (by decide) dX0_dropOldest_10 rfl ?_
    refine v_icmp_ge (tgt := 35) (q := 15) dX0_dropOldest_12 (by decide) rfl (by omega) (by omega) (fun h12 => ?_) (fun h12 => ?_)
    · refine v_aload_n (j := 0) (q := 36) rfl dX0_dropOldest_35 rfl ?_
      refine v_getR (p' := 6) (q := 39) dX0_dropOldest_36 fl_X0_17 kd_5 rfl (rfc_0_1 kd_5) rfl ?_
      refine v_bipush (q := 41) (by decide) dX0_dropOldest_39 rfl ?_
      refine v_aload_n (j := 1) (q := 42) rfl dX0_dropOldest_41 rfl ?_
      refine v_aastS (q := 43) dX0_dropOldest_42 kd_6 (su1 (pu_su hw)) (by omega) (by omega) rfl ?_
      refine v_vret dX0_dropOldest_43 ?_
      refine ⟨rfl, ?_⟩
      funext q
      by_cases hq : q = 6
      · subst hq
        rw [drM_6, um_same]
        funext i
        unfold rotF ui
        by_cases e1 : 0 ≤ i ∧ i < 7
        · rw [if_pos e1, if_neg (by omega), h4 i e1.1 (by omega)]
        · rw [if_neg e1]
          by_cases e2 : i = 7
          · rw [if_pos e2, if_pos e2, hw0]
          · rw [if_neg e2, if_neg e2, h5 i (by omega)]
      · rw [drM_ne _ hq, um_ne _ _ _ hq, h3 q hq]
    · exact absurd h12 (by omega)
  | succ j ih =>
    intro k M h1 h2 h3 h4 h5
    have e1 : M 6 k = mem 6 k := h5 k (by omega)
    have e2 := h.1 k (by omega) (by omega)
    refine v_iload_n (j := 2) (q := 10) rfl dX0_dropOldest_9 rfl ?_
    refine v_bipush (q := 12) (by decide) dX0_dropOldest_10 rfl ?_
    refine v_icmp_ge (tgt := 35) (q := 15) dX0_dropOldest_12 (by decide) rfl (by omega) (by omega) (fun h12 => ?_) (fun h12 => ?_)
    · exact absurd h12 (by omega)
    · refine v_aload_n (j := 0) (q := 16) rfl dX0_dropOldest_15 rfl ?_
      refine v_getR (p' := 6) (q := 19) dX0_dropOldest_16 fl_X0_17 kd_5 rfl (rfc_0_1 kd_5) rfl ?_
      refine v_iload_n (j := 2) (q := 20) rfl dX0_dropOldest_19 rfl ?_
      refine v_iconst (q := 21) dX0_dropOldest_20 rfl ?_
      refine v_isub (q := 22) dX0_dropOldest_21 rfl ?_
      refine v_aload_n (j := 0) (q := 23) rfl dX0_dropOldest_22 rfl ?_
      refine v_getR (p' := 6) (q := 26) dX0_dropOldest_23 fl_X0_17 kd_5 rfl (rfc_0_1 kd_5) rfl ?_
      refine v_iload_n (j := 2) (q := 27) rfl dX0_dropOldest_26 rfl ?_
      refine v_aaldS (q := 28) dX0_dropOldest_27 kd_6 (by omega) (by omega) rfl ?_
      obtain ⟨v, hve⟩ : ∃ v, v = (M 6 k).toNat := ⟨_, rfl⟩
      rw [← hve]
      have hv : isPU v := by rw [hve, e1]; exact e2.2
      have hv0 : (v : Int) = mem 6 k := by rw [hve, e1]; omega
      refine v_aastS (q := 29) dX0_dropOldest_28 kd_6 (su1 (pu_su hv)) (by omega) (by omega) rfl ?_
      refine v_iinc2 (q := 32) rfl dX0_dropOldest_29 (by decide) rfl ?_
      refine v_goto (q := 9) dX0_dropOldest_32 (by decide) ?_
      refine ih (k + 1) _ (by omega) (by omega) (fun q hq => by rw [um_ne _ _ _ hq]; exact h3 q hq) (fun i i0 i1 => ?_) (fun i i0 => ?_)
      · rw [um_same]
        unfold ui
        by_cases e : i = k - 1
        · rw [if_pos e, hv0, e, show k - 1 + 1 = k by omega]
        · rw [if_neg e, h4 i i0 (by omega)]
      · rw [um_same]
        unfold ui
        rw [if_neg (by omega), h5 i (by omega)]
theorem c_X0_dropOldest (mem : Mem) (h : HP (mem 6)) : CtrV mX0_dropOldest [aR 5] mem (fun m => drM mem = m) := by
  have e2 := h.1 0 (by omega) (by omega)
  refine Ctr.ofV (ls := [aR 5, aU, aU]) rfl (by decide) rfl (Nat.le_of_ble_eq_true rfl) ?_
  refine v_aload_n (j := 0) (q := 1) rfl dX0_dropOldest_0 rfl ?_
  refine v_getR (p' := 6) (q := 4) dX0_dropOldest_1 fl_X0_17 kd_5 rfl (rfc_0_1 kd_5) rfl ?_
  refine v_iconst (q := 5) dX0_dropOldest_4 rfl ?_
  refine v_aaldS (q := 6) dX0_dropOldest_5 kd_6 (by omega) (by omega) rfl ?_
  obtain ⟨w, hwe⟩ : ∃ w, w = (mem 6 0).toNat := ⟨_, rfl⟩
  rw [← hwe]
  rw [← hwe] at e2
  refine v_ast1 (q := 7) rfl dX0_dropOldest_6 (by decide) rfl ?_
  refine v_iconst (q := 8) dX0_dropOldest_7 rfl ?_
  refine v_ist2 (q := 9) rfl dX0_dropOldest_8 (by decide) rfl ?_
  exact l_X0_dropOldest w mem h e2.2 (by omega) 7 1 mem (by omega) (by omega) (fun _ _ => rfl) (fun i i0 i1 => by omega) (fun _ _ => rfl)
/-- what record leaves: the system at 1 is the newest of the past -/
def recM (mem : Mem) : Mem := if mem 5 0 < 8 then cpS (um mem 5 0 (mem 5 0 + 1)) (mem 6 (mem 5 0)).toNat 1 else cpS (drM mem) (mem 6 0).toNat 1
theorem c_X0_record (mem : Mem) (h : HP (mem 6)) (h0 : 0 ≤ mem 5 0) (h1 : mem 5 0 ≤ 8) : CtrV mX0_record [aR 5, aR 1] mem (fun m => recM mem = m) := by
  refine Ctr.ofV (ls := [aR 5, aR 1]) rfl (by decide) rfl (Nat.le_of_ble_eq_true rfl) ?_
  refine v_aload_n (j := 0) (q := 1) rfl dX0_record_0 rfl ?_
  refine v_getI (j := 0) (q := 4) dX0_record_1 fl_X0_9 kd_5 rfl rfl rfl ?_
  refine v_bipush (q := 6) (by decide) dX0_record_4 rfl ?_
  refine v_icmp_ge (tgt := 22) (q := 9) dX0_record_6 (by decide) rfl (by omega) (by omega) (fun h6 => ?_) (fun h6 => ?_)
  · have g : mem 5 0 = 8 := by omega
    refine v_aload_n (j := 0) (q := 23) rfl dX0_record_22 rfl ?_
    refine v_cVV0 (q := 26) dX0_record_23 mlX0_22 mdX0_dropOldest (by decide) kd_5 rfl rfl ⟨Nat.le_refl 0, Nat.le_refl 0⟩ (by exact Nat.le_of_ble_eq_true rfl) rfl (c_X0_dropOldest mem h) ?_
    rintro _ rfl
    refine v_aload_n (j := 0) (q := 27) rfl dX0_record_26 rfl ?_
    refine v_getR (p' := 6) (q := 30) dX0_record_27 fl_X0_17 kd_5 rfl (rfc_0_1 kd_5) rfl ?_
    refine v_aload_n (j := 0) (q := 31) rfl dX0_record_30 rfl ?_
    refine v_getI (j := 0) (q := 34) dX0_record_31 fl_X0_9 kd_5 rfl rfl rfl ?_
    refine v_iconst (q := 35) dX0_record_34 rfl ?_
    refine v_isub (q := 36) dX0_record_35 rfl ?_
    refine v_aaldS (q := 37) dX0_record_36 kd_6 (by first | (rw [um_same, ui_same]; omega) | (rw [drM_ne _ (show 5 ≠ 6 by decide)]; omega)) (by first | (rw [um_same, ui_same]; omega) | (rw [drM_ne _ (show 5 ≠ 6 by decide)]; omega)) rfl ?_
    have hw0 : ∃ w : Nat, isPU w ∧ ((mem 5 0 < 8 ∧ w = (mem 6 (mem 5 0)).toNat) ∨ (mem 5 0 = 8 ∧ w = (mem 6 0).toNat)) := by
      by_cases g2 : mem 5 0 < 8
      · exact ⟨_, (h.1 (mem 5 0) h0 g2).2, Or.inl ⟨g2, rfl⟩⟩
      · exact ⟨_, (h.1 0 (by omega) (by omega)).2, Or.inr ⟨by omega, rfl⟩⟩
    obtain ⟨w, hw, hw1⟩ := hw0
    have hn := pu_ne hw
    first | rw [um_same, ui_same, um_ne _ _ _ (show 6 ≠ 5 by decide), show mem 5 0 + 1 - 1 = mem 5 0 by omega, show (mem 6 (mem 5 0)).toNat = w by omega] | rw [show (drM mem 6 (drM mem 5 0 - 1)).toNat = w by
      rw [drM_6, drM_ne _ (show 5 ≠ 6 by decide)]
      unfold rotF
      rw [if_neg (by omega), if_pos (by omega)]
      omega]
    refine v_aload_n (j := 1) (q := 38) rfl dX0_record_37 rfl ?_
    refine v_cVV1 (q := 41) dX0_record_38 mlX0_25 mdX4_copyFrom (by decide) (su1 (pu_su hw)) rfl rfl ⟨Nat.le_refl 0, Nat.le_refl 0⟩ (by exact Nat.le_of_ble_eq_true rfl) rfl (c_X4_copyFrom w 1 _ (pu_su hw) su_1 (by omega)) ?_
    rintro _ rfl
    refine v_vret dX0_record_41 ?_
    refine ⟨rfl, ?_⟩
    unfold recM
    first
      | (rw [if_pos g, show (mem 6 (mem 5 0)).toNat = w by omega]; done)
      | (rw [if_neg (by omega), show (mem 6 0).toNat = w by omega]; done)
  · have g : mem 5 0 < 8 := by omega
    refine v_aload_n (j := 0) (q := 10) rfl dX0_record_9 rfl ?_
    refine v_dup (q := 11) rfl dX0_record_10 rfl ?_
    refine v_getI (j := 0) (q := 14) dX0_record_11 fl_X0_9 kd_5 rfl rfl rfl ?_
    refine v_iconst (q := 15) dX0_record_14 rfl ?_
    refine v_iadd (q := 16) dX0_record_15 rfl ?_
    refine v_putI (j := 0) (q := 19) dX0_record_16 fl_X0_9 kd_5 rfl rfl rfl ?_
    refine v_goto (q := 26) dX0_record_19 (by decide) ?_
    refine v_aload_n (j := 0) (q := 27) rfl dX0_record_26 rfl ?_
    refine v_getR (p' := 6) (q := 30) dX0_record_27 fl_X0_17 kd_5 rfl (rfc_0_1 kd_5) rfl ?_
    refine v_aload_n (j := 0) (q := 31) rfl dX0_record_30 rfl ?_
    refine v_getI (j := 0) (q := 34) dX0_record_31 fl_X0_9 kd_5 rfl rfl rfl ?_
    refine v_iconst (q := 35) dX0_record_34 rfl ?_
    refine v_isub (q := 36) dX0_record_35 rfl ?_
    refine v_aaldS (q := 37) dX0_record_36 kd_6 (by first | (rw [um_same, ui_same]; omega) | (rw [drM_ne _ (show 5 ≠ 6 by decide)]; omega)) (by first | (rw [um_same, ui_same]; omega) | (rw [drM_ne _ (show 5 ≠ 6 by decide)]; omega)) rfl ?_
    have hw0 : ∃ w : Nat, isPU w ∧ ((mem 5 0 < 8 ∧ w = (mem 6 (mem 5 0)).toNat) ∨ (mem 5 0 = 8 ∧ w = (mem 6 0).toNat)) := by
      by_cases g2 : mem 5 0 < 8
      · exact ⟨_, (h.1 (mem 5 0) h0 g2).2, Or.inl ⟨g2, rfl⟩⟩
      · exact ⟨_, (h.1 0 (by omega) (by omega)).2, Or.inr ⟨by omega, rfl⟩⟩
    obtain ⟨w, hw, hw1⟩ := hw0
    have hn := pu_ne hw
    first | rw [um_same, ui_same, um_ne _ _ _ (show 6 ≠ 5 by decide), show mem 5 0 + 1 - 1 = mem 5 0 by omega, show (mem 6 (mem 5 0)).toNat = w by omega] | rw [show (drM mem 6 (drM mem 5 0 - 1)).toNat = w by
      rw [drM_6, drM_ne _ (show 5 ≠ 6 by decide)]
      unfold rotF
      rw [if_neg (by omega), if_pos (by omega)]
      omega]
    refine v_aload_n (j := 1) (q := 38) rfl dX0_record_37 rfl ?_
    refine v_cVV1 (q := 41) dX0_record_38 mlX0_25 mdX4_copyFrom (by decide) (su1 (pu_su hw)) rfl rfl ⟨Nat.le_refl 0, Nat.le_refl 0⟩ (by exact Nat.le_of_ble_eq_true rfl) rfl (c_X4_copyFrom w 1 _ (pu_su hw) su_1 (by omega)) ?_
    rintro _ rfl
    refine v_vret dX0_record_41 ?_
    refine ⟨rfl, ?_⟩
    unfold recM
    first
      | (rw [if_pos g, show (mem 6 (mem 5 0)).toNat = w by omega]; done)
      | (rw [if_neg (by omega), show (mem 6 0).toNat = w by omega]; done)
def resM (mem : Mem) : Mem := cpS (um mem 5 0 (mem 5 0 - 1)) 1 (mem 6 (mem 5 0 - 1)).toNat
theorem c_X0_restore (mem : Mem) (h : HP (mem 6)) (h0 : 0 < mem 5 0) (h1 : mem 5 0 ≤ 8) : CtrV mX0_restore [aR 5, aR 1] mem (fun m => resM mem = m) := by
  have hw := (h.1 (mem 5 0 - 1) (by omega) (by omega)).2
  have hn := pu_ne hw
  refine Ctr.ofV (ls := [aR 5, aR 1]) rfl (by decide) rfl (Nat.le_of_ble_eq_true rfl) ?_
  refine v_aload_n (j := 0) (q := 1) rfl dX0_restore_0 rfl ?_
  refine v_getI (j := 0) (q := 4) dX0_restore_1 fl_X0_9 kd_5 rfl rfl rfl ?_
  refine v_if_le (tgt := 30) (q := 7) dX0_restore_4 (by decide) rfl (by omega) (fun h4 => ?_) (fun h4 => ?_)
  · exact absurd h4 (by omega)
  · refine v_aload_n (j := 0) (q := 8) rfl dX0_restore_7 rfl ?_
    refine v_dup (q := 9) rfl dX0_restore_8 rfl ?_
    refine v_getI (j := 0) (q := 12) dX0_restore_9 fl_X0_9 kd_5 rfl rfl rfl ?_
    refine v_iconst (q := 13) dX0_restore_12 rfl ?_
    refine v_isub (q := 14) dX0_restore_13 rfl ?_
    refine v_putI (j := 0) (q := 17) dX0_restore_14 fl_X0_9 kd_5 rfl rfl rfl ?_
    refine v_aload_n (j := 1) (q := 18) rfl dX0_restore_17 rfl ?_
    refine v_aload_n (j := 0) (q := 19) rfl dX0_restore_18 rfl ?_
    refine v_getR (p' := 6) (q := 22) dX0_restore_19 fl_X0_17 kd_5 rfl (rfc_0_1 kd_5) rfl ?_
    refine v_aload_n (j := 0) (q := 23) rfl dX0_restore_22 rfl ?_
    refine v_getI (j := 0) (q := 26) dX0_restore_23 fl_X0_9 kd_5 rfl rfl rfl ?_
    refine v_aaldS (q := 27) dX0_restore_26 kd_6 (by rw [um_same, ui_same]; omega) (by rw [um_same, ui_same]; omega) rfl ?_
    rw [um_same, ui_same, um_ne _ _ _ (show 6 ≠ 5 by decide)]
    obtain ⟨w, hwe⟩ : ∃ w, w = (mem 6 (mem 5 0 - 1)).toNat := ⟨_, rfl⟩
    rw [← hwe]
    rw [← hwe] at hw hn
    refine v_cVV1 (q := 30) dX0_restore_27 mlX0_25 mdX4_copyFrom (by decide) kd_1 rfl rfl ⟨Nat.le_refl 0, Nat.le_refl 0⟩ (by exact Nat.le_of_ble_eq_true rfl) rfl (c_X4_copyFrom 1 w _ su_1 (pu_su hw) (by omega)) ?_
    rintro _ rfl
    refine v_vret dX0_restore_30 ?_
    exact ⟨rfl, by unfold resM; rw [← hwe]⟩
theorem c_X3_forgetAim (b : Nat) (mem : Mem) (hb : kd b = (5, 3)) : CtrV mX3_forgetAim [aR b] mem (fun m => um mem b 2 0 = m) := by
  refine Ctr.ofV (ls := [aR b]) rfl (by decide) rfl (Nat.le_of_ble_eq_true rfl) ?_
  refine v_aload_n (j := 0) (q := 1) rfl dX3_forgetAim_0 rfl ?_
  refine v_iconst (q := 2) dX3_forgetAim_1 rfl ?_
  refine v_putZ (j := 2) (q := 5) (by first | exact Or.inl rfl | exact Or.inr rfl | exact bI_01 _ | omega) dX3_forgetAim_2 fl_X3_21 hb rfl rfl rfl ?_
  refine v_vret dX3_forgetAim_5 ?_
  exact ⟨rfl, rfl⟩
def fgM (mem : Mem) : Mem := um (um (um mem 0 14 0) 42 2 0) 83 0 0
theorem c_X9_forgetAnswers (mem : Mem) : CtrV mX9_forgetAnswers [aR 0] mem (fun m => fgM mem = m) := by
  refine Ctr.ofV (ls := [aR 0]) rfl (by decide) rfl (Nat.le_of_ble_eq_true rfl) ?_
  refine v_aload_n (j := 0) (q := 1) rfl dX9_forgetAnswers_0 rfl ?_
  refine v_iconst (q := 2) dX9_forgetAnswers_1 rfl ?_
  refine v_putZ (j := 14) (q := 5) (by first | exact Or.inl rfl | exact Or.inr rfl | exact bI_01 _ | omega) dX9_forgetAnswers_2 fl_X9_258 kd_0 rfl rfl rfl ?_
  refine v_aload_n (j := 0) (q := 6) rfl dX9_forgetAnswers_5 rfl ?_
  refine v_getR (p' := 42) (q := 9) dX9_forgetAnswers_6 fl_X9_67 kd_0 rfl (rfc_9_9 kd_0) rfl ?_
  refine v_cVV0 (q := 12) dX9_forgetAnswers_9 mlX9_262 mdX3_forgetAim (by decide) kd_42 rfl rfl ⟨Nat.le_refl 0, Nat.le_refl 0⟩ (by exact Nat.le_of_ble_eq_true rfl) rfl (c_X3_forgetAim 42 _ kd_42) ?_
  rintro _ rfl
  refine v_aload_n (j := 0) (q := 13) rfl dX9_forgetAnswers_12 rfl ?_
  refine v_getR (p' := 83) (q := 16) dX9_forgetAnswers_13 fl_X9_89 kd_0 rfl (rfc_9_13 kd_0) rfl ?_
  refine v_iconst (q := 17) dX9_forgetAnswers_16 rfl ?_
  refine v_putZ (j := 0) (q := 20) (by first | exact Or.inl rfl | exact Or.inr rfl | exact bI_01 _ | omega) dX9_forgetAnswers_17 fl_X9_265 kd_83 rfl rfl rfl ?_
  refine v_vret dX9_forgetAnswers_20 ?_
  exact ⟨rfl, rfl⟩
theorem c_X9_recordChange (mem : Mem) (h : HP (mem 6)) (h0 : 0 ≤ mem 5 0) (h1 : mem 5 0 ≤ 8) : CtrV mX9_recordChange [aR 0] mem (fun m => fgM (recM mem) = m) := by
  refine Ctr.ofV (ls := [aR 0]) rfl (by decide) rfl (Nat.le_of_ble_eq_true rfl) ?_
  refine v_aload_n (j := 0) (q := 1) rfl dX9_recordChange_0 rfl ?_
  refine v_getR (p' := 5) (q := 4) dX9_recordChange_1 fl_X9_22 kd_0 rfl (rfc_9_2 kd_0) rfl ?_
  refine v_aload_n (j := 0) (q := 5) rfl dX9_recordChange_4 rfl ?_
  refine v_getR (p' := 1) (q := 8) dX9_recordChange_5 fl_X9_12 kd_0 rfl (rfc_9_0 kd_0) rfl ?_
  refine v_cVV1 (q := 11) dX9_recordChange_8 mlX9_255 mdX0_record (by decide) kd_5 rfl rfl ⟨Nat.le_refl 0, Nat.le_refl 0⟩ (by exact Nat.le_of_ble_eq_true rfl) rfl (c_X0_record mem h h0 h1) ?_
  rintro _ rfl
  refine v_aload_n (j := 0) (q := 12) rfl dX9_recordChange_11 rfl ?_
  refine v_cVV0 (q := 15) dX9_recordChange_12 mlX9_157 mdX9_forgetAnswers (by decide) kd_0 rfl rfl ⟨Nat.le_refl 0, Nat.le_refl 0⟩ (by exact Nat.le_of_ble_eq_true rfl) rfl (c_X9_forgetAnswers _) ?_
  rintro _ rfl
  refine v_vret dX9_recordChange_15 ?_
  exact ⟨rfl, rfl⟩
