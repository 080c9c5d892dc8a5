/-! ===== The reference: undo, told, rule, write, wipe ===== -/
theorem l_X10_undo (mem : Mem) (A : AS) (hc : 0 ≤ mem 116 2 ∧ mem 116 2 ≤ 7) {E : EQ} (K : ∀ k' m, (∀ q, q ≠ 117 → m q = mem q) → (∀ i, m 117 i = if 0 ≤ i ∧ i < 105 then mem 118 (105 * mem 116 2 + i) else mem 117 i) → V cX10_undo RX10 2 (some .int) (rmk 0 0) E 59 [aR 116, aI k'] [] m) : ∀ (j : Nat) (k : Int) (M : Mem), k + j = 105 → 0 ≤ k → (∀ q, q ≠ 117 → M q = mem q) → (∀ i, M 117 i = if 0 ≤ i ∧ i < k then mem 118 (105 * mem 116 2 + i) else mem 117 i) →
    V cX10_undo RX10 2 (some .int) (rmk 0 0) E 27 [aR 116, aI k] [] M := by
  intro j
  induction j with
  | zero =>
    intro k M h1 h2 h3 h4
    refine v_iload_n (j := 1) (q := 28) rfl dX10_undo_27 rfl ?_
    refine v_bipush (q := 30) (by decide) dX10_undo_28 rfl ?_
    refine v_icmp_ge (tgt := 59) (q := 33) dX10_undo_30 (by decide) rfl (by omega) (by omega) (fun h30 => ?_) (fun h30 => ?_)
    · exact K _ _ h3 (fun i => by rw [h4, show k = 105 by omega])
    · exact absurd h30 (by omega)
  | succ j ih =>
    intro k M h1 h2 h3 h4
    have e6 := h3 116 (by decide)
    have e8 := h3 118 (by decide)
    refine v_iload_n (j := 1) (q := 28) rfl dX10_undo_27 rfl ?_
    refine v_bipush (q := 30) (by decide) dX10_undo_28 rfl ?_
    refine v_icmp_ge (tgt := 59) (q := 33) dX10_undo_30 (by decide) rfl (by omega) (by omega) (fun h30 => ?_) (fun h30 => ?_)
    · exact absurd h30 (by omega)
    · refine v_aload_n (j := 0) (q := 34) rfl dX10_undo_33 rfl ?_
      refine v_getR (p' := 117) (q := 37) dX10_undo_34 fl_X10_7 kd_116 rfl (rfc_10_0 kd_116) rfl ?_
      refine v_iload_n (j := 1) (q := 38) rfl dX10_undo_37 rfl ?_
      refine v_aload_n (j := 0) (q := 39) rfl dX10_undo_38 rfl ?_
      refine v_getR (p' := 118) (q := 42) dX10_undo_39 fl_X10_13 kd_116 rfl (rfc_10_1 kd_116) rfl ?_
      refine v_bipush (q := 44) (by decide) dX10_undo_42 rfl ?_
      refine v_aload_n (j := 0) (q := 45) rfl dX10_undo_44 rfl ?_
      refine v_getI (j := 2) (q := 48) dX10_undo_45 fl_X10_60 kd_116 rfl rfl rfl ?_
      rw [e6]
      refine v_imul (q := 49) dX10_undo_48 rfl ?_
      refine v_iload_n (j := 1) (q := 50) rfl dX10_undo_49 rfl ?_
      refine v_iadd (q := 51) dX10_undo_50 rfl ?_
      refine v_iald (q := 52) dX10_undo_51 kd_118 (by omega) (by omega) rfl ?_
      rw [e8]
      refine v_iast (q := 53) dX10_undo_52 kd_117 (by omega) (by omega) rfl ?_
      refine v_iinc1 (q := 56) rfl dX10_undo_53 (by decide) rfl ?_
      refine v_goto (q := 27) dX10_undo_56 (by decide) ?_
      refine ih (k + 1) _ (by omega) (by omega) (fun q hq => by rw [um_ne _ _ _ hq]; exact h3 q hq) (fun i => ?_)
      rw [um_same]
      unfold ui
      by_cases e : i = k
      · rw [if_pos e, if_pos (by omega), e]
      · rw [if_neg e, h4]
        by_cases e2 : 0 ≤ i ∧ i < k
        · rw [if_pos e2, if_pos (by omega)]
        · rw [if_neg e2, if_neg (by omega)]
theorem c_X10_undo (mem : Mem) (A : AS) (h : RI mem A) : CtrI mX10_undo [aR 116] mem (RQ mem A (sUndo A)) := by
  have e1 := h.2.1.1
  have e2 := h.2.1.2.1
  refine Ctr.ofV (ls := [aR 116, aU]) rfl (by decide) rfl (Nat.le_of_ble_eq_true rfl) ?_
  refine v_aload_n (j := 0) (q := 1) rfl dX10_undo_0 rfl ?_
  refine v_getI (j := 2) (q := 4) dX10_undo_1 fl_X10_60 kd_116 rfl rfl rfl ?_
  refine v_if_ne (tgt := 10) (q := 7) dX10_undo_4 (by decide) rfl (by omega) (fun h4 => ?_) (fun h4 => ?_)
  · refine v_aload_n (j := 0) (q := 11) rfl dX10_undo_10 rfl ?_
    refine v_dup (q := 12) rfl dX10_undo_11 rfl ?_
    refine v_getI (j := 2) (q := 15) dX10_undo_12 fl_X10_60 kd_116 rfl rfl rfl ?_
    refine v_iconst (q := 16) dX10_undo_15 rfl ?_
    refine v_isub (q := 17) dX10_undo_16 rfl ?_
    refine v_putI (j := 2) (q := 20) dX10_undo_17 fl_X10_60 kd_116 rfl rfl rfl ?_
    refine v_aload_n (j := 0) (q := 21) rfl dX10_undo_20 rfl ?_
    refine v_iconst (q := 22) dX10_undo_21 rfl ?_
    refine v_putZ (j := 3) (q := 25) (by first | exact Or.inl rfl | exact Or.inr rfl | exact bI_01 _ | omega) dX10_undo_22 fl_X10_56 kd_116 rfl rfl rfl ?_
    refine v_iconst (q := 26) dX10_undo_25 rfl ?_
    refine v_ist1 (q := 27) rfl dX10_undo_26 (by decide) rfl ?_
    obtain ⟨N, hN⟩ : ∃ N, N = um (um mem 116 2 (mem 116 2 - 1)) 116 3 0 := ⟨_, rfl⟩
    rw [← hN]
    have n6 : N 116 = ui (ui (mem 116) 2 (mem 116 2 - 1)) 3 0 := by rw [hN, um_same, um_same]
    have n2 : N 116 2 = mem 116 2 - 1 := by rw [n6, ui_ne _ _ (by omega), ui_same]
    have no : ∀ q, q ≠ 116 → N q = mem q := fun q hq => by rw [hN, um_ne _ _ _ hq, um_ne _ _ _ hq]
    refine l_X10_undo N A (by rw [n2]; omega) (fun k' m q1 q2 => ?_) 105 0 N (by omega) (by omega) (fun _ _ => rfl) (fun i => by rw [if_neg (by omega)])
    have m6 := q1 116 (by decide)
    refine v_aload_n (j := 0) (q := 60) rfl dX10_undo_59 rfl ?_
    refine v_getI (j := 2) (q := 63) dX10_undo_60 fl_X10_60 kd_116 rfl rfl rfl ?_
    refine v_iret dX10_undo_63 ⟨_, rfl, ?_⟩
    unfold sUndo
    rw [dif_neg (by omega), m6, n2]
    refine ⟨by show (A.2.1.length : Int) - 1 = _; omega, ⟨?_, ⟨?_, ?_, fun i hi => ?_⟩, ?_⟩, fun q hq => by rw [q1 q (by omega), no q (by omega)], Or.inl (by rw [m6, n6, ui_same])⟩
    · have := h.2.1.2.2 (A.2.1.length - 1) (by omega)
      refine this.congr (fun i i0 i1 => ?_)
      rw [Int.zero_add, q2, if_pos ⟨i0, i1⟩, n2, no 118 (by decide), show 105 * (mem 116 2 - 1) + i = 105 * ((A.2.1.length - 1 : Nat) : Int) + i by omega]
    · rw [m6, n2]; simp; omega
    · simp; omega
    · rw [List.getElem_take, q1 118 (by decide), no 118 (by decide)]
      exact h.2.1.2.2 i (by simp at hi; omega)
    · have h3 := h.2.2
      unfold TX at h3 ⊢
      rw [m6, n6, ui_ne _ _ (by omega), ui_ne _ _ (by omega), q1 119 (by decide), no 119 (by decide)]
      exact h3
  · refine v_bipush (q := 9) (by decide) dX10_undo_7 rfl ?_
    refine v_iret dX10_undo_9 ?_
    refine ⟨_, rfl, ?_⟩
    unfold sUndo
    rw [dif_pos (by omega)]
    exact RQ_same h
theorem l_X10_rulesBy (z : Int) (mem : Mem) (hz : R32 z) (h2 : mem 117 2 ≤ 20) (hr : ∀ i, 5 ≤ i → i < 105 → R32 (mem 117 i)) : ∀ (j k : Nat), (k : Int) + j = mem 117 2 →
    V cX10_rulesBy RX10 4 (some .int) (rmk 1 22) (mE (fun r m => ∃ y, r = aI y ∧ mem = m ∧ cntR (rls (mem 117) 5 (mem 117 2).toNat) z = y)) 4 [aR 116, aI z, aI (cntR (rls (mem 117) 5 k) z), aI k] [] mem := by
  intro j
  induction j with
  | zero =>
    intro k h3
    refine v_iload_n (j := 3) (q := 5) rfl dX10_rulesBy_4 rfl ?_
    refine v_aload_n (j := 0) (q := 6) rfl dX10_rulesBy_5 rfl ?_
    refine v_getR (p' := 117) (q := 9) dX10_rulesBy_6 fl_X10_7 kd_116 rfl (rfc_10_0 kd_116) rfl ?_
    refine v_iconst (q := 10) dX10_rulesBy_9 rfl ?_
    refine v_iald (q := 11) dX10_rulesBy_10 kd_117 (by omega) (by omega) rfl ?_
    refine v_icmp_ge (tgt := 41) (q := 14) dX10_rulesBy_11 (by decide) rfl (by omega) (by omega) (fun h11 => ?_) (fun h11 => ?_)
    · refine v_iload_n (j := 2) (q := 42) rfl dX10_rulesBy_41 rfl ?_
      refine v_iret dX10_rulesBy_42 ?_
      exact ⟨_, rfl, rfl, by rw [show (mem 117 2).toNat = k by omega]⟩
    · exact absurd h11 (by omega)
  | succ j ih =>
    intro k h3
    have r3 := hr (5 + 5 * (k : Int) + 3) (by omega) (by omega)
    have hn1 := nd_nn (mem 117 (5 + 5 * (k : Int) + 3))
    have hn2 := nd_10 (z := mem 117 (5 + 5 * (k : Int) + 3)) (by omega)
    have hk := ih (k + 1) (by omega)
    have e1 : ((k + 1 : Nat) : Int) = (k : Int) + 1 := by omega
    have e2 : cntR (rls (mem 117) 5 (k + 1)) z = cntR (rls (mem 117) 5 k) z + (if nd (mem 117 (5 + 5 * (k : Int) + 3)) = z then 1 else 0) := by
      unfold cntR
      rw [rls_succ, List.countP_append, List.countP_singleton]
      show (((List.countP _ _) + (if decide (nd (mem 117 (5 + 5 * (k : Int) + 3)) = z) = true then 1 else 0) : Nat) : Int) = _
      by_cases h : nd (mem 117 (5 + 5 * (k : Int) + 3)) = z
      · rw [if_pos h, if_pos (by simpa using h)]; omega
      · rw [if_neg h, if_neg (by simpa using h)]; omega
    rw [e1, e2] at hk
    refine v_iload_n (j := 3) (q := 5) rfl dX10_rulesBy_4 rfl ?_
    refine v_aload_n (j := 0) (q := 6) rfl dX10_rulesBy_5 rfl ?_
    refine v_getR (p' := 117) (q := 9) dX10_rulesBy_6 fl_X10_7 kd_116 rfl (rfc_10_0 kd_116) rfl ?_
    refine v_iconst (q := 10) dX10_rulesBy_9 rfl ?_
    refine v_iald (q := 11) dX10_rulesBy_10 kd_117 (by omega) (by omega) rfl ?_
    refine v_icmp_ge (tgt := 41) (q := 14) dX10_rulesBy_11 (by decide) rfl (by omega) (by omega) (fun h11 => ?_) (fun h11 => ?_)
    · exact absurd h11 (by omega)
    · refine v_iload_n (j := 2) (q := 15) rfl dX10_rulesBy_14 rfl ?_
      refine v_aload_n (j := 0) (q := 16) rfl dX10_rulesBy_15 rfl ?_
      refine v_iload_n (j := 3) (q := 17) rfl dX10_rulesBy_16 rfl ?_
      refine v_iconst (q := 18) dX10_rulesBy_17 rfl ?_
      refine v_cVI2 (q := 21) dX10_rulesBy_18 mlX10_67 mdX10_of (by decide) kd_116 rfl rfl ⟨Nat.le_refl 0, Nat.le_refl 0⟩ (by exact Nat.le_of_ble_eq_true rfl) rfl (c_X10_of k 3 mem (by omega) (by omega)) ?_
      rintro _ _ ⟨rfl, rfl⟩
      refine v_cSI1 (q := 24) dX10_rulesBy_21 mlX10_48 mdX10_sizeOf (by decide) ⟨Nat.le_refl 0, Nat.le_refl 0⟩ (by exact Nat.le_of_ble_eq_true rfl) rfl (c_X10_sizeOf _ mem (by omega)) ?_
      rintro _ _ ⟨rfl, rfl⟩
      refine v_iload_n (j := 1) (q := 25) rfl dX10_rulesBy_24 rfl ?_
      refine v_icmp_ne (tgt := 32) (q := 28) dX10_rulesBy_25 (by decide) rfl (by omega) (by omega) (fun h25 => ?_) (fun h25 => ?_)
      · rw [if_neg h25] at hk
        refine v_iconst (q := 33) dX10_rulesBy_32 rfl ?_
        refine v_iadd (q := 34) dX10_rulesBy_33 rfl ?_
        refine v_ist2 (q := 35) rfl dX10_rulesBy_34 (by decide) rfl ?_
        refine v_iinc3 (q := 38) rfl dX10_rulesBy_35 (by decide) rfl ?_
        refine v_goto (q := 4) dX10_rulesBy_38 (by decide) ?_
        exact hk
      · rw [if_pos h25] at hk
        refine v_iconst (q := 29) dX10_rulesBy_28 rfl ?_
        refine v_goto (q := 33) dX10_rulesBy_29 (by decide) ?_
        refine v_iadd (q := 34) dX10_rulesBy_33 rfl ?_
        refine v_ist2 (q := 35) rfl dX10_rulesBy_34 (by decide) rfl ?_
        refine v_iinc3 (q := 38) rfl dX10_rulesBy_35 (by decide) rfl ?_
        refine v_goto (q := 4) dX10_rulesBy_38 (by decide) ?_
        exact hk
theorem c_X10_rulesBy (z : Int) (mem : Mem) (hz : R32 z) (h1 : 0 ≤ mem 117 2) (h2 : mem 117 2 ≤ 20) (hr : ∀ i, 5 ≤ i → i < 105 → R32 (mem 117 i)) : CtrI mX10_rulesBy [aR 116, aI z] mem (fun y m => mem = m ∧ cntR (rls (mem 117) 5 (mem 117 2).toNat) z = y) := by
  refine Ctr.ofV (ls := [aR 116, aI z, aU, aU]) rfl (by decide) rfl (Nat.le_of_ble_eq_true rfl) ?_
  refine v_iconst (q := 1) dX10_rulesBy_0 rfl ?_
  refine v_ist2 (q := 2) rfl dX10_rulesBy_1 (by decide) rfl ?_
  refine v_iconst (q := 3) dX10_rulesBy_2 rfl ?_
  refine v_ist3 (q := 4) rfl dX10_rulesBy_3 (by decide) rfl ?_
  exact l_X10_rulesBy z mem hz h2 hr (mem 117 2).toNat 0 (by omega)
theorem c_X10_told (w : Int) (mem : Mem) (A : AS) (h : RI mem A) (hw : R32 w) : CtrI mX10_told [aR 116, aI w] mem (RQ mem A (sTold A w, A)) := by
  obtain ⟨f0, f1, f2, f3, f4, f5, a1, a2, a3, a4, a5, hc⟩ := h.1.facts
  have hr : ∀ i, 5 ≤ i → i < 105 → R32 (mem 117 i) := fun i i0 i1 => by have := h.1.2.2.2 i i0 i1; rw [Int.zero_add] at this; exact this
  have key : ∀ z, sTold A w = z → ∃ z', aI z = aI z' ∧ RQ mem A (sTold A w, A) z' mem := fun z hz => ⟨z, rfl, by rw [hz]; exact RQ_same h⟩
  refine Ctr.ofV (ls := [aR 116, aI w]) rfl (by decide) rfl (Nat.le_of_ble_eq_true rfl) ?_
  refine v_iload_n (j := 1) (q := 1) rfl dX10_told_0 rfl ?_
  refine v_iconst (q := 2) dX10_told_1 rfl ?_
  refine v_bipush (q := 4) (by decide) dX10_told_2 rfl ?_
  refine v_cSI3 (q := 7) dX10_told_4 mlX10_44 mdX10_isIn (by decide) ⟨Nat.le_refl 0, Nat.le_refl 0⟩ (by exact Nat.le_of_ble_eq_true rfl) rfl (c_X10_isIn _ _ _ mem hw (by omega) (by omega)) ?_
  rintro _ _ ⟨rfl, rfl⟩
  refine v_if_neB (tgt := 13) (q := 10) dX10_told_7 (by decide) rfl (fun h7 => ?_) (fun h7 => ?_)
  · refine v_iload_n (j := 1) (q := 14) rfl dX10_told_13 rfl ?_
    refine v_iconst (q := 15) dX10_told_14 rfl ?_
    refine v_icmp_ge (tgt := 27) (q := 18) dX10_told_15 (by decide) rfl (by omega) (by omega) (fun h15 => ?_) (fun h15 => ?_)
    · refine v_aload_n (j := 0) (q := 28) rfl dX10_told_27 rfl ?_
      refine v_iload_n (j := 1) (q := 29) rfl dX10_told_28 rfl ?_
      refine v_iconst (q := 30) dX10_told_29 rfl ?_
      refine v_isub (q := 31) dX10_told_30 rfl ?_
      refine v_cVI1 (q := 34) dX10_told_31 mlX10_88 mdX10_rulesBy (by decide) kd_116 rfl rfl ⟨Nat.le_refl 0, Nat.le_refl 0⟩ (by exact Nat.le_of_ble_eq_true rfl) rfl (c_X10_rulesBy (w - 5) mem (by omega) (by omega) (by omega) hr) ?_
      rintro _ _ ⟨rfl, rfl⟩
      refine v_iret dX10_told_34 ?_
      refine key _ ?_
      unfold sTold
      first
        | (rw [if_neg (by omega), if_neg (by omega), if_neg (by omega), if_neg (by omega), if_neg (by omega), if_pos (by omega), a5]; done)
        | (rcases (show w = 0 ∨ w = 1 ∨ w = 2 ∨ w = 3 ∨ w = 4 by omega) with rfl | rfl | rfl | rfl | rfl
           · rw [if_pos rfl, a1]
           · rw [if_neg (by omega), if_pos rfl, a2]
           · rw [if_neg (by omega), if_neg (by omega), if_pos rfl, hc]
           · rw [if_neg (by omega), if_neg (by omega), if_neg (by omega), if_pos rfl, a3]
           · rw [if_neg (by omega), if_neg (by omega), if_neg (by omega), if_neg (by omega), if_pos rfl, a4])
    · refine v_aload_n (j := 0) (q := 19) rfl dX10_told_18 rfl ?_
      refine v_getR (p' := 117) (q := 22) dX10_told_19 fl_X10_7 kd_116 rfl (rfc_10_0 kd_116) rfl ?_
      refine v_iload_n (j := 1) (q := 23) rfl dX10_told_22 rfl ?_
      refine v_iald (q := 24) dX10_told_23 kd_117 (by omega) (by omega) rfl ?_
      refine v_goto (q := 34) dX10_told_24 (by decide) ?_
      refine v_iret dX10_told_34 ?_
      refine key _ ?_
      unfold sTold
      first
        | (rw [if_neg (by omega), if_neg (by omega), if_neg (by omega), if_neg (by omega), if_neg (by omega), if_pos (by omega), a5]; done)
        | (rcases (show w = 0 ∨ w = 1 ∨ w = 2 ∨ w = 3 ∨ w = 4 by omega) with rfl | rfl | rfl | rfl | rfl
           · rw [if_pos rfl, a1]
           · rw [if_neg (by omega), if_pos rfl, a2]
           · rw [if_neg (by omega), if_neg (by omega), if_pos rfl, hc]
           · rw [if_neg (by omega), if_neg (by omega), if_neg (by omega), if_pos rfl, a3]
           · rw [if_neg (by omega), if_neg (by omega), if_neg (by omega), if_neg (by omega), if_pos rfl, a4])
  · refine v_bipush (q := 12) (by decide) dX10_told_10 rfl ?_
    refine v_iret dX10_told_12 ?_
    refine key _ ?_
    unfold sTold
    rw [if_neg (by omega), if_neg (by omega), if_neg (by omega), if_neg (by omega), if_neg (by omega), if_neg (by omega)]
theorem c_X10_rule (k w : Int) (mem : Mem) (A : AS) (h : RI mem A) (hk : R32 k) (hw : R32 w) : CtrI mX10_rule [aR 116, aI k, aI w] mem (RQ mem A (sRule A k w, A)) := by
  obtain ⟨f0, f1, f2, f3, f4, f5, a1, a2, a3, a4, a5, hc⟩ := h.1.facts
  have key : ∀ z, sRule A k w = z → ∃ z', aI z = aI z' ∧ RQ mem A (sRule A k w, A) z' mem := fun z hz => ⟨z, rfl, by rw [hz]; exact RQ_same h⟩
  refine Ctr.ofV (ls := [aR 116, aI k, aI w]) rfl (by decide) rfl (Nat.le_of_ble_eq_true rfl) ?_
  refine v_aload_n (j := 0) (q := 1) rfl dX10_rule_0 rfl ?_
  refine v_iload_n (j := 1) (q := 2) rfl dX10_rule_1 rfl ?_
  refine v_cVI1 (q := 5) dX10_rule_2 mlX10_85 mdX10_isRule (by decide) kd_116 rfl rfl ⟨Nat.le_refl 0, Nat.le_refl 0⟩ (by exact Nat.le_of_ble_eq_true rfl) rfl (c_X10_isRule k mem hk (by omega)) ?_
  rintro _ _ ⟨rfl, rfl⟩
  refine v_if_neB (tgt := 10) (q := 8) dX10_rule_5 (by decide) rfl (fun h5 => ?_) (fun h5 => ?_)
  · refine v_iload_n (j := 2) (q := 11) rfl dX10_rule_10 rfl ?_
    refine v_iconst (q := 12) dX10_rule_11 rfl ?_
    refine v_iconst (q := 13) dX10_rule_12 rfl ?_
    refine v_cSI3 (q := 16) dX10_rule_13 mlX10_44 mdX10_isIn (by decide) ⟨Nat.le_refl 0, Nat.le_refl 0⟩ (by exact Nat.le_of_ble_eq_true rfl) rfl (c_X10_isIn _ _ _ mem hw (by omega) (by omega)) ?_
    rintro _ _ ⟨rfl, rfl⟩
    refine v_if_eqB (tgt := 28) (q := 19) dX10_rule_16 (by decide) rfl (fun h16 => ?_) (fun h16 => ?_)
    · refine v_bipush (q := 30) (by decide) dX10_rule_28 rfl ?_
      refine v_iret dX10_rule_30 ?_
      refine key _ ?_
      unfold sRule
      first | (rw [hc, if_pos h5, if_pos h16, a5, rls_getD _ _ (by omega), cmpR_rl5 _ _ _ (by omega) (by omega), show 5 + 5 * (k.toNat : Int) + w = 5 + 5 * k + w by omega]; done) | rw [hc, if_pos h5, if_neg h16]
    · refine v_aload_n (j := 0) (q := 20) rfl dX10_rule_19 rfl ?_
      refine v_iload_n (j := 1) (q := 21) rfl dX10_rule_20 rfl ?_
      refine v_iload_n (j := 2) (q := 22) rfl dX10_rule_21 rfl ?_
      refine v_cVI2 (q := 25) dX10_rule_22 mlX10_67 mdX10_of (by decide) kd_116 rfl rfl ⟨Nat.le_refl 0, Nat.le_refl 0⟩ (by exact Nat.le_of_ble_eq_true rfl) rfl (c_X10_of k w mem (by omega) (by omega)) ?_
      rintro _ _ ⟨rfl, rfl⟩
      refine v_goto (q := 30) dX10_rule_25 (by decide) ?_
      refine v_iret dX10_rule_30 ?_
      refine key _ ?_
      unfold sRule
      first | (rw [hc, if_pos h5, if_pos h16, a5, rls_getD _ _ (by omega), cmpR_rl5 _ _ _ (by omega) (by omega), show 5 + 5 * (k.toNat : Int) + w = 5 + 5 * k + w by omega]; done) | rw [hc, if_pos h5, if_neg h16]
  · refine v_iconst (q := 9) dX10_rule_8 rfl ?_
    refine v_iret dX10_rule_9 ?_
    refine key _ ?_
    unfold sRule
    rw [hc, if_neg h5]
theorem c_X10_write (c : Int) (mem : Mem) (A : AS) (h : RI mem A) (hc : R32 c) : CtrI mX10_write [aR 116, aI c] mem (RQ mem A (sWrite A c)) := by
  have t1 := h.2.2.1
  have t2 := h.2.2.2.1
  have e5 : um mem 119 (mem 116 5) c 116 = mem 116 := um_ne _ _ _ (by decide)
  refine Ctr.ofV (ls := [aR 116, aI c]) rfl (by decide) rfl (Nat.le_of_ble_eq_true rfl) ?_
  refine v_iload_n (j := 1) (q := 1) rfl dX10_write_0 rfl ?_
  refine v_bipush (q := 3) (by decide) dX10_write_1 rfl ?_
  refine v_bipush (q := 5) (by decide) dX10_write_3 rfl ?_
  refine v_cSI3 (q := 8) dX10_write_5 mlX10_44 mdX10_isIn (by decide) ⟨Nat.le_refl 0, Nat.le_refl 0⟩ (by exact Nat.le_of_ble_eq_true rfl) rfl (c_X10_isIn _ _ _ mem hc (by omega) (by omega)) ?_
  rintro _ _ ⟨rfl, rfl⟩
  refine v_if_neB (tgt := 14) (q := 11) dX10_write_8 (by decide) rfl (fun h8 => ?_) (fun h8 => ?_)
  · refine v_aload_n (j := 0) (q := 15) rfl dX10_write_14 rfl ?_
    refine v_getI (j := 5) (q := 18) dX10_write_15 fl_X10_205 kd_116 rfl rfl rfl ?_
    refine v_sipush (q := 21) (by decide) dX10_write_18 rfl ?_
    refine v_icmp_ne (tgt := 27) (q := 24) dX10_write_21 (by decide) rfl (by omega) (by omega) (fun h21 => ?_) (fun h21 => ?_)
    · refine v_aload_n (j := 0) (q := 28) rfl dX10_write_27 rfl ?_
      refine v_getR (p' := 119) (q := 31) dX10_write_28 fl_X10_16 kd_116 rfl (rfc_10_4 kd_116) rfl ?_
      refine v_aload_n (j := 0) (q := 32) rfl dX10_write_31 rfl ?_
      refine v_getI (j := 5) (q := 35) dX10_write_32 fl_X10_205 kd_116 rfl rfl rfl ?_
      refine v_iload_n (j := 1) (q := 36) rfl dX10_write_35 rfl ?_
      refine v_iast (q := 37) dX10_write_36 kd_119 (by omega) (by omega) rfl ?_
      refine v_aload_n (j := 0) (q := 38) rfl dX10_write_37 rfl ?_
      refine v_dup (q := 39) rfl dX10_write_38 rfl ?_
      refine v_getI (j := 5) (q := 42) dX10_write_39 fl_X10_205 kd_116 rfl rfl rfl ?_
      refine v_iconst (q := 43) dX10_write_42 rfl ?_
      refine v_iadd (q := 44) dX10_write_43 rfl ?_
      refine v_putI (j := 5) (q := 47) dX10_write_44 fl_X10_205 kd_116 rfl rfl rfl ?_
      refine v_aload_n (j := 0) (q := 48) rfl dX10_write_47 rfl ?_
      refine v_getI (j := 5) (q := 51) dX10_write_48 fl_X10_205 kd_116 rfl rfl rfl ?_
      refine v_iret dX10_write_51 ?_
      refine ⟨_, rfl, ?_⟩
      unfold sWrite
      rw [if_pos h8, if_pos (by omega), e5, um_same, ui_same]
      obtain ⟨m9, hm9⟩ : ∃ m9, um (um mem 119 (mem 116 5) c) 116 5 (mem 116 5 + 1) = m9 := ⟨_, rfl⟩
      rw [hm9]
      have o : ∀ q, q ≠ 116 → q ≠ 119 → m9 q = mem q := fun q a b => by rw [← hm9, um_ne _ _ _ a, um_ne _ _ _ b]
      have o6 : m9 116 = ui (mem 116) 5 (mem 116 5 + 1) := by rw [← hm9, um_same, e5]
      have o9 : m9 119 = ui (mem 119) (mem 116 5) c := by rw [← hm9, um_ne _ _ _ (by decide), um_same]
      refine ⟨by show (A.2.2.length : Int) + 1 = _; omega, ⟨by rw [o 117 (by decide) (by decide)]; exact h.1, by rw [o 118 (by decide) (by decide), o6, ui_ne _ _ (by omega)]; exact h.2.1, ?_, ?_, fun i hi => ?_, fun d hd => ?_⟩, fun q hq => o q (by omega) (by omega), Or.inr ⟨rfl, by rw [o6, ui_ne _ _ (by omega)], o 123 (by decide) (by decide)⟩⟩
      · rw [o6, ui_same]
        simp
        omega
      · simp; omega
      · rw [o9]
        unfold ui
        simp at hi
        by_cases hi2 : i < A.2.2.length
        · rw [if_neg (by omega), h.2.2.2.2.1 i hi2, List.getD_eq_getElem?_getD, List.getD_eq_getElem?_getD, List.getElem?_append_left hi2]
        · rw [if_pos (by omega), List.getD_eq_getElem?_getD, show i = A.2.2.length by omega]
          simp
      · rcases List.mem_append.mp hd with hd | hd
        · exact h.2.2.2.2.2 d hd
        · rw [List.mem_singleton.mp hd]; omega
    · refine v_bipush (q := 26) (by decide) dX10_write_24 rfl ?_
      refine v_iret dX10_write_26 ?_
      refine ⟨_, rfl, ?_⟩
      unfold sWrite
      rw [if_pos h8, if_neg (by omega)]
      exact RQ_same h
  · refine v_bipush (q := 13) (by decide) dX10_write_11 rfl ?_
    refine v_iret dX10_write_13 ?_
    refine ⟨_, rfl, ?_⟩
    unfold sWrite
    rw [if_neg h8]
    exact RQ_same h
theorem c_X10_wipe (mem : Mem) (A : AS) (h : RI mem A) : CtrI mX10_wipe [aR 116] mem (RQ mem A ((A.2.2.length : Int), (A.1, A.2.1, []))) := by
  have t1 := h.2.2.1
  refine Ctr.ofV (ls := [aR 116, aU]) rfl (by decide) rfl (Nat.le_of_ble_eq_true rfl) ?_
  refine v_aload_n (j := 0) (q := 1) rfl dX10_wipe_0 rfl ?_
  refine v_getI (j := 5) (q := 4) dX10_wipe_1 fl_X10_205 kd_116 rfl rfl rfl ?_
  refine v_ist1 (q := 5) rfl dX10_wipe_4 (by decide) rfl ?_
  refine v_aload_n (j := 0) (q := 6) rfl dX10_wipe_5 rfl ?_
  refine v_iconst (q := 7) dX10_wipe_6 rfl ?_
  refine v_putI (j := 5) (q := 10) dX10_wipe_7 fl_X10_205 kd_116 rfl rfl rfl ?_
  refine v_iload_n (j := 1) (q := 11) rfl dX10_wipe_10 rfl ?_
  refine v_iret dX10_wipe_11 ?_
  refine ⟨_, rfl, t1.symm, ⟨by rw [um_ne _ _ _ (by decide)]; exact h.1, by rw [um_ne _ _ _ (by decide), um_same, ui_ne _ _ (by omega)]; exact h.2.1, ?_, by simp, fun i hi => by simp at hi, fun d hd => by cases hd⟩, fun q hq => um_ne _ _ _ (by omega), Or.inr ⟨rfl, by rw [um_same, ui_ne _ _ (by omega)], um_ne _ _ _ (by decide)⟩⟩
  rw [um_same, ui_same]
  rfl
