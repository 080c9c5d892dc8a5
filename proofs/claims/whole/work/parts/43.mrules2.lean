/-! ===== The reference: promises 4 to 9, 25, 26 ===== -/
theorem rls5_erase {f g : Int → Int} {n k : Nat} (hk : k < n) (h1 : ∀ j : Int, 5 ≤ j → j < 5 + 5 * (k : Int) → g j = f j) (h2 : ∀ j : Int, 5 + 5 * (k : Int) ≤ j → j < 5 + 5 * ((n : Int) - 1) → g j = f (j + 5)) : rls g 5 (n - 1) = (rls f 5 n).eraseIdx k := by
  have e1 : rls (fun j => g (5 + j)) 0 (n - 1) = rls g 5 (n - 1) := rls_ext (fun i _ _ => by show g (5 + (0 + i)) = g (5 + i); rw [Int.zero_add])
  have e2 : rls (fun j => f (5 + j)) 0 n = rls f 5 n := rls_ext (fun i _ _ => by show f (5 + (0 + i)) = f (5 + i); rw [Int.zero_add])
  rw [← e1, ← e2]
  have h3 : ∀ i : Nat, i < n - 1 → (rls (fun j => g (5 + j)) 0 (n - 1))[i]? = ((rls (fun j => f (5 + j)) 0 n).eraseIdx k)[i]? := fun i hi => by
    rw [rls_at _ _ hi]
    by_cases hik : i < k
    · rw [List.getElem?_eraseIdx_of_lt hik, rls_at _ _ (by omega)]
      unfold rl5
      dsimp only
      rw [h1 _ (by omega) (by omega), h1 _ (by omega) (by omega), h1 _ (by omega) (by omega), h1 _ (by omega) (by omega), h1 _ (by omega) (by omega)]
    · rw [List.getElem?_eraseIdx_of_ge (by omega), rls_at _ _ (by omega)]
      unfold rl5
      dsimp only
      rw [h2 _ (by omega) (by omega), h2 _ (by omega) (by omega), h2 _ (by omega) (by omega), h2 _ (by omega) (by omega), h2 _ (by omega) (by omega)]
      have e9 : ∀ a b : Int, a = b → f a = f b := fun a b h => by rw [h]
      rw [e9 (5 + (0 + 5 * (i : Int)) + 5) (5 + (0 + 5 * ((i + 1 : Nat) : Int))) (by omega), e9 (5 + (0 + 5 * (i : Int) + 1) + 5) (5 + (0 + 5 * ((i + 1 : Nat) : Int) + 1)) (by omega), e9 (5 + (0 + 5 * (i : Int) + 2) + 5) (5 + (0 + 5 * ((i + 1 : Nat) : Int) + 2)) (by omega), e9 (5 + (0 + 5 * (i : Int) + 3) + 5) (5 + (0 + 5 * ((i + 1 : Nat) : Int) + 3)) (by omega), e9 (5 + (0 + 5 * (i : Int) + 4) + 5) (5 + (0 + 5 * ((i + 1 : Nat) : Int) + 4)) (by omega)]
  apply List.ext_getElem?
  intro i
  by_cases hi : i < n - 1
  · exact h3 i hi
  · rw [List.getElem?_eq_none (by rw [rls_len]; omega), List.getElem?_eq_none (by rw [List.length_eraseIdx, rls_len]; split <;> omega)]
theorem l_X10_removeRule {E : EQ} (r : Int) (mem : Mem) (hr : 0 ≤ r) (hc : r ≤ mem 117 2 ∧ mem 117 2 ≤ 19) (K : ∀ k' m, (∀ q, q ≠ 117 → m q = mem q) → (∀ i, m 117 i = if 5 + 5 * r ≤ i ∧ i < 5 + 5 * mem 117 2 then mem 117 (i + 5) else mem 117 i) → V cX10_removeRule RX10 3 (some .int) (rmk 2 43) E 64 [aR 116, aI r, aI k'] [] m) : ∀ (j : Nat) (k : Int) (M : Mem), k + j = 5 + 5 * mem 117 2 → 5 + 5 * r ≤ k → (∀ q, q ≠ 117 → M q = mem q) → (∀ i, M 117 i = if 5 + 5 * r ≤ i ∧ i < k then mem 117 (i + 5) else mem 117 i) →
    V cX10_removeRule RX10 3 (some .int) (rmk 2 43) E 30 [aR 116, aI r, aI k] [] M := by
  intro j
  induction j with
  | zero =>
    intro k M h1 h2 h3 h4
    have e2 : M 117 2 = mem 117 2 := by rw [h4, if_neg (by omega)]
    refine v_iload_n (j := 2) (q := 31) rfl dX10_removeRule_30 rfl ?_
    refine v_iconst (q := 32) dX10_removeRule_31 rfl ?_
    refine v_iconst (q := 33) dX10_removeRule_32 rfl ?_
    refine v_aload_n (j := 0) (q := 34) rfl dX10_removeRule_33 rfl ?_
    refine v_getR (p' := 117) (q := 37) dX10_removeRule_34 fl_X10_7 kd_116 rfl (rfc_10_0 kd_116) rfl ?_
    refine v_iconst (q := 38) dX10_removeRule_37 rfl ?_
    refine v_iald (q := 39) dX10_removeRule_38 kd_117 (by omega) (by omega) rfl ?_
    refine v_imul (q := 40) dX10_removeRule_39 rfl ?_
    refine v_iadd (q := 41) dX10_removeRule_40 rfl ?_
    refine v_icmp_ge (tgt := 64) (q := 44) dX10_removeRule_41 (by decide) rfl (by omega) (by rw [e2]; omega) (fun h41 => ?_) (fun h41 => ?_)
    · exact K _ _ h3 (fun i => by rw [h4, show k = 5 + 5 * mem 117 2 by omega])
    · exact absurd h41 (by rw [e2]; omega)
  | succ j ih =>
    intro k M h1 h2 h3 h4
    have e2 : M 117 2 = mem 117 2 := by rw [h4, if_neg (by omega)]
    refine v_iload_n (j := 2) (q := 31) rfl dX10_removeRule_30 rfl ?_
    refine v_iconst (q := 32) dX10_removeRule_31 rfl ?_
    refine v_iconst (q := 33) dX10_removeRule_32 rfl ?_
    refine v_aload_n (j := 0) (q := 34) rfl dX10_removeRule_33 rfl ?_
    refine v_getR (p' := 117) (q := 37) dX10_removeRule_34 fl_X10_7 kd_116 rfl (rfc_10_0 kd_116) rfl ?_
    refine v_iconst (q := 38) dX10_removeRule_37 rfl ?_
    refine v_iald (q := 39) dX10_removeRule_38 kd_117 (by omega) (by omega) rfl ?_
    refine v_imul (q := 40) dX10_removeRule_39 rfl ?_
    refine v_iadd (q := 41) dX10_removeRule_40 rfl ?_
    refine v_icmp_ge (tgt := 64) (q := 44) dX10_removeRule_41 (by decide) rfl (by omega) (by rw [e2]; omega) (fun h41 => ?_) (fun h41 => ?_)
    · exact absurd h41 (by rw [e2]; omega)
    · refine v_aload_n (j := 0) (q := 45) rfl dX10_removeRule_44 rfl ?_
      refine v_getR (p' := 117) (q := 48) dX10_removeRule_45 fl_X10_7 kd_116 rfl (rfc_10_0 kd_116) rfl ?_
      refine v_iload_n (j := 2) (q := 49) rfl dX10_removeRule_48 rfl ?_
      refine v_aload_n (j := 0) (q := 50) rfl dX10_removeRule_49 rfl ?_
      refine v_getR (p' := 117) (q := 53) dX10_removeRule_50 fl_X10_7 kd_116 rfl (rfc_10_0 kd_116) rfl ?_
      refine v_iload_n (j := 2) (q := 54) rfl dX10_removeRule_53 rfl ?_
      refine v_iconst (q := 55) dX10_removeRule_54 rfl ?_
      refine v_iadd (q := 56) dX10_removeRule_55 rfl ?_
      refine v_iald (q := 57) dX10_removeRule_56 kd_117 (by omega) (by omega) rfl ?_
      refine v_iast (q := 58) dX10_removeRule_57 kd_117 (by omega) (by omega) rfl ?_
      refine v_iinc2 (q := 61) rfl dX10_removeRule_58 (by decide) rfl ?_
      refine v_goto (q := 30) dX10_removeRule_61 (by decide) ?_
      refine ih (k + 1) _ (by omega) (by omega) (fun q hq => by rw [um_ne _ _ _ hq]; exact h3 q hq) (fun i => ?_)
      rw [um_same]
      unfold ui
      by_cases e : i = k
      · rw [if_pos e, h4, if_neg (by omega), if_pos (by omega), e]
      · rw [if_neg e, h4]
        by_cases e3 : 5 + 5 * r ≤ i ∧ i < k
        · rw [if_pos e3, if_pos (by omega)]
        · rw [if_neg e3, if_neg (by omega)]
theorem c_X10_removeRule (k : Int) (mem : Mem) (A : AS) (h : RI mem A) (hk : R32 k) : CtrI mX10_removeRule [aR 116, aI k] mem (RQ mem A (sRemove A k)) := by
  obtain ⟨r1, r2, r3, r4, r5, r6⟩ := h.keep
  obtain ⟨f0, f1, f2, f3, f4, f5, a1, a2, a3, a4, a5, hc⟩ := h.1.facts
  have k7 := r1 117 (by decide) (by decide)
  have hr : ∀ i, 5 ≤ i → i < 105 → R32 (mem 117 i) := fun i i0 i1 => by have := h.1.2.2.2 i i0 i1; rw [Int.zero_add] at this; exact this
  refine Ctr.ofV (ls := [aR 116, aI k, aU]) rfl (by decide) rfl (Nat.le_of_ble_eq_true rfl) ?_
  refine v_aload_n (j := 0) (q := 1) rfl dX10_removeRule_0 rfl ?_
  refine v_iload_n (j := 1) (q := 2) rfl dX10_removeRule_1 rfl ?_
  refine v_cVI1 (q := 5) dX10_removeRule_2 mlX10_85 mdX10_isRule (by decide) kd_116 rfl rfl ⟨Nat.le_refl 0, Nat.le_refl 0⟩ (by exact Nat.le_of_ble_eq_true rfl) rfl (c_X10_isRule k mem hk (by omega)) ?_
  rintro _ _ ⟨rfl, rfl⟩
  refine v_if_neB (tgt := 10) (q := 8) dX10_removeRule_5 (by decide) rfl (fun h5 => ?_) (fun h5 => ?_)
  · refine v_aload_n (j := 0) (q := 11) rfl dX10_removeRule_10 rfl ?_
    refine v_cVV0 (q := 14) dX10_removeRule_11 mlX10_64 mdX10_keep (by decide) kd_116 rfl rfl ⟨Nat.le_refl 0, Nat.le_refl 0⟩ (by exact Nat.le_of_ble_eq_true rfl) rfl (c_X10_keep mem r5 r6) ?_
    rintro _ rfl
    refine v_aload_n (j := 0) (q := 15) rfl dX10_removeRule_14 rfl ?_
    refine v_getR (p' := 117) (q := 18) dX10_removeRule_15 fl_X10_7 kd_116 rfl (rfc_10_0 kd_116) rfl ?_
    refine v_iconst (q := 19) dX10_removeRule_18 rfl ?_
    refine v_dup2 (q := 20) rfl rfl dX10_removeRule_19 rfl ?_
    refine v_iald (q := 21) dX10_removeRule_20 kd_117 (by omega) (by omega) rfl ?_
    refine v_iconst (q := 22) dX10_removeRule_21 rfl ?_
    refine v_isub (q := 23) dX10_removeRule_22 rfl ?_
    rw [k7]
    refine v_iast (q := 24) dX10_removeRule_23 kd_117 (by omega) (by omega) rfl ?_
    refine v_iconst (q := 25) dX10_removeRule_24 rfl ?_
    refine v_iconst (q := 26) dX10_removeRule_25 rfl ?_
    refine v_iload_n (j := 1) (q := 27) rfl dX10_removeRule_26 rfl ?_
    refine v_imul (q := 28) dX10_removeRule_27 rfl ?_
    refine v_iadd (q := 29) dX10_removeRule_28 rfl ?_
    refine v_ist2 (q := 30) rfl dX10_removeRule_29 (by decide) rfl ?_
    obtain ⟨N, hN⟩ : ∃ N, N = um (kpM mem) 117 2 (mem 117 2 - 1) := ⟨_, rfl⟩
    rw [← hN]
    have n2 : N 117 2 = mem 117 2 - 1 := by rw [hN, um_same, ui_same]
    have nj : ∀ j, j ≠ 2 → N 117 j = mem 117 j := fun j hj => by rw [hN, um_same, ui_ne _ _ hj, k7]
    refine l_X10_removeRule k N h5.1 (by rw [n2]; omega) (fun k' m q1 q2 => ?_) (5 * (mem 117 2 - 1 - k)).toNat (5 + 5 * k) N (by rw [n2]; omega) (by omega) (fun _ _ => rfl) (fun i => by rw [if_neg (by omega)])
    have g2 : m 117 2 = mem 117 2 - 1 := by rw [q2, if_neg (by omega), n2]
    refine v_aload_n (j := 0) (q := 65) rfl dX10_removeRule_64 rfl ?_
    refine v_getR (p' := 117) (q := 68) dX10_removeRule_65 fl_X10_7 kd_116 rfl (rfc_10_0 kd_116) rfl ?_
    refine v_iconst (q := 69) dX10_removeRule_68 rfl ?_
    refine v_iald (q := 70) dX10_removeRule_69 kd_117 (by omega) (by omega) rfl ?_
    refine v_iret dX10_removeRule_70 ⟨_, rfl, ?_⟩
    unfold sRemove
    rw [hc, if_pos h5, g2]
    have e9 : rls (m 117) 5 ((mem 117 2).toNat - 1) = (rls (mem 117) 5 (mem 117 2).toNat).eraseIdx k.toNat := by
      refine rls5_erase (by omega) (fun j hj0 hj => ?_) (fun j hj hj2 => ?_)
      · rw [q2, if_neg (by omega), nj j (by omega)]
      · rw [q2, if_pos (by omega), nj _ (by omega)]
    have hS := h.1.rules (g := m 117) (l := (rls (mem 117) 5 (mem 117 2).toNat).eraseIdx k.toNat) (by rw [q2, if_neg (by omega), nj _ (by omega)]) (by rw [q2, if_neg (by omega), nj _ (by omega)]) (by rw [q2, if_neg (by omega), nj _ (by omega)]) (by rw [q2, if_neg (by omega), nj _ (by omega)]) (by rw [g2]; omega) (by rw [g2, show (mem 117 2 - 1).toNat = (mem 117 2).toNat - 1 by omega, e9]) (fun r9 h9 => h.1.2.2.1.2.2.2.2.2 r9 (by rw [a5]; exact List.mem_of_mem_eraseIdx h9)) (fun i i0 i1 => by
      rw [q2]
      split
      · rw [nj _ (by omega)]; exact hr _ (by omega) (by omega)
      · rw [nj _ (by omega)]; exact hr _ i0 i1)
    rw [← a5] at hS
    exact RQ_change h (fun q hq => by rw [q1 q hq, hN, um_ne _ _ _ hq]) hS
  · refine v_iconst (q := 9) dX10_removeRule_8 rfl ?_
    refine v_iret dX10_removeRule_9 ?_
    refine ⟨_, rfl, ?_⟩
    unfold sRemove
    rw [hc, if_neg h5]
    exact RQ_same h
theorem c_X10_setWeight (k w : Int) (mem : Mem) (A : AS) (h : RI mem A) (hk : R32 k) (hw : R32 w) : CtrI mX10_setWeight [aR 116, aI k, aI w] mem (RQ mem A (sWeight A k w)) := by
  obtain ⟨r1, r2, r3, r4, r5, r6⟩ := h.keep
  obtain ⟨f0, f1, f2, f3, f4, f5, a1, a2, a3, a4, a5, hc⟩ := h.1.facts
  have k7 := r1 117 (by decide) (by decide)
  have hr : ∀ i, 5 ≤ i → i < 105 → R32 (mem 117 i) := fun i i0 i1 => by have := h.1.2.2.2 i i0 i1; rw [Int.zero_add] at this; exact this
  refine Ctr.ofV (ls := [aR 116, aI k, aI w, aU]) rfl (by decide) rfl (Nat.le_of_ble_eq_true rfl) ?_
  refine v_aload_n (j := 0) (q := 1) rfl dX10_setWeight_0 rfl ?_
  refine v_iload_n (j := 1) (q := 2) rfl dX10_setWeight_1 rfl ?_
  refine v_cVI1 (q := 5) dX10_setWeight_2 mlX10_85 mdX10_isRule (by decide) kd_116 rfl rfl ⟨Nat.le_refl 0, Nat.le_refl 0⟩ (by exact Nat.le_of_ble_eq_true rfl) rfl (c_X10_isRule k mem hk (by omega)) ?_
  rintro _ _ ⟨rfl, rfl⟩
  refine v_if_neB (tgt := 10) (q := 8) dX10_setWeight_5 (by decide) rfl (fun h5 => ?_) (fun h5 => ?_)
  · refine v_iload_n (j := 2) (q := 11) rfl dX10_setWeight_10 rfl ?_
    refine v_iconst (q := 12) dX10_setWeight_11 rfl ?_
    refine v_bipush (q := 14) (by decide) dX10_setWeight_12 rfl ?_
    refine v_cSI3 (q := 17) dX10_setWeight_14 mlX10_44 mdX10_isIn (by decide) ⟨Nat.le_refl 0, Nat.le_refl 0⟩ (by exact Nat.le_of_ble_eq_true rfl) rfl (c_X10_isIn _ _ _ mem hw (by omega) (by omega)) ?_
    rintro _ _ ⟨rfl, rfl⟩
    refine v_if_neB (tgt := 23) (q := 20) dX10_setWeight_17 (by decide) rfl (fun h17 => ?_) (fun h17 => ?_)
    · refine v_aload_n (j := 0) (q := 24) rfl dX10_setWeight_23 rfl ?_
      refine v_cVV0 (q := 27) dX10_setWeight_24 mlX10_64 mdX10_keep (by decide) kd_116 rfl rfl ⟨Nat.le_refl 0, Nat.le_refl 0⟩ (by exact Nat.le_of_ble_eq_true rfl) rfl (c_X10_keep mem r5 r6) ?_
      rintro _ rfl
      refine v_aload_n (j := 0) (q := 28) rfl dX10_setWeight_27 rfl ?_
      refine v_iload_n (j := 1) (q := 29) rfl dX10_setWeight_28 rfl ?_
      refine v_iconst (q := 30) dX10_setWeight_29 rfl ?_
      refine v_cVI2 (q := 33) dX10_setWeight_30 mlX10_67 mdX10_of (by decide) kd_116 rfl rfl ⟨Nat.le_refl 0, Nat.le_refl 0⟩ (by exact Nat.le_of_ble_eq_true rfl) rfl (c_X10_of k 4 _ (by omega) (by omega)) ?_
      rintro _ _ ⟨rfl, rfl⟩
      rw [k7]
      refine v_ist3 (q := 34) rfl dX10_setWeight_33 (by decide) rfl ?_
      refine v_aload_n (j := 0) (q := 35) rfl dX10_setWeight_34 rfl ?_
      refine v_getR (p' := 117) (q := 38) dX10_setWeight_35 fl_X10_7 kd_116 rfl (rfc_10_0 kd_116) rfl ?_
      refine v_iconst (q := 39) dX10_setWeight_38 rfl ?_
      refine v_iconst (q := 40) dX10_setWeight_39 rfl ?_
      refine v_iload_n (j := 1) (q := 41) rfl dX10_setWeight_40 rfl ?_
      refine v_imul (q := 42) dX10_setWeight_41 rfl ?_
      refine v_iadd (q := 43) dX10_setWeight_42 rfl ?_
      refine v_iconst (q := 44) dX10_setWeight_43 rfl ?_
      refine v_iadd (q := 45) dX10_setWeight_44 rfl ?_
      refine v_iload_n (j := 2) (q := 46) rfl dX10_setWeight_45 rfl ?_
      refine v_iast (q := 47) dX10_setWeight_46 kd_117 (by omega) (by omega) rfl ?_
      refine v_iload_n (j := 3) (q := 48) rfl dX10_setWeight_47 rfl ?_
      refine v_iret dX10_setWeight_48 ?_
      refine ⟨_, rfl, ?_⟩
      unfold sWeight
      rw [hc, if_pos h5, if_pos h17]
      have e0 : A.1.2.2.2.2.getD k.toNat (0, 0, 0, 0, 0) = rl5 (mem 117) (5 + 5 * (k.toNat : Int)) := by rw [a5, rls_getD _ _ (by omega)]
      rw [e0]
      have e1 : 5 * (k.toNat : Int) = 5 * k := by omega
      rw [e1]
      obtain ⟨m9, hm9⟩ : ∃ m9, um (kpM mem) 117 (5 + 5 * k + 4) w = m9 := ⟨_, rfl⟩
      rw [hm9]
      have k2 : m9 117 = ui (mem 117) (5 + 5 * k + 4) w := by rw [← hm9, um_same, k7]
      have es : ∀ f : Int → Int, ∀ n, rls (fun j => f (5 + j)) 0 n = rls f 5 n := fun f n => rls_ext (fun i _ _ => by show f (5 + (0 + i)) = f (5 + i); rw [Int.zero_add])
      have e9 := rls_setw (f := fun j => mem 117 (5 + j)) (g := fun j => m9 117 (5 + j)) (n := (mem 117 2).toNat) (k := k.toNat) (w := w) (by omega) (fun j hj => by show m9 117 (5 + j) = mem 117 (5 + j); rw [k2, ui_ne _ _ (by omega)]) (by show m9 117 (5 + (5 * (k.toNat : Int) + 4)) = w; rw [k2, e1, show 5 + (5 * k + 4) = 5 + 5 * k + 4 by omega, ui_same])
      rw [es, es] at e9
      have hm : rl5 (mem 117) (5 + 5 * k) ∈ A.1.2.2.2.2 := by
        have := rls_at (mem 117) 5 (n := (mem 117 2).toNat) (k := k.toNat) (by omega)
        rw [e1] at this
        rw [a5]
        exact List.mem_of_getElem? this
      have ok := h.1.2.2.1.2.2.2.2.2 _ hm
      have ea : ∀ j : Int, 5 + (5 * (k.toNat : Int) + j) = 5 + 5 * k + j := fun j => by omega
      have e9' : rls (m9 117) 5 (mem 117 2).toNat = (rls (mem 117) 5 (mem 117 2).toNat).set k.toNat (mem 117 (5 + 5 * k), mem 117 (5 + 5 * k + 1), mem 117 (5 + 5 * k + 2), mem 117 (5 + 5 * k + 3), w) := by
        rw [e9]
        show (rls (mem 117) 5 (mem 117 2).toNat).set k.toNat (mem 117 (5 + 5 * (k.toNat : Int)), mem 117 (5 + (5 * (k.toNat : Int) + 1)), mem 117 (5 + (5 * (k.toNat : Int) + 2)), mem 117 (5 + (5 * (k.toNat : Int) + 3)), w) = _
        rw [ea, ea, ea, e1]
      have hS := h.1.rules (g := m9 117) (l := (rls (mem 117) 5 (mem 117 2).toNat).set k.toNat (mem 117 (5 + 5 * k), mem 117 (5 + 5 * k + 1), mem 117 (5 + 5 * k + 2), mem 117 (5 + 5 * k + 3), w)) (by rw [k2, ui_ne _ _ (by omega)]) (by rw [k2, ui_ne _ _ (by omega)]) (by rw [k2, ui_ne _ _ (by omega)]) (by rw [k2, ui_ne _ _ (by omega)]) (by rw [k2, ui_ne _ _ (by omega)]; omega) (by
        rw [← e9', show m9 117 2 = mem 117 2 by rw [k2, ui_ne _ _ (by omega)]]) (fun r9 h9 => by
        rcases List.mem_or_eq_of_mem_set h9 with h9 | rfl
        · exact h.1.2.2.1.2.2.2.2.2 r9 (by rw [a5]; exact h9)
        · exact ⟨ok.1, ok.2.1, ok.2.2.1, ok.2.2.2.1, h17⟩) (fun i i0 i1 => by
        rw [k2]
        unfold ui
        split
        · exact hw
        · exact hr i i0 i1)
      rw [← a5] at hS
      exact RQ_change h (fun q hq => by rw [← hm9, um_ne _ _ _ hq]) hS
    · refine v_bipush (q := 22) (by decide) dX10_setWeight_20 rfl ?_
      refine v_iret dX10_setWeight_22 ?_
      refine ⟨_, rfl, ?_⟩
      unfold sWeight
      rw [hc, if_pos h5, if_neg h17]
      exact RQ_same h
  · refine v_iconst (q := 9) dX10_setWeight_8 rfl ?_
    refine v_iret dX10_setWeight_9 ?_
    refine ⟨_, rfl, ?_⟩
    unfold sWeight
    rw [hc, if_neg h5]
    exact RQ_same h
theorem c_X10_setStart (p w : Int) (mem : Mem) (A : AS) (h : RI mem A) (hp : R32 p) (hw : R32 w) : CtrI mX10_setStart [aR 116, aI p, aI w] mem (RQ mem A (sStart A p w)) := by
  obtain ⟨r1, r2, r3, r4, r5, r6⟩ := h.keep
  obtain ⟨f0, f1, f2, f3, f4, f5, a1, a2, a3, a4, a5, hc⟩ := h.1.facts
  have k7 := r1 117 (by decide) (by decide)
  have bad : ¬ ((0 ≤ p ∧ p < mem 117 0) ∧ isW w (mem 117 1) ∧ 1 ≤ nd w ∧ nd w ≤ 4) → RQ mem A (sStart A p w) (-1) mem := fun hb => by
    unfold sStart
    rw [a1, a2, if_neg hb]
    exact RQ_same h
  refine Ctr.ofV (ls := [aR 116, aI p, aI w, aU]) rfl (by decide) rfl (Nat.le_of_ble_eq_true rfl) ?_
  refine v_aload_n (j := 0) (q := 1) rfl dX10_setStart_0 rfl ?_
  refine v_iload_n (j := 1) (q := 2) rfl dX10_setStart_1 rfl ?_
  refine v_cVI1 (q := 5) dX10_setStart_2 mlX10_71 mdX10_isState (by decide) kd_116 rfl rfl ⟨Nat.le_refl 0, Nat.le_refl 0⟩ (by exact Nat.le_of_ble_eq_true rfl) rfl (c_X10_isState p mem hp (by omega)) ?_
  rintro _ _ ⟨rfl, rfl⟩
  refine v_if_eqB (tgt := 18) (q := 8) dX10_setStart_5 (by decide) rfl (fun h5 => ?_) (fun h5 => ?_)
  · refine v_iconst (q := 19) dX10_setStart_18 rfl ?_
    refine v_iret dX10_setStart_19 ?_
    exact ⟨_, rfl, by first | exact bad (fun hb => h5 hb.1) | exact bad (fun hb => h15 hb.2)⟩
  · refine v_aload_n (j := 0) (q := 9) rfl dX10_setStart_8 rfl ?_
    refine v_iload_n (j := 2) (q := 10) rfl dX10_setStart_9 rfl ?_
    refine v_iconst (q := 11) dX10_setStart_10 rfl ?_
    refine v_iconst (q := 12) dX10_setStart_11 rfl ?_
    refine v_cVI3 (q := 15) dX10_setStart_12 mlX10_74 mdX10_isWord (by decide) kd_116 rfl rfl ⟨Nat.le_refl 0, Nat.le_refl 0⟩ (by exact Nat.le_of_ble_eq_true rfl) rfl (c_X10_isWord w 1 4 mem hw (by omega) (by omega) (by omega)) ?_
    rintro _ _ ⟨rfl, rfl⟩
    refine v_if_neB (tgt := 20) (q := 18) dX10_setStart_15 (by decide) rfl (fun h15 => ?_) (fun h15 => ?_)
    · refine v_aload_n (j := 0) (q := 21) rfl dX10_setStart_20 rfl ?_
      refine v_cVV0 (q := 24) dX10_setStart_21 mlX10_64 mdX10_keep (by decide) kd_116 rfl rfl ⟨Nat.le_refl 0, Nat.le_refl 0⟩ (by exact Nat.le_of_ble_eq_true rfl) rfl (c_X10_keep mem r5 r6) ?_
      rintro _ rfl
      refine v_aload_n (j := 0) (q := 25) rfl dX10_setStart_24 rfl ?_
      refine v_getR (p' := 117) (q := 28) dX10_setStart_25 fl_X10_7 kd_116 rfl (rfc_10_0 kd_116) rfl ?_
      refine v_iconst (q := 29) dX10_setStart_28 rfl ?_
      refine v_iald (q := 30) dX10_setStart_29 kd_117 (by omega) (by omega) rfl ?_
      rw [k7]
      refine v_cSI1 (q := 33) dX10_setStart_30 mlX10_48 mdX10_sizeOf (by decide) ⟨Nat.le_refl 0, Nat.le_refl 0⟩ (by exact Nat.le_of_ble_eq_true rfl) rfl (c_X10_sizeOf _ _ (by omega)) ?_
      rintro _ _ ⟨rfl, rfl⟩
      refine v_ist3 (q := 34) rfl dX10_setStart_33 (by decide) rfl ?_
      refine v_aload_n (j := 0) (q := 35) rfl dX10_setStart_34 rfl ?_
      refine v_getR (p' := 117) (q := 38) dX10_setStart_35 fl_X10_7 kd_116 rfl (rfc_10_0 kd_116) rfl ?_
      refine v_iconst (q := 39) dX10_setStart_38 rfl ?_
      refine v_iload_n (j := 1) (q := 40) rfl dX10_setStart_39 rfl ?_
      refine v_iast (q := 41) dX10_setStart_40 kd_117 (by omega) (by omega) rfl ?_
      refine v_aload_n (j := 0) (q := 42) rfl dX10_setStart_41 rfl ?_
      refine v_getR (p' := 117) (q := 45) dX10_setStart_42 fl_X10_7 kd_116 rfl (rfc_10_0 kd_116) rfl ?_
      refine v_iconst (q := 46) dX10_setStart_45 rfl ?_
      refine v_iload_n (j := 2) (q := 47) rfl dX10_setStart_46 rfl ?_
      refine v_iast (q := 48) dX10_setStart_47 kd_117 (by omega) (by omega) rfl ?_
      refine v_iload_n (j := 3) (q := 49) rfl dX10_setStart_48 rfl ?_
      refine v_iret dX10_setStart_49 ?_
      refine ⟨_, rfl, ?_⟩
      unfold sStart
      rw [a1, a2, if_pos ⟨h5, h15⟩, a4]
      obtain ⟨m9, hm9⟩ : ∃ m9, um (um (kpM mem) 117 3 p) 117 4 w = m9 := ⟨_, rfl⟩
      rw [hm9]
      have k2 : m9 117 = ui (ui (mem 117) 3 p) 4 w := by rw [← hm9, um_same, um_same, k7]
      have kj : ∀ j, j ≠ 3 → j ≠ 4 → m9 117 j = mem 117 j := fun j e1 e2 => by rw [k2, ui_ne _ _ e2, ui_ne _ _ e1]
      have hS : SM (m9 117) 0 (mem 117 0, mem 117 1, p, w, A.1.2.2.2.2) := by
        obtain ⟨ea, c, ok, r⟩ := h.1
        refine ⟨?_, by rw [Int.zero_add, kj 2 (by omega) (by omega)]; exact f4, ?_, fun i i0 i1 => by rw [Int.zero_add, kj i (by omega) (by omega)]; have := r i i0 i1; rw [Int.zero_add] at this; exact this⟩
        · unfold syM
          simp only [Int.zero_add]
          rw [kj 0 (by omega) (by omega), kj 1 (by omega) (by omega), kj 2 (by omega) (by omega), show m9 117 3 = p by rw [k2, ui_ne _ _ (by omega), ui_same], show m9 117 4 = w by rw [k2, ui_same], a5]
          congr 4
          apply rls_ext
          intro i i0 i1
          rw [kj _ (by omega) (by omega)]
        · have o5 := ok.2.2.2.2
          rw [a1, a2] at o5
          exact ⟨f0, f1, h5, h15, o5⟩
      exact RQ_change h (fun q hq => by rw [← hm9, um_ne _ _ _ hq, um_ne _ _ _ hq]) hS
    · refine v_iconst (q := 19) dX10_setStart_18 rfl ?_
      refine v_iret dX10_setStart_19 ?_
      exact ⟨_, rfl, by first | exact bad (fun hb => h5 hb.1) | exact bad (fun hb => h15 hb.2)⟩
