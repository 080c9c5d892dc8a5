/-! ===== removeRule, setWeight, setStart, undo, told, rule, write, wipe ===== -/
theorem eA {m : Mem} {y : Sy} (h : SR m 1 y) : y.1 = m 1 0 ∧ y.2.1 = m 1 1 ∧ y.2.2.1 = m 1 2 ∧ y.2.2.2.1 = m 1 3 ∧ y.2.2.2.2 = rls (m 2) 0 (m 1 4).toNat ∧ (y.2.2.2.2.length : Int) = m 1 4 := by
  obtain ⟨rfl, c, -⟩ := h
  refine ⟨rfl, rfl, rfl, rfl, rfl, ?_⟩
  show ((rls _ _ _).length : Int) = _
  rw [rls_len]
  omega
theorem rls_erase {f g : Int → Int} {n k : Nat} (hk : k < n) (h1 : ∀ j : Int, j < 5 * (k : Int) → g j = f j) (h2 : ∀ j : Int, 5 * (k : Int) ≤ j → j < 5 * ((n : Int) - 1) → g j = f (j + 5)) : rls g 0 (n - 1) = (rls f 0 n).eraseIdx k := by
  apply List.ext_getElem?
  intro i
  by_cases hi : i < n - 1
  · rw [rls_at _ _ hi]
    by_cases hik : i < k
    · rw [List.getElem?_eraseIdx_of_lt hik, rls_at _ _ (by omega)]
      unfold rl5
      rw [h1 _ (by omega), h1 _ (by omega), h1 _ (by omega), h1 _ (by omega), h1 _ (by omega)]
    · rw [List.getElem?_eraseIdx_of_ge (by omega), rls_at _ _ (by omega)]
      unfold rl5
      rw [h2 _ (by omega) (by omega), h2 _ (by omega) (by omega), h2 _ (by omega) (by omega), h2 _ (by omega) (by omega), h2 _ (by omega) (by omega)]
      rw [show (0 : Int) + 5 * ((i + 1 : Nat) : Int) = 0 + 5 * (i : Int) + 5 by omega]
      rw [show (0 : Int) + 5 * (i : Int) + 5 + 1 = 0 + 5 * (i : Int) + 1 + 5 by omega, show (0 : Int) + 5 * (i : Int) + 5 + 2 = 0 + 5 * (i : Int) + 2 + 5 by omega, show (0 : Int) + 5 * (i : Int) + 5 + 3 = 0 + 5 * (i : Int) + 3 + 5 by omega, show (0 : Int) + 5 * (i : Int) + 5 + 4 = 0 + 5 * (i : Int) + 4 + 5 by omega]
  · rw [List.getElem?_eq_none (by rw [rls_len]; omega), List.getElem?_eq_none (by rw [List.length_eraseIdx, rls_len]; split <;> omega)]
theorem rls_setw {f g : Int → Int} {n k : Nat} {w : Int} (hk : k < n) (h1 : ∀ j : Int, j ≠ 5 * (k : Int) + 4 → g j = f j) (h2 : g (5 * (k : Int) + 4) = w) : rls g 0 n = (rls f 0 n).set k (f (5 * (k : Int)), f (5 * (k : Int) + 1), f (5 * (k : Int) + 2), f (5 * (k : Int) + 3), w) := by
  apply List.ext_getElem?
  intro i
  by_cases hi : i < n
  · rw [rls_at _ _ hi]
    by_cases hik : i = k
    · subst hik
      rw [List.getElem?_set_self (by rw [rls_len]; exact hi)]
      unfold rl5
      rw [Int.zero_add, h1 _ (by omega), h1 _ (by omega), h1 _ (by omega), h1 _ (by omega), h2]
    · rw [List.getElem?_set_ne (Ne.symm hik), rls_at _ _ hi]
      unfold rl5
      rw [h1 _ (by omega), h1 _ (by omega), h1 _ (by omega), h1 _ (by omega), h1 _ (by omega)]
  · rw [List.getElem?_eq_none (by rw [rls_len]; omega), List.getElem?_eq_none (by rw [List.length_set, rls_len]; omega)]
noncomputable def sRemove (A : AS) (k : Int) : Int × AS := by
  classical
  exact if 0 ≤ k ∧ k < A.1.2.2.2.2.length then ((A.1.2.2.2.2.length : Int) - 1, ((A.1.1, A.1.2.1, A.1.2.2.1, A.1.2.2.2.1, A.1.2.2.2.2.eraseIdx k.toNat), hpush A.2.1 A.1, A.2.2)) else (-1, A)
/-- the system at 1 with other rules, the rest as it was -/
theorem SR.rules {m m1 : Mem} {y : Sy} {l : List Rl} (h : SR m 1 y) (o : ∀ j, j ≠ 4 → m1 1 j = m 1 j) (c : 0 ≤ m1 1 4 ∧ m1 1 4 ≤ 20) (hl : l = rls (m1 2) 0 (m1 1 4).toNat) (ok : ∀ r ∈ l, okR y.1 y.2.1 r) (hr : ∀ i, 0 ≤ i → i < 100 → R32 (m1 2 i)) : SR m1 1 (y.1, y.2.1, y.2.2.1, y.2.2.2.1, l) := by
  obtain ⟨rfl, c0, ok0, r0⟩ := h
  refine ⟨?_, c, ⟨ok0.1, ok0.2.1, ok0.2.2.1, ok0.2.2.2.1, ?_, ok⟩, hr⟩
  · unfold syC
    rw [o 0 (by omega), o 1 (by omega), o 2 (by omega), o 3 (by omega), hl]
  · show l.length ≤ 20
    rw [hl, rls_len]
    omega
/-- behind a recorded change that touches the places 1 and 2 alone -/
theorem CQ_change {mem m : Mem} {A : AS} {y : Sy} {z : Int} (h : SI mem A) (k0 : ∀ r, r ≠ 1 → r ≠ 2 → m r = fgM (recM mem) r) (hS : SR m 1 y) : CQ mem A (z, (y, hpush A.2.1 A.1, A.2.2)) z m := by
  obtain ⟨r1, r2, -⟩ := h.rec
  exact ⟨rfl, ⟨hS, r1.2.1.congr (fun q a b => k0 q (by omega) (by omega)), r1.2.2.congr (k0 23 (by decide) (by decide)) (k0 24 (by decide) (by decide))⟩, Or.inl ⟨by rw [k0 0 (by decide) (by decide)]; exact r2.1, by rw [k0 42 (by decide) (by decide)]; exact r2.2.1, by rw [k0 83 (by decide) (by decide)]; exact r2.2.2.1, fun q hq => by rw [k0 q (by omega) (by omega)]; exact r2.2.2.2 q hq⟩⟩
theorem fgrec {m : Mem} {A : AS} (h : SI m A) : fgM (recM m) 1 = m 1 ∧ fgM (recM m) 2 = m 2 ∧ SR (fgM (recM m)) 1 A.1 := by
  refine ⟨by rw [fgM_ne _ (by decide) (by decide) (by decide), (h.2.1.rec h.1).2 1 (by omega)], by rw [fgM_ne _ (by decide) (by decide) (by decide), (h.2.1.rec h.1).2 2 (by omega)], h.rec.1.1⟩
theorem c_X9_removeRule (k : Int) (mem : Mem) (A : AS) (h : SI mem A) (hk : R32 k) : CtrI mX9_removeRule [aR 0, aI k] mem (CQ mem A (sRemove A k)) := by
  have f := h.1.facts
  obtain ⟨a1, a2, a3, a4, a5, hc⟩ := eA h.1
  obtain ⟨g1, g2, g3⟩ := fgrec h
  obtain ⟨-, -, r3, r4, r5⟩ := h.rec
  refine Ctr.ofV (ls := [aR 0, aI k]) rfl (by decide) rfl (Nat.le_of_ble_eq_true rfl) ?_
  refine v_aload_n (j := 0) (q := 1) rfl dX9_removeRule_0 rfl ?_
  refine v_iload_n (j := 1) (q := 2) rfl dX9_removeRule_1 rfl ?_
  refine v_cVI1 (q := 5) dX9_removeRule_2 mlX9_126 mdX9_isRule (by decide) kd_0 rfl rfl ⟨Nat.le_refl 0, Nat.le_refl 0⟩ (by exact Nat.le_of_ble_eq_true rfl) rfl (c_X9_isRule k mem hk (by omega)) ?_
  rintro _ _ ⟨rfl, rfl⟩
  refine v_if_neB (tgt := 10) (q := 8) dX9_removeRule_5 (by decide) rfl (fun h5 => ?_) (fun h5 => ?_)
  · refine v_aload_n (j := 0) (q := 11) rfl dX9_removeRule_10 rfl ?_
    refine v_cVV0 (q := 14) dX9_removeRule_11 mlX9_97 mdX9_recordChange (by decide) kd_0 rfl rfl ⟨Nat.le_refl 0, Nat.le_refl 0⟩ (by exact Nat.le_of_ble_eq_true rfl) rfl (c_X9_recordChange mem r3 r4 r5) ?_
    rintro _ rfl
    refine v_aload_n (j := 0) (q := 15) rfl dX9_removeRule_14 rfl ?_
    refine v_getR (p' := 1) (q := 18) dX9_removeRule_15 fl_X9_12 kd_0 rfl (rfc_9_0 kd_0) rfl ?_
    refine v_iload_n (j := 1) (q := 19) rfl dX9_removeRule_18 rfl ?_
    refine v_cVV1 (q := 22) dX9_removeRule_19 mlX9_129 mdX4_leaveOut (by decide) kd_1 rfl rfl ⟨Nat.le_refl 0, Nat.le_refl 0⟩ (by exact Nat.le_of_ble_eq_true rfl) rfl (c_X4_leaveOut 1 k _ su_1 h5.1 (by rw [g1]; exact h5.2) (by rw [g1]; omega)) ?_
    rintro _ rfl
    refine v_aload_n (j := 0) (q := 23) rfl dX9_removeRule_22 rfl ?_
    refine v_getR (p' := 1) (q := 26) dX9_removeRule_23 fl_X9_12 kd_0 rfl (rfc_9_0 kd_0) rfl ?_
    refine v_getI (j := 4) (q := 29) dX9_removeRule_26 fl_X9_93 kd_1 rfl rfl rfl ?_
    refine v_iret dX9_removeRule_29 ?_
    refine ⟨_, rfl, ?_⟩
    unfold sRemove
    rw [hc, if_pos h5, um_same, ui_same, g1]
    obtain ⟨m9, hm9⟩ : ∃ m9, um (cpm (fgM (recM mem)) 2 2 (k * 5 + 5) (k * 5) ((mem 1 4 - k - 1) * 5)) 1 4 (mem 1 4 - 1) = m9 := ⟨_, rfl⟩
    show CQ _ _ _ _ (um (cpm (fgM (recM mem)) 2 2 (k * 5 + 5) (k * 5) ((mem 1 4 - k - 1) * 5)) 1 4 (mem 1 4 - 1))
    rw [hm9]
    have k0 : ∀ r, r ≠ 1 → r ≠ 2 → m9 r = fgM (recM mem) r := fun r e1 e2 => by rw [← hm9, um_ne _ _ _ e1]; exact if_neg e2
    have k1 : m9 1 = ui (mem 1) 4 (mem 1 4 - 1) := by rw [← hm9, um_same, show cpm (fgM (recM mem)) 2 2 (k * 5 + 5) (k * 5) ((mem 1 4 - k - 1) * 5) 1 = fgM (recM mem) 1 from if_neg (by decide), g1]
    have k2 : ∀ j, m9 2 j = if k * 5 ≤ j ∧ j < k * 5 + (mem 1 4 - k - 1) * 5 then mem 2 (k * 5 + 5 + (j - k * 5)) else mem 2 j := fun j => by
      rw [← hm9, um_ne _ _ _ (by decide)]
      unfold cpm
      rw [if_pos rfl, g2]
    have e9 : rls (m9 2) 0 ((mem 1 4).toNat - 1) = (rls (mem 2) 0 (mem 1 4).toNat).eraseIdx k.toNat := by
      refine rls_erase (by omega) (fun j hj => ?_) (fun j hj hj2 => ?_)
      · rw [k2, if_neg (by omega)]
      · rw [k2, if_pos (by omega)]
        congr 1
        omega
    have e4 : m9 1 4 = mem 1 4 - 1 := by rw [k1, ui_same]
    have hS := g3.rules (m1 := m9) (l := (rls (mem 2) 0 (mem 1 4).toNat).eraseIdx k.toNat) (fun j hj => by rw [k1, ui_ne _ _ hj, g1]) (by rw [e4]; omega) (by rw [e4, show (mem 1 4 - 1).toNat = (mem 1 4).toNat - 1 by omega, e9]) (fun r hr => h.1.2.2.1.2.2.2.2.2 r (by rw [a5]; exact List.mem_of_mem_eraseIdx hr)) (fun i i0 i1 => by
      rw [k2]
      split
      · exact h.1.2.2.2 _ (by omega) (by omega)
      · exact h.1.2.2.2 _ i0 i1)
    rw [← a5] at hS
    exact CQ_change h k0 hS
  · refine v_iconst (q := 9) dX9_removeRule_8 rfl ?_
    refine v_iret dX9_removeRule_9 ?_
    refine ⟨_, rfl, ?_⟩
    unfold sRemove
    rw [hc, if_neg h5]
    exact ⟨rfl, h, Or.inr ⟨rfl, fun _ _ => rfl⟩⟩
noncomputable def sWeight (A : AS) (k w : Int) : Int × AS := by
  classical
  exact if 0 ≤ k ∧ k < A.1.2.2.2.2.length then (if 1 ≤ w ∧ w ≤ 20 then ((A.1.2.2.2.2.getD k.toNat (0, 0, 0, 0, 0)).2.2.2.2, ((A.1.1, A.1.2.1, A.1.2.2.1, A.1.2.2.2.1, A.1.2.2.2.2.set k.toNat ((A.1.2.2.2.2.getD k.toNat (0, 0, 0, 0, 0)).1, (A.1.2.2.2.2.getD k.toNat (0, 0, 0, 0, 0)).2.1, (A.1.2.2.2.2.getD k.toNat (0, 0, 0, 0, 0)).2.2.1, (A.1.2.2.2.2.getD k.toNat (0, 0, 0, 0, 0)).2.2.2.1, w)), hpush A.2.1 A.1, A.2.2)) else (-2, A)) else (-1, A)
theorem rls_getD (f : Int → Int) (o : Int) {n k : Nat} (h : k < n) : (rls f o n).getD k (0, 0, 0, 0, 0) = rl5 f (o + 5 * (k : Int)) := by rw [List.getD_eq_getElem?_getD, rls_at f o h]; rfl
theorem c_X9_setWeight (k w : Int) (mem : Mem) (A : AS) (h : SI mem A) (hk : R32 k) (hw : R32 w) : CtrI mX9_setWeight [aR 0, aI k, aI w] mem (CQ mem A (sWeight A k w)) := by
  have f := h.1.facts
  obtain ⟨a1, a2, a3, a4, a5, hc⟩ := eA h.1
  obtain ⟨g1, g2, g3⟩ := fgrec h
  obtain ⟨-, -, r3, r4, r5⟩ := h.rec
  refine Ctr.ofV (ls := [aR 0, aI k, aI w, aU]) rfl (by decide) rfl (Nat.le_of_ble_eq_true rfl) ?_
  refine v_aload_n (j := 0) (q := 1) rfl dX9_setWeight_0 rfl ?_
  refine v_iload_n (j := 1) (q := 2) rfl dX9_setWeight_1 rfl ?_
  refine v_cVI1 (q := 5) dX9_setWeight_2 mlX9_126 mdX9_isRule (by decide) kd_0 rfl rfl ⟨Nat.le_refl 0, Nat.le_refl 0⟩ (by exact Nat.le_of_ble_eq_true rfl) rfl (c_X9_isRule k mem hk (by omega)) ?_
  rintro _ _ ⟨rfl, rfl⟩
  refine v_if_neB (tgt := 10) (q := 8) dX9_setWeight_5 (by decide) rfl (fun h5 => ?_) (fun h5 => ?_)
  · refine v_iload_n (j := 2) (q := 11) rfl dX9_setWeight_10 rfl ?_
    refine v_cSI1 (q := 14) dX9_setWeight_11 mlX9_115 mdX9_isWeight (by decide) ⟨Nat.le_refl 0, Nat.le_refl 0⟩ (by exact Nat.le_of_ble_eq_true rfl) rfl (c_X9_isWeight w mem hw) ?_
    rintro _ _ ⟨rfl, rfl⟩
    refine v_if_neB (tgt := 20) (q := 17) dX9_setWeight_14 (by decide) rfl (fun h14 => ?_) (fun h14 => ?_)
    · refine v_aload_n (j := 0) (q := 21) rfl dX9_setWeight_20 rfl ?_
      refine v_getR (p' := 1) (q := 24) dX9_setWeight_21 fl_X9_12 kd_0 rfl (rfc_9_0 kd_0) rfl ?_
      refine v_iload_n (j := 1) (q := 25) rfl dX9_setWeight_24 rfl ?_
      refine v_iconst (q := 26) dX9_setWeight_25 rfl ?_
      refine v_cVI2 (q := 29) dX9_setWeight_26 mlX9_133 mdX4_part (by decide) kd_1 rfl rfl ⟨Nat.le_refl 0, Nat.le_refl 0⟩ (by exact Nat.le_of_ble_eq_true rfl) rfl (c_X4_part 1 k 4 mem su_1 (by omega) (by omega)) ?_
      rintro _ _ ⟨rfl, rfl⟩
      refine v_ist3 (q := 30) rfl dX9_setWeight_29 (by decide) rfl ?_
      refine v_aload_n (j := 0) (q := 31) rfl dX9_setWeight_30 rfl ?_
      refine v_cVV0 (q := 34) dX9_setWeight_31 mlX9_97 mdX9_recordChange (by decide) kd_0 rfl rfl ⟨Nat.le_refl 0, Nat.le_refl 0⟩ (by exact Nat.le_of_ble_eq_true rfl) rfl (c_X9_recordChange mem r3 r4 r5) ?_
      rintro _ rfl
      refine v_aload_n (j := 0) (q := 35) rfl dX9_setWeight_34 rfl ?_
      refine v_getR (p' := 1) (q := 38) dX9_setWeight_35 fl_X9_12 kd_0 rfl (rfc_9_0 kd_0) rfl ?_
      refine v_iload_n (j := 1) (q := 39) rfl dX9_setWeight_38 rfl ?_
      refine v_iload_n (j := 2) (q := 40) rfl dX9_setWeight_39 rfl ?_
      refine v_cVV2 (q := 43) dX9_setWeight_40 mlX9_137 mdX4_putWeight (by decide) kd_1 rfl rfl ⟨Nat.le_refl 0, Nat.le_refl 0⟩ (by exact Nat.le_of_ble_eq_true rfl) rfl (c_X4_putWeight 1 k w _ su_1 h5.1 (by omega)) ?_
      rintro _ rfl
      refine v_iload_n (j := 3) (q := 44) rfl dX9_setWeight_43 rfl ?_
      refine v_iret dX9_setWeight_44 ?_
      refine ⟨_, rfl, ?_⟩
      unfold sWeight
      rw [hc, if_pos h5, if_pos h14]
      have e0 : A.1.2.2.2.2.getD k.toNat (0, 0, 0, 0, 0) = rl5 (mem 2) (5 * (k.toNat : Int)) := by rw [a5, rls_getD _ _ (by omega), Int.zero_add]
      rw [e0]
      have e1 : (5 * (k.toNat : Int)) = k * 5 := by omega
      obtain ⟨m9, hm9⟩ : ∃ m9, um (fgM (recM mem)) 2 (k * 5 + 4) w = m9 := ⟨_, rfl⟩
      show CQ _ _ _ (mem 2 (k * 5 + 4)) (um (fgM (recM mem)) 2 (k * 5 + 4) w)
      rw [hm9]
      have k0 : ∀ r, r ≠ 1 → r ≠ 2 → m9 r = fgM (recM mem) r := fun r _ e2 => by rw [← hm9, um_ne _ _ _ e2]
      have k1 : m9 1 = mem 1 := by rw [← hm9, um_ne _ _ _ (by decide), g1]
      have k2 : m9 2 = ui (mem 2) (k * 5 + 4) w := by rw [← hm9, um_same, g2]
      have e9 := rls_setw (f := mem 2) (g := m9 2) (n := (mem 1 4).toNat) (k := k.toNat) (w := w) (by omega) (fun j hj => by rw [k2, ui_ne _ _ (by omega)]) (by rw [k2, e1, ui_same])
      have hm : rl5 (mem 2) (5 * (k.toNat : Int)) ∈ A.1.2.2.2.2 := by
        have := rls_at (mem 2) 0 (n := (mem 1 4).toNat) (k := k.toNat) (by omega)
        rw [Int.zero_add] at this
        rw [a5]
        exact List.mem_of_getElem? this
      have ok := h.1.2.2.1.2.2.2.2.2 _ hm
      have hS := g3.rules (m1 := m9) (l := (rls (mem 2) 0 (mem 1 4).toNat).set k.toNat (mem 2 (5 * (k.toNat : Int)), mem 2 (5 * (k.toNat : Int) + 1), mem 2 (5 * (k.toNat : Int) + 2), mem 2 (5 * (k.toNat : Int) + 3), w)) (fun j hj => by rw [k1, g1]) (by rw [k1]; omega) (by rw [k1, e9]) (fun r hr => by
        rcases List.mem_or_eq_of_mem_set hr with hr | rfl
        · exact h.1.2.2.1.2.2.2.2.2 r (by rw [a5]; exact hr)
        · exact ⟨ok.1, ok.2.1, ok.2.2.1, ok.2.2.2.1, h14⟩) (fun i i0 i1 => by
        rw [k2]
        unfold ui
        split
        · omega
        · exact h.1.2.2.2 i i0 i1)
      rw [← a5] at hS
      have := CQ_change (z := mem 2 (k * 5 + 4)) h k0 hS
      rw [← e1] at this ⊢
      exact this
    · refine v_bipush (q := 19) (by decide) dX9_setWeight_17 rfl ?_
      refine v_iret dX9_setWeight_19 ?_
      refine ⟨_, rfl, ?_⟩
      unfold sWeight
      rw [hc, if_pos h5, if_neg h14]
      exact ⟨rfl, h, Or.inr ⟨rfl, fun _ _ => rfl⟩⟩
  · refine v_iconst (q := 9) dX9_setWeight_8 rfl ?_
    refine v_iret dX9_setWeight_9 ?_
    refine ⟨_, rfl, ?_⟩
    unfold sWeight
    rw [hc, if_neg h5]
    exact ⟨rfl, h, Or.inr ⟨rfl, fun _ _ => rfl⟩⟩
