/-! ===== removeRule, setWeight, setStart, undo, told, rule, write, wipe ===== -/
theorem eA {m : Mem} {y : Sy} (h : SR m 1 y) : y.1 = m 1 0 ∧ y.2.1 = m 1 1 ∧ y.2.2.1 = m 1 2 ∧ y.2.2.2.1 = m 1 3 ∧ y.2.2.2.2 = rls (m 2) 0 (m 1 4).toNat ∧ (y.2.2.2.2.length : Int) = m 1 4 := by
  obtain ⟨rfl, c, -⟩ := h
  refine ⟨rfl, rfl, rfl, rfl, rfl, ?_⟩
  show ((rls _ _ _).length : Int) = _
  rw [rls_len]
  omega
theorem rls_erase {f g : Int → Int} {n k : Nat} (hk : k < n) (h1 : ∀ j : Int, j < 5 * (k : Int) → g j = f j) (h2 : ∀ j : Int, 5 * (k : Int) ≤ j → j < 5 * ((n : Int) - 1) → g j = f (j + 5)) : rls g 0 (n - 1) = (rls f 0 n).eraseIdx k := by
  apply List.ext_getElem?
  intro i
  by_cases hi : i < n - 1
  · rw [rls_at _ _ hi]
    by_cases hik : i < k
    · rw [List.getElem?_eraseIdx_of_lt hik, rls_at _ _ (by omega)]
      unfold rl5
      rw [h1 _ (by omega), h1 _ (by omega), h1 _ (by omega), h1 _ (by omega), h1 _ (by omega)]
    · rw [List.getElem?_eraseIdx_of_ge (by omega), rls_at _ _ (by omega)]
      unfold rl5
      rw [h2 _ (by omega) (by omega), h2 _ (by omega) (by omega), h2 _ (by omega) (by omega), h2 _ (by omega) (by omega), h2 _ (by omega) (by omega)]
      rw [show (0 : Int) + 5 * ((i + 1 : Nat) : Int) = 0 + 5 * (i : Int) + 5 by omega]
      rw [show (0 : Int) + 5 * (i : Int) + 5 + 1 = 0 + 5 * (i : Int) + 1 + 5 by omega, show (0 : Int) + 5 * (i : Int) + 5 + 2 = 0 + 5 * (i : Int) + 2 + 5 by omega, show (0 : Int) + 5 * (i : Int) + 5 + 3 = 0 + 5 * (i : Int) + 3 + 5 by omega, show (0 : Int) + 5 * (i : Int) + 5 + 4 = 0 + 5 * (i : Int) + 4 + 5 by omega]
  · rw [List.getElem?_eq_none (by rw [rls_len]; omega), List.getElem?_eq_none (by rw [List.length_eraseIdx, rls_len]; split <;> omega)]
theorem rls_setw {f g : Int → Int} {n k : Nat} {w : Int} (hk : k < n) (h1 : ∀ j : Int, j ≠ 5 * (k : Int) + 4 → g j = f j) (h2 : g (5 * (k : Int) + 4) = w) : rls g 0 n = (rls f 0 n).set k (f (5 * (k : Int)), f (5 * (k : Int) + 1), f (5 * (k : Int) + 2), f (5 * (k : Int) + 3), w) := by
  apply List.ext_getElem?
  intro i
  by_cases hi : i < n
  · rw [rls_at _ _ hi]
    by_cases hik : i = k
    · subst hik
      rw [List.getElem?_set_self (by rw [rls_len]; exact hi)]
      unfold rl5
      rw [Int.zero_add, h1 _ (by omega), h1 _ (by omega), h1 _ (by omega), h1 _ (by omega), h2]
    · rw [List.getElem?_set_ne (Ne.symm hik), rls_at _ _ hi]
      unfold rl5
      rw [h1 _ (by omega), h1 _ (by omega), h1 _ (by omega), h1 _ (by omega), h1 _ (by omega)]
  · rw [List.getElem?_eq_none (by rw [rls_len]; omega), List.getElem?_eq_none (by rw [List.length_set, rls_len]; omega)]
noncomputable def sRemove (A : AS) (k : Int) : Int × AS := by
  classical
  exact if 0 ≤ k ∧ k < A.1.2.2.2.2.length then ((A.1.2.2.2.2.length : Int) - 1, ((A.1.1, A.1.2.1, A.1.2.2.1, A.1.2.2.2.1, A.1.2.2.2.2.eraseIdx k.toNat), hpush A.2.1 A.1, A.2.2)) else (-1, A)
/-- the system at 1 with other rules, the rest as it was -/
theorem SR.rules {m m1 : Mem} {y : Sy} {l : List Rl} (h : SR m 1 y) (o : ∀ j, j ≠ 4 → m1 1 j = m 1 j) (c : 0 ≤ m1 1 4 ∧ m1 1 4 ≤ 20) (hl : l = rls (m1 2) 0 (m1 1 4).toNat) (ok : ∀ r ∈ l, okR y.1 y.2.1 r) (hr : ∀ i, 0 ≤ i → i < 100 → R32 (m1 2 i)) : SR m1 1 (y.1, y.2.1, y.2.2.1, y.2.2.2.1, l) := by
  obtain ⟨rfl, c0, ok0, r0⟩ := h
  refine ⟨?_, c, ⟨ok0.1, ok0.2.1, ok0.2.2.1, ok0.2.2.2.1, ?_, ok⟩, hr⟩
  · unfold syC
    rw [o 0 (by omega), o 1 (by omega), o 2 (by omega), o 3 (by omega), hl]
  · show l.length ≤ 20
    rw [hl, rls_len]
    omega
/-- behind a recorded change that touches the places 1 and 2 alone -/
theorem CQ_change {mem m : Mem} {A : AS} {y : Sy} {z : Int} (h : SI mem A) (k0 : ∀ r, r ≠ 1 → r ≠ 2 → m r = fgM (recM mem) r) (hS : SR m 1 y) : CQ mem A (z, (y, hpush A.2.1 A.1, A.2.2)) z m := by
  obtain ⟨r1, r2, -⟩ := h.rec
  exact ⟨rfl, ⟨hS, r1.2.1.congr (fun q a b => k0 q (by omega) (by omega)), r1.2.2.congr (k0 23 (by decide) (by decide)) (k0 24 (by decide) (by decide))⟩, Or.inl ⟨by rw [k0 0 (by decide) (by decide)]; exact r2.1, by rw [k0 42 (by decide) (by decide)]; exact r2.2.1, by rw [k0 83 (by decide) (by decide)]; exact r2.2.2.1, fun q hq => by rw [k0 q (by omega) (by omega)]; exact r2.2.2.2 q hq⟩⟩
theorem fgrec {m : Mem} {A : AS} (h : SI m A) : fgM (recM m) 1 = m 1 ∧ fgM (recM m) 2 = m 2 ∧ SR (fgM (recM m)) 1 A.1 := by
  refine ⟨by rw [fgM_ne _ (by decide) (by decide) (by decide), (h.2.1.rec h.1).2 1 (by omega)], by rw [fgM_ne _ (by decide) (by decide) (by decide), (h.2.1.rec h.1).2 2 (by omega)], h.rec.1.1⟩
theorem c_X9_removeRule (k : Int) (mem : Mem) (A : AS) (h : SI mem A) (hk : R32 k) : CtrI mX9_removeRule [aR 0, aI k] mem (CQ mem A (sRemove A k)) := by
  have f := h.1.facts
  obtain ⟨a1, a2, a3, a4, a5, hc⟩ := eA h.1
  obtain ⟨g1, g2, g3⟩ := fgrec h
  obtain ⟨-, -, r3, r4, r5⟩ := h.rec
  refine Ctr.ofV (ls := [aR 0, aI k]) rfl (by decide) rfl (Nat.le_of_ble_eq_true rfl) ?_
  refine v_aload_n (j := 0) (q := 1) rfl dX9_removeRule_0 rfl ?_
  refine v_iload_n (j := 1) (q := 2) rfl dX9_removeRule_1 rfl ?_
  refine v_cVI1 (q := 5) dX9_removeRule_2 mlX9_126 mdX9_isRule (by decide) kd_0 rfl rfl ⟨Nat.le_refl 0, Nat.le_refl 0⟩ (by exact Nat.le_of_ble_eq_true rfl) rfl (c_X9_isRule k mem hk (by omega)) ?_
  rintro _ _ ⟨rfl, rfl⟩
  refine v_if_neB (tgt := 10) (q := 8) dX9_removeRule_5 (by decide) rfl (fun h5 => ?_) (fun h5 => ?_)
  · refine v_aload_n (j := 0) (q := 11) rfl dX9_removeRule_10 rfl ?_
    refine v_cVV0 (q := 14) dX9_removeRule_11 mlX9_97 mdX9_recordChange (by decide) kd_0 rfl rfl ⟨Nat.le_refl 0, Nat.le_refl 0⟩ (by exact Nat.le_of_ble_eq_true rfl) rfl (c_X9_recordChange mem r3 r4 r5) ?_
    rintro _ rfl
    refine v_aload_n (j := 0) (q := 15) rfl dX9_removeRule_14 rfl ?_
    refine v_getR (p' := 1) (q := 18) dX9_removeRule_15 fl_X9_12 kd_0 rfl (rfc_9_0 kd_0) rfl ?_
    refine v_iload_n (j := 1) (q := 19) rfl dX9_removeRule_18 rfl ?_
    refine v_cVV1 (q := 22) dX9_removeRule_19 mlX9_129 mdX4_leaveOut (by decide) kd_1 rfl rfl ⟨Nat.le_refl 0, Nat.le_refl 0⟩ (by exact Nat.le_of_ble_eq_true rfl) rfl (c_X4_leaveOut 1 k _ su_1 h5.1 (by rw [g1]; exact h5.2) (by rw [g1]; omega)) ?_
    rintro _ rfl
    refine v_aload_n (j := 0) (q := 23) rfl dX9_removeRule_22 rfl ?_
    refine v_getR (p' := 1) (q := 26) dX9_removeRule_23 fl_X9_12 kd_0 rfl (rfc_9_0 kd_0) rfl ?_
    refine v_getI (j := 4) (q := 29) dX9_removeRule_26 fl_X9_93 kd_1 rfl rfl rfl ?_
    refine v_iret dX9_removeRule_29 ?_
    refine ⟨_, rfl, ?_⟩
    unfold sRemove
    rw [hc, if_pos h5, um_same, ui_same, g1]
    obtain ⟨m9, hm9⟩ : ∃ m9, um (cpm (fgM (recM mem)) 2 2 (k * 5 + 5) (k * 5) ((mem 1 4 - k - 1) * 5)) 1 4 (mem 1 4 - 1) = m9 := ⟨_, rfl⟩
    show CQ _ _ _ _ (um (cpm (fgM (recM mem)) 2 2 (k * 5 + 5) (k * 5) ((mem 1 4 - k - 1) * 5)) 1 4 (mem 1 4 - 1))
    rw [hm9]
    have k0 : ∀ r, r ≠ 1 → r ≠ 2 → m9 r = fgM (recM mem) r := fun r e1 e2 => by rw [← hm9, um_ne _ _ _ e1]; exact if_neg e2
    have k1 : m9 1 = ui (mem 1) 4 (mem 1 4 - 1) := by rw [← hm9, um_same, show cpm (fgM (recM mem)) 2 2 (k * 5 + 5) (k * 5) ((mem 1 4 - k - 1) * 5) 1 = fgM (recM mem) 1 from if_neg (by decide), g1]
    have k2 : ∀ j, m9 2 j = if k * 5 ≤ j ∧ j < k * 5 + (mem 1 4 - k - 1) * 5 then mem 2 (k * 5 + 5 + (j - k * 5)) else mem 2 j := fun j => by
      rw [← hm9, um_ne _ _ _ (by decide)]
      unfold cpm
      rw [if_pos rfl, g2]
    have e9 : rls (m9 2) 0 ((mem 1 4).toNat - 1) = (rls (mem 2) 0 (mem 1 4).toNat).eraseIdx k.toNat := by
      refine rls_erase (by omega) (fun j hj => ?_) (fun j hj hj2 => ?_)
      · rw [k2, if_neg (by omega)]
      · rw [k2, if_pos (by omega)]
        congr 1
        omega
    have e4 : m9 1 4 = mem 1 4 - 1 := by rw [k1, ui_same]
    have hS := g3.rules (m1 := m9) (l := (rls (mem 2) 0 (mem 1 4).toNat).eraseIdx k.toNat) (fun j hj => by rw [k1, ui_ne _ _ hj, g1]) (by rw [e4]; omega) (by rw [e4, show (mem 1 4 - 1).toNat = (mem 1 4).toNat - 1 by omega, e9]) (fun r hr => h.1.2.2.1.2.2.2.2.2 r (by rw [a5]; exact List.mem_of_mem_eraseIdx hr)) (fun i i0 i1 => by
      rw [k2]
      split
      · exact h.1.2.2.2 _ (by omega) (by omega)
      · exact h.1.2.2.2 _ i0 i1)
    rw [← a5] at hS
    exact CQ_change h k0 hS
  · refine v_iconst (q := 9) dX9_removeRule_8 rfl ?_
    refine v_iret dX9_removeRule_9 ?_
    refine ⟨_, rfl, ?_⟩
    unfold sRemove
    rw [hc, if_neg h5]
    exact ⟨rfl, h, Or.inr ⟨rfl, fun _ _ => rfl⟩⟩
noncomputable def sWeight (A : AS) (k w : Int) : Int × AS := by
  classical
  exact if 0 ≤ k ∧ k < A.1.2.2.2.2.length then (if 1 ≤ w ∧ w ≤ 20 then ((A.1.2.2.2.2.getD k.toNat (0, 0, 0, 0, 0)).2.2.2.2, ((A.1.1, A.1.2.1, A.1.2.2.1, A.1.2.2.2.1, A.1.2.2.2.2.set k.toNat ((A.1.2.2.2.2.getD k.toNat (0, 0, 0, 0, 0)).1, (A.1.2.2.2.2.getD k.toNat (0, 0, 0, 0, 0)).2.1, (A.1.2.2.2.2.getD k.toNat (0, 0, 0, 0, 0)).2.2.1, (A.1.2.2.2.2.getD k.toNat (0, 0, 0, 0, 0)).2.2.2.1, w)), hpush A.2.1 A.1, A.2.2)) else (-2, A)) else (-1, A)
theorem rls_getD (f : Int → Int) (o : Int) {n k : Nat} (h : k < n) : (rls f o n).getD k (0, 0, 0, 0, 0) = rl5 f (o + 5 * (k : Int)) := by rw [List.getD_eq_getElem?_getD, rls_at f o h]; rfl
theorem c_X9_setWeight (k w : Int) (mem : Mem) (A : AS) (h : SI mem A) (hk : R32 k) (hw : R32 w) : CtrI mX9_setWeight [aR 0, aI k, aI w] mem (CQ mem A (sWeight A k w)) := by
  have f := h.1.facts
  obtain ⟨a1, a2, a3, a4, a5, hc⟩ := eA h.1
  obtain ⟨g1, g2, g3⟩ := fgrec h
  obtain ⟨-, -, r3, r4, r5⟩ := h.rec
  refine Ctr.ofV (ls := [aR 0, aI k, aI w, aU]) rfl (by decide) rfl (Nat.le_of_ble_eq_true rfl) ?_
  refine v_aload_n (j := 0) (q := 1) rfl dX9_setWeight_0 rfl ?_
  refine v_iload_n (j := 1) (q := 2) rfl dX9_setWeight_1 rfl ?_
  refine v_cVI1 (q := 5) dX9_setWeight_2 mlX9_126 mdX9_isRule (by decide) kd_0 rfl rfl ⟨Nat.le_refl 0, Nat.le_refl 0⟩ (by exact Nat.le_of_ble_eq_true rfl) rfl (c_X9_isRule k mem hk (by omega)) ?_
  rintro _ _ ⟨rfl, rfl⟩
  refine v_if_neB (tgt := 10) (q := 8) dX9_setWeight_5 (by decide) rfl (fun h5 => ?_) (fun h5 => ?_)
  · refine v_iload_n (j := 2) (q := 11) rfl dX9_setWeight_10 rfl ?_
    refine v_cSI1 (q := 14) dX9_setWeight_11 mlX9_115 mdX9_isWeight (by decide) ⟨Nat.le_refl 0, Nat.le_refl 0⟩ (by exact Nat.le_of_ble_eq_true rfl) rfl (c_X9_isWeight w mem hw) ?_
    rintro _ _ ⟨rfl, rfl⟩
    refine v_if_neB (tgt := 20) (q := 17) dX9_setWeight_14 (by decide) rfl (fun h14 => ?_) (fun h14 => ?_)
    · refine v_aload_n (j := 0) (q := 21) rfl dX9_setWeight_20 rfl ?_
      refine v_getR (p' := 1) (q := 24) dX9_setWeight_21 fl_X9_12 kd_0 rfl (rfc_9_0 kd_0) rfl ?_
      refine v_iload_n (j := 1) (q := 25) rfl dX9_setWeight_24 rfl ?_
      refine v_iconst (q := 26) dX9_setWeight_25 rfl ?_
      refine v_cVI2 (q := 29) dX9_setWeight_26 mlX9_133 mdX4_part (by decide) kd_1 rfl rfl ⟨Nat.le_refl 0, Nat.le_refl 0⟩ (by exact Nat.le_of_ble_eq_true rfl) rfl (c_X4_part 1 k 4 mem su_1 (by omega) (by omega)) ?_
      rintro _ _ ⟨rfl, rfl⟩
      refine v_ist3 (q := 30) rfl dX9_setWeight_29 (by decide) rfl ?_
      refine v_aload_n (j := 0) (q := 31) rfl dX9_setWeight_30 rfl ?_
      refine v_cVV0 (q := 34) dX9_setWeight_31 mlX9_97 mdX9_recordChange (by decide) kd_0 rfl rfl ⟨Nat.le_refl 0, Nat.le_refl 0⟩ (by exact Nat.le_of_ble_eq_true rfl) rfl (c_X9_recordChange mem r3 r4 r5) ?_
      rintro _ rfl
      refine v_aload_n (j := 0) (q := 35) rfl dX9_setWeight_34 rfl ?_
      refine v_getR (p' := 1) (q := 38) dX9_setWeight_35 fl_X9_12 kd_0 rfl (rfc_9_0 kd_0) rfl ?_
      refine v_iload_n (j := 1) (q := 39) rfl dX9_setWeight_38 rfl ?_
      refine v_iload_n (j := 2) (q := 40) rfl dX9_setWeight_39 rfl ?_
      refine v_cVV2 (q := 43) dX9_setWeight_40 mlX9_137 mdX4_putWeight (by decide) kd_1 rfl rfl ⟨Nat.le_refl 0, Nat.le_refl 0⟩ (by exact Nat.le_of_ble_eq_true rfl) rfl (c_X4_putWeight 1 k w _ su_1 h5.1 (by omega)) ?_
      rintro _ rfl
      refine v_iload_n (j := 3) (q := 44) rfl dX9_setWeight_43 rfl ?_
      refine v_iret dX9_setWeight_44 ?_
      refine ⟨_, rfl, ?_⟩
      unfold sWeight
      rw [hc, if_pos h5, if_pos h14]
      have e0 : A.1.2.2.2.2.getD k.toNat (0, 0, 0, 0, 0) = rl5 (mem 2) (5 * (k.toNat : Int)) := by rw [a5, rls_getD _ _ (by omega), Int.zero_add]
      rw [e0]
      have e1 : (5 * (k.toNat : Int)) = k * 5 := by omega
      obtain ⟨m9, hm9⟩ : ∃ m9, um (fgM (recM mem)) 2 (k * 5 + 4) w = m9 := ⟨_, rfl⟩
      show CQ _ _ _ (mem 2 (k * 5 + 4)) (um (fgM (recM mem)) 2 (k * 5 + 4) w)
      rw [hm9]
      have k0 : ∀ r, r ≠ 1 → r ≠ 2 → m9 r = fgM (recM mem) r := fun r _ e2 => by rw [← hm9, um_ne _ _ _ e2]
      have k1 : m9 1 = mem 1 := by rw [← hm9, um_ne _ _ _ (by decide), g1]
      have k2 : m9 2 = ui (mem 2) (k * 5 + 4) w := by rw [← hm9, um_same, g2]
      have e9 := rls_setw (f := mem 2) (g := m9 2) (n := (mem 1 4).toNat) (k := k.toNat) (w := w) (by omega) (fun j hj => by rw [k2, ui_ne _ _ (by omega)]) (by rw [k2, e1, ui_same])
      have hm : rl5 (mem 2) (5 * (k.toNat : Int)) ∈ A.1.2.2.2.2 := by
        have := rls_at (mem 2) 0 (n := (mem 1 4).toNat) (k := k.toNat) (by omega)
        rw [Int.zero_add] at this
        rw [a5]
        exact List.mem_of_getElem? this
      have ok := h.1.2.2.1.2.2.2.2.2 _ hm
      have hS := g3.rules (m1 := m9) (l := (rls (mem 2) 0 (mem 1 4).toNat).set k.toNat (mem 2 (5 * (k.toNat : Int)), mem 2 (5 * (k.toNat : Int) + 1), mem 2 (5 * (k.toNat : Int) + 2), mem 2 (5 * (k.toNat : Int) + 3), w)) (fun j hj => by rw [k1, g1]) (by rw [k1]; omega) (by rw [k1, e9]) (fun r hr => by
        rcases List.mem_or_eq_of_mem_set hr with hr | rfl
        · exact h.1.2.2.1.2.2.2.2.2 r (by rw [a5]; exact hr)
        · exact ⟨ok.1, ok.2.1, ok.2.2.1, ok.2.2.2.1, h14⟩) (fun i i0 i1 => by
        rw [k2]
        unfold ui
        split
        · omega
        · exact h.1.2.2.2 i i0 i1)
      rw [← a5] at hS
      have := CQ_change (z := mem 2 (k * 5 + 4)) h k0 hS
      rw [← e1] at this ⊢
      exact this
    · refine v_bipush (q := 19) (by decide) dX9_setWeight_17 rfl ?_
      refine v_iret dX9_setWeight_19 ?_
      refine ⟨_, rfl, ?_⟩
      unfold sWeight
      rw [hc, if_pos h5, if_neg h14]
      exact ⟨rfl, h, Or.inr ⟨rfl, fun _ _ => rfl⟩⟩
  · refine v_iconst (q := 9) dX9_setWeight_8 rfl ?_
    refine v_iret dX9_setWeight_9 ?_
    refine ⟨_, rfl, ?_⟩
    unfold sWeight
    rw [hc, if_neg h5]
    exact ⟨rfl, h, Or.inr ⟨rfl, fun _ _ => rfl⟩⟩
noncomputable def sStart (A : AS) (p w : Int) : Int × AS := by
  classical
  exact if (0 ≤ p ∧ p < A.1.1) ∧ isW w A.1.2.1 ∧ 1 ≤ nd w ∧ nd w ≤ 4 then (nd A.1.2.2.2.1, ((A.1.1, A.1.2.1, p, w, A.1.2.2.2.2), hpush A.2.1 A.1, A.2.2)) else (-1, A)
theorem c_X9_setStart (p w : Int) (mem : Mem) (A : AS) (h : SI mem A) (hp : R32 p) (hw : R32 w) : CtrI mX9_setStart [aR 0, aI p, aI w] mem (CQ mem A (sStart A p w)) := by
  have f := h.1.facts
  obtain ⟨a1, a2, a3, a4, a5, hc⟩ := eA h.1
  have bad : ∀ m, (∀ q, q ≠ 25 → q ≠ 26 → m q = mem q) → ¬ ((0 ≤ p ∧ p < mem 1 0) ∧ isW w (mem 1 1) ∧ 1 ≤ nd w ∧ nd w ≤ 4) → CQ mem A (sStart A p w) (-1) m := fun m hm hb => by
    unfold sStart
    rw [a1, a2, if_neg hb]
    exact ⟨rfl, h.wd hm, Or.inr ⟨rfl, fr29_wd hm⟩⟩
  refine Ctr.ofV (ls := [aR 0, aI p, aI w, aU]) rfl (by decide) rfl (Nat.le_of_ble_eq_true rfl) ?_
  refine v_aload_n (j := 0) (q := 1) rfl dX9_setStart_0 rfl ?_
  refine v_iload_n (j := 1) (q := 2) rfl dX9_setStart_1 rfl ?_
  refine v_cVI1 (q := 5) dX9_setStart_2 mlX9_104 mdX9_isState (by decide) kd_0 rfl rfl ⟨Nat.le_refl 0, Nat.le_refl 0⟩ (by exact Nat.le_of_ble_eq_true rfl) rfl (c_X9_isState p mem hp (by omega)) ?_
  rintro _ _ ⟨rfl, rfl⟩
  refine v_if_eqB (tgt := 18) (q := 8) dX9_setStart_5 (by decide) rfl (fun h5 => ?_) (fun h5 => ?_)
  · refine v_iconst (q := 19) dX9_setStart_18 rfl ?_
    refine v_iret dX9_setStart_19 ?_
    exact ⟨_, rfl, by first | exact bad _ (fun _ _ _ => rfl) (fun hb => h5 hb.1) | exact bad _ t1 (fun hb => h15 hb.2)⟩
  · refine v_aload_n (j := 0) (q := 9) rfl dX9_setStart_8 rfl ?_
    refine v_iload_n (j := 2) (q := 10) rfl dX9_setStart_9 rfl ?_
    refine v_iconst (q := 11) dX9_setStart_10 rfl ?_
    refine v_iconst (q := 12) dX9_setStart_11 rfl ?_
    refine v_cVI3 (q := 15) dX9_setStart_12 mlX9_111 mdX9_isWord (by decide) kd_0 rfl rfl ⟨Nat.le_refl 0, Nat.le_refl 0⟩ (by exact Nat.le_of_ble_eq_true rfl) rfl (c_X9_isWord w 1 4 mem hw (by omega) (by omega) (by omega)) ?_
    rintro _ m1 ⟨rfl, t1, t2⟩
    refine v_if_neB (tgt := 20) (q := 18) dX9_setStart_15 (by decide) rfl (fun h15 => ?_) (fun h15 => ?_)
    · have h1 : SI m1 A := h.wd t1
      have m11 : m1 1 = mem 1 := t1 1 (by decide) (by decide)
      have m12 : m1 2 = mem 2 := t1 2 (by decide) (by decide)
      obtain ⟨r1, r2, r3, r4, r5⟩ := h1.rec
      obtain ⟨g1, g2, g3⟩ := fgrec h1
      refine v_aload_n (j := 0) (q := 21) rfl dX9_setStart_20 rfl ?_
      refine v_getR (p' := 1) (q := 24) dX9_setStart_21 fl_X9_12 kd_0 rfl (rfc_9_0 kd_0) rfl ?_
      refine v_getI (j := 3) (q := 27) dX9_setStart_24 fl_X9_140 kd_1 rfl rfl rfl ?_
      refine v_cSI1 (q := 30) dX9_setStart_27 mlX9_143 mdX9_digitsOf (by decide) ⟨Nat.le_refl 0, Nat.le_refl 0⟩ (by exact Nat.le_of_ble_eq_true rfl) rfl (c_X9_digitsOf _ m1 (by rw [m11]; omega)) ?_
      rintro _ _ ⟨rfl, rfl⟩
      refine v_ist3 (q := 31) rfl dX9_setStart_30 (by decide) rfl ?_
      refine v_aload_n (j := 0) (q := 32) rfl dX9_setStart_31 rfl ?_
      refine v_cVV0 (q := 35) dX9_setStart_32 mlX9_97 mdX9_recordChange (by decide) kd_0 rfl rfl ⟨Nat.le_refl 0, Nat.le_refl 0⟩ (by exact Nat.le_of_ble_eq_true rfl) rfl (c_X9_recordChange m1 r3 r4 r5) ?_
      rintro _ rfl
      refine v_aload_n (j := 0) (q := 36) rfl dX9_setStart_35 rfl ?_
      refine v_getR (p' := 1) (q := 39) dX9_setStart_36 fl_X9_12 kd_0 rfl (rfc_9_0 kd_0) rfl ?_
      refine v_iload_n (j := 1) (q := 40) rfl dX9_setStart_39 rfl ?_
      refine v_putI (j := 2) (q := 43) dX9_setStart_40 fl_X9_147 kd_1 rfl rfl rfl ?_
      refine v_aload_n (j := 0) (q := 44) rfl dX9_setStart_43 rfl ?_
      refine v_getR (p' := 1) (q := 47) dX9_setStart_44 fl_X9_12 kd_0 rfl (rfc_9_0 kd_0) rfl ?_
      refine v_iload_n (j := 2) (q := 48) rfl dX9_setStart_47 rfl ?_
      refine v_putI (j := 3) (q := 51) dX9_setStart_48 fl_X9_140 kd_1 rfl rfl rfl ?_
      refine v_iload_n (j := 3) (q := 52) rfl dX9_setStart_51 rfl ?_
      refine v_iret dX9_setStart_52 ?_
      refine ⟨_, rfl, ?_⟩
      unfold sStart
      rw [a1, a2, if_pos ⟨h5, h15⟩, a4, m11]
      obtain ⟨m9, hm9⟩ : ∃ m9, um (um (fgM (recM m1)) 1 2 p) 1 3 w = m9 := ⟨_, rfl⟩
      rw [hm9]
      have k0 : ∀ r, r ≠ 1 → r ≠ 2 → m9 r = fgM (recM m1) r := fun r e1 _ => by rw [← hm9, um_ne _ _ _ e1, um_ne _ _ _ e1]
      have k1 : m9 1 = ui (ui (mem 1) 2 p) 3 w := by rw [← hm9, um_same, um_same, g1, m11]
      have k2 : m9 2 = mem 2 := by rw [← hm9, um_ne _ _ _ (by decide), um_ne _ _ _ (by decide), g2, m12]
      have kj : ∀ j, j ≠ 2 → j ≠ 3 → m9 1 j = mem 1 j := fun j e1 e2 => by rw [k1, ui_ne _ _ e2, ui_ne _ _ e1]
      have hS : SR m9 1 (mem 1 0, mem 1 1, p, w, A.1.2.2.2.2) := by
        obtain ⟨ea, c, ok, r⟩ := h.1
        refine ⟨?_, by rw [kj 4 (by omega) (by omega)]; exact c, ?_, by rw [show (1 + 1 : Nat) = 2 from rfl, k2]; exact r⟩
        · unfold syC
          rw [kj 0 (by omega) (by omega), kj 1 (by omega) (by omega), kj 4 (by omega) (by omega), show (1 + 1 : Nat) = 2 from rfl, k2, a5, k1, ui_same, ui_ne _ _ (by omega), ui_same]
        · have o5 := ok.2.2.2.2
          rw [a1, a2] at o5
          exact ⟨f.1, f.2.1, h5, h15, o5⟩
      have := CQ_change (z := nd (mem 1 3)) h1 k0 hS
      exact ⟨this.1, this.2.1, Or.inl (this.2.2.elim (fun x => frC.wd t1 x) (fun x => by
        have e := h1.rec.2.1
        exact frC.wd t1 ⟨by rw [k0 0 (by decide) (by decide)]; exact e.1, by rw [k0 42 (by decide) (by decide)]; exact e.2.1, by rw [k0 83 (by decide) (by decide)]; exact e.2.2.1, fun q hq => by rw [k0 q (by omega) (by omega)]; exact e.2.2.2 q hq⟩))⟩
    · refine v_iconst (q := 19) dX9_setStart_18 rfl ?_
      refine v_iret dX9_setStart_19 ?_
      exact ⟨_, rfl, by first | exact bad _ (fun _ _ _ => rfl) (fun hb => h5 hb.1) | exact bad _ t1 (fun hb => h15 hb.2)⟩
noncomputable def sUndo (A : AS) : Int × AS := by
  classical
  exact if h : A.2.1.length = 0 then (-5, A) else ((A.2.1.length : Int) - 1, (A.2.1[A.2.1.length - 1]'(by omega), A.2.1.take (A.2.1.length - 1), A.2.2))
theorem c_X9_undo (mem : Mem) (A : AS) (h : SI mem A) : CtrI mX9_undo [aR 0] mem (CQ mem A (sUndo A)) := by
  have e1 := h.2.1.2.1
  have e2 := h.2.1.2.2.1
  refine Ctr.ofV (ls := [aR 0]) rfl (by decide) rfl (Nat.le_of_ble_eq_true rfl) ?_
  refine v_aload_n (j := 0) (q := 1) rfl dX9_undo_0 rfl ?_
  refine v_getR (p' := 5) (q := 4) dX9_undo_1 fl_X9_22 kd_0 rfl (rfc_9_2 kd_0) rfl ?_
  refine v_getI (j := 0) (q := 7) dX9_undo_4 fl_X9_150 kd_5 rfl rfl rfl ?_
  refine v_if_ne (tgt := 13) (q := 10) dX9_undo_7 (by decide) rfl (by omega) (fun h7 => ?_) (fun h7 => ?_)
  · refine v_aload_n (j := 0) (q := 14) rfl dX9_undo_13 rfl ?_
    refine v_getR (p' := 5) (q := 17) dX9_undo_14 fl_X9_22 kd_0 rfl (rfc_9_2 kd_0) rfl ?_
    refine v_aload_n (j := 0) (q := 18) rfl dX9_undo_17 rfl ?_
    refine v_getR (p' := 1) (q := 21) dX9_undo_18 fl_X9_12 kd_0 rfl (rfc_9_0 kd_0) rfl ?_
    refine v_cVV1 (q := 24) dX9_undo_21 mlX9_153 mdX0_restore (by decide) kd_5 rfl rfl ⟨Nat.le_refl 0, Nat.le_refl 0⟩ (by exact Nat.le_of_ble_eq_true rfl) rfl (c_X0_restore mem h.2.1.1 (by omega) (by omega)) ?_
    rintro _ rfl
    refine v_aload_n (j := 0) (q := 25) rfl dX9_undo_24 rfl ?_
    refine v_cVV0 (q := 28) dX9_undo_25 mlX9_157 mdX9_forgetAnswers (by decide) kd_0 rfl rfl ⟨Nat.le_refl 0, Nat.le_refl 0⟩ (by exact Nat.le_of_ble_eq_true rfl) rfl (c_X9_forgetAnswers _) ?_
    rintro _ rfl
    refine v_aload_n (j := 0) (q := 29) rfl dX9_undo_28 rfl ?_
    refine v_getR (p' := 5) (q := 32) dX9_undo_29 fl_X9_22 kd_0 rfl (rfc_9_2 kd_0) rfl ?_
    refine v_getI (j := 0) (q := 35) dX9_undo_32 fl_X9_150 kd_5 rfl rfl rfl ?_
    refine v_iret dX9_undo_35 ?_
    refine ⟨_, rfl, ?_⟩
    unfold sUndo
    rw [dif_neg (by omega)]
    obtain ⟨b1, b2, b3⟩ := h.2.1.res (by omega)
    have b5 : resM mem 5 0 = mem 5 0 - 1 := by
      have := b1.2.1
      rw [this]
      simp
      omega
    have fc := fgM_frC (resM mem)
    refine ⟨by rw [fgM_ne _ (by decide) (by decide) (by decide), b5]; show (A.2.1.length : Int) - 1 = _; omega, ?_, Or.inl ⟨fc.1, by rw [fc.2.1, b3 42 (by omega)], fc.2.2.1, fun q hq => by rw [fc.2.2.2 q hq, b3 q (by omega)]⟩⟩
    have hs : SI (resM mem) (A.2.1[A.2.1.length - 1]'(by omega), A.2.1.take (A.2.1.length - 1), A.2.2) := ⟨b2, b1, h.2.2.congr (b3 23 (by omega)) (b3 24 (by omega))⟩
    exact hs.congr (fun q a b _ _ => fgM_ne _ (by omega) (by omega) (by omega))
  · refine v_bipush (q := 12) (by decide) dX9_undo_10 rfl ?_
    refine v_iret dX9_undo_12 ?_
    refine ⟨_, rfl, ?_⟩
    unfold sUndo
    rw [dif_pos (by omega)]
    exact ⟨rfl, h, Or.inr ⟨rfl, fun _ _ => rfl⟩⟩
/-! told, rule -/
def cntR (l : List Rl) (z : Int) : Int := (l.countP (fun r => nd r.2.2.2.1 = z) : Int)
theorem cntW_rls (f : Int → Int) (z : Int) : ∀ n : Nat, cntW f z n = cntR (rls f 0 n) z
  | 0 => rfl
  | n + 1 => by
    rw [cntW_succ, cntW_rls f z n]
    unfold cntR
    rw [rls_succ, List.countP_append, List.countP_singleton, Int.zero_add]
    show _ + (if nd (f ((n : Int) * 5 + 3)) = z then 1 else 0) = (((List.countP _ _) + (if decide (nd (f (5 * (n : Int) + 3)) = z) = true then 1 else 0) : Nat) : Int)
    rw [show (n : Int) * 5 + 3 = 5 * (n : Int) + 3 by omega]
    by_cases h : nd (f (5 * (n : Int) + 3)) = z
    · rw [if_pos h, if_pos (by simpa using h)]; omega
    · rw [if_neg h, if_neg (by simpa using h)]; omega
noncomputable def sTold (A : AS) (w : Int) : Int := by
  classical
  exact if w = 0 then A.1.1 else if w = 1 then A.1.2.1 else if w = 2 then A.1.2.2.2.2.length else if w = 3 then A.1.2.2.1 else if w = 4 then A.1.2.2.2.1 else if 5 ≤ w ∧ w ≤ 7 then cntR A.1.2.2.2.2 (w - 5) else -2
theorem CQ_same {mem : Mem} {A : AS} {z : Int} (h : SI mem A) : CQ mem A (z, A) z mem := ⟨rfl, h, Or.inr ⟨rfl, fun _ _ => rfl⟩⟩
theorem c_X9_told (w : Int) (mem : Mem) (A : AS) (h : SI mem A) (hw : R32 w) : CtrI mX9_told [aR 0, aI w] mem (CQ mem A (sTold A w, A)) := by
  have f := h.1.facts
  obtain ⟨a1, a2, a3, a4, a5, hc⟩ := eA h.1
  have key : ∀ z, sTold A w = z → ∃ z', aI z = aI z' ∧ CQ mem A (sTold A w, A) z' mem := fun z hz => ⟨z, rfl, by rw [hz]; exact CQ_same h⟩
  refine Ctr.ofV (ls := [aR 0, aI w]) rfl (by decide) rfl (Nat.le_of_ble_eq_true rfl) ?_
  refine v_iload_n (j := 1) (q := 1) rfl dX9_told_0 rfl ?_
  rcases (show (w < 0 ∨ 7 < w) ∨ w = 0 ∨ w = 1 ∨ w = 2 ∨ w = 3 ∨ w = 4 ∨ w = 5 ∨ w = 6 ∨ w = 7 by omega) with hsw | rfl | rfl | rfl | rfl | rfl | rfl | rfl | rfl
  · refine v_tableOut (tgt := 115) dX9_told_1 (by omega) hsw (by decide) ?_
    refine v_bipush (q := 117) (by decide) dX9_told_115 rfl ?_
    refine v_iret dX9_told_117 ?_
    refine key _ ?_
    unfold sTold
    rw [if_neg (by omega), if_neg (by omega), if_neg (by omega), if_neg (by omega), if_neg (by omega), if_neg (by omega)]
  · refine v_tableIn (tgt := 48) dX9_told_1 (by omega) (by omega) (by omega) rfl (by decide) ?_
    refine v_aload_n (j := 0) (q := 49) rfl dX9_told_48 rfl ?_
    refine v_getR (p' := 1) (q := 52) dX9_told_49 fl_X9_12 kd_0 rfl (rfc_9_0 kd_0) rfl ?_
    refine v_getI (j := 0) (q := 55) dX9_told_52 fl_X9_160 kd_1 rfl rfl rfl ?_
    refine v_iret dX9_told_55 ?_
    refine key _ ?_
    unfold sTold
    rw [if_pos rfl, a1]
  · refine v_tableIn (tgt := 56) dX9_told_1 (by omega) (by omega) (by omega) rfl (by decide) ?_
    refine v_aload_n (j := 0) (q := 57) rfl dX9_told_56 rfl ?_
    refine v_getR (p' := 1) (q := 60) dX9_told_57 fl_X9_12 kd_0 rfl (rfc_9_0 kd_0) rfl ?_
    refine v_getI (j := 1) (q := 63) dX9_told_60 fl_X9_163 kd_1 rfl rfl rfl ?_
    refine v_iret dX9_told_63 ?_
    refine key _ ?_
    unfold sTold
    rw [if_neg (by omega), if_pos rfl, a2]
  · refine v_tableIn (tgt := 64) dX9_told_1 (by omega) (by omega) (by omega) rfl (by decide) ?_
    refine v_aload_n (j := 0) (q := 65) rfl dX9_told_64 rfl ?_
    refine v_getR (p' := 1) (q := 68) dX9_told_65 fl_X9_12 kd_0 rfl (rfc_9_0 kd_0) rfl ?_
    refine v_getI (j := 4) (q := 71) dX9_told_68 fl_X9_93 kd_1 rfl rfl rfl ?_
    refine v_iret dX9_told_71 ?_
    refine key _ ?_
    unfold sTold
    rw [if_neg (by omega), if_neg (by omega), if_pos rfl, hc]
  · refine v_tableIn (tgt := 72) dX9_told_1 (by omega) (by omega) (by omega) rfl (by decide) ?_
    refine v_aload_n (j := 0) (q := 73) rfl dX9_told_72 rfl ?_
    refine v_getR (p' := 1) (q := 76) dX9_told_73 fl_X9_12 kd_0 rfl (rfc_9_0 kd_0) rfl ?_
    refine v_getI (j := 2) (q := 79) dX9_told_76 fl_X9_147 kd_1 rfl rfl rfl ?_
    refine v_iret dX9_told_79 ?_
    refine key _ ?_
    unfold sTold
    rw [if_neg (by omega), if_neg (by omega), if_neg (by omega), if_pos rfl, a3]
  · refine v_tableIn (tgt := 80) dX9_told_1 (by omega) (by omega) (by omega) rfl (by decide) ?_
    refine v_aload_n (j := 0) (q := 81) rfl dX9_told_80 rfl ?_
    refine v_getR (p' := 1) (q := 84) dX9_told_81 fl_X9_12 kd_0 rfl (rfc_9_0 kd_0) rfl ?_
    refine v_getI (j := 3) (q := 87) dX9_told_84 fl_X9_140 kd_1 rfl rfl rfl ?_
    refine v_iret dX9_told_87 ?_
    refine key _ ?_
    unfold sTold
    rw [if_neg (by omega), if_neg (by omega), if_neg (by omega), if_neg (by omega), if_pos rfl, a4]
  · refine v_tableIn (tgt := 88) dX9_told_1 (by omega) (by omega) (by omega) rfl (by decide) ?_
    refine v_aload_n (j := 0) (q := 89) rfl dX9_told_88 rfl ?_
    refine v_getR (p' := 1) (q := 92) dX9_told_89 fl_X9_12 kd_0 rfl (rfc_9_0 kd_0) rfl ?_
    refine v_iconst (q := 93) dX9_told_92 rfl ?_
    refine v_cVI1 (q := 96) dX9_told_93 mlX9_166 mdX4_rulesWithWordOf (by decide) kd_1 rfl rfl ⟨Nat.le_refl 0, Nat.le_refl 0⟩ (by exact Nat.le_of_ble_eq_true rfl) rfl (c_X4_rulesWithWordOf 1 0 mem su_1 (by omega) (by omega) (by omega) h.1.2.2.2) ?_
    rintro _ _ ⟨rfl, rfl⟩
    refine v_iret dX9_told_96 ?_
    refine key _ ?_
    unfold sTold
    rw [if_neg (by omega), if_neg (by omega), if_neg (by omega), if_neg (by omega), if_neg (by omega), if_pos (by omega), a5, ← cntW_rls]
    rfl
  · refine v_tableIn (tgt := 97) dX9_told_1 (by omega) (by omega) (by omega) rfl (by decide) ?_
    refine v_aload_n (j := 0) (q := 98) rfl dX9_told_97 rfl ?_
    refine v_getR (p' := 1) (q := 101) dX9_told_98 fl_X9_12 kd_0 rfl (rfc_9_0 kd_0) rfl ?_
    refine v_iconst (q := 102) dX9_told_101 rfl ?_
    refine v_cVI1 (q := 105) dX9_told_102 mlX9_166 mdX4_rulesWithWordOf (by decide) kd_1 rfl rfl ⟨Nat.le_refl 0, Nat.le_refl 0⟩ (by exact Nat.le_of_ble_eq_true rfl) rfl (c_X4_rulesWithWordOf 1 1 mem su_1 (by omega) (by omega) (by omega) h.1.2.2.2) ?_
    rintro _ _ ⟨rfl, rfl⟩
    refine v_iret dX9_told_105 ?_
    refine key _ ?_
    unfold sTold
    rw [if_neg (by omega), if_neg (by omega), if_neg (by omega), if_neg (by omega), if_neg (by omega), if_pos (by omega), a5, ← cntW_rls]
    rfl
  · refine v_tableIn (tgt := 106) dX9_told_1 (by omega) (by omega) (by omega) rfl (by decide) ?_
    refine v_aload_n (j := 0) (q := 107) rfl dX9_told_106 rfl ?_
    refine v_getR (p' := 1) (q := 110) dX9_told_107 fl_X9_12 kd_0 rfl (rfc_9_0 kd_0) rfl ?_
    refine v_iconst (q := 111) dX9_told_110 rfl ?_
    refine v_cVI1 (q := 114) dX9_told_111 mlX9_166 mdX4_rulesWithWordOf (by decide) kd_1 rfl rfl ⟨Nat.le_refl 0, Nat.le_refl 0⟩ (by exact Nat.le_of_ble_eq_true rfl) rfl (c_X4_rulesWithWordOf 1 2 mem su_1 (by omega) (by omega) (by omega) h.1.2.2.2) ?_
    rintro _ _ ⟨rfl, rfl⟩
    refine v_iret dX9_told_114 ?_
    refine key _ ?_
    unfold sTold
    rw [if_neg (by omega), if_neg (by omega), if_neg (by omega), if_neg (by omega), if_neg (by omega), if_pos (by omega), a5, ← cntW_rls]
    rfl
def cmpR (r : Rl) (w : Int) : Int := if w = 0 then r.1 else if w = 1 then r.2.1 else if w = 2 then r.2.2.1 else if w = 3 then r.2.2.2.1 else r.2.2.2.2
theorem cmpR_rl5 (f : Int → Int) (o w : Int) (h0 : 0 ≤ w) (h1 : w ≤ 4) : cmpR (rl5 f o) w = f (o + w) := by
  rcases (show w = 0 ∨ w = 1 ∨ w = 2 ∨ w = 3 ∨ w = 4 by omega) with rfl | rfl | rfl | rfl | rfl
  · rw [Int.add_zero]; rfl
  · rfl
  · rfl
  · rfl
  · rfl
noncomputable def sRule (A : AS) (k w : Int) : Int := by
  classical
  exact if 0 ≤ k ∧ k < A.1.2.2.2.2.length then (if 0 ≤ w ∧ w ≤ 4 then cmpR (A.1.2.2.2.2.getD k.toNat (0, 0, 0, 0, 0)) w else -2) else -1
theorem c_X9_rule (k w : Int) (mem : Mem) (A : AS) (h : SI mem A) (hk : R32 k) (hw : R32 w) : CtrI mX9_rule [aR 0, aI k, aI w] mem (CQ mem A (sRule A k w, A)) := by
  have f := h.1.facts
  obtain ⟨a1, a2, a3, a4, a5, hc⟩ := eA h.1
  have key : ∀ z, sRule A k w = z → ∃ z', aI z = aI z' ∧ CQ mem A (sRule A k w, A) z' mem := fun z hz => ⟨z, rfl, by rw [hz]; exact CQ_same h⟩
  refine Ctr.ofV (ls := [aR 0, aI k, aI w]) rfl (by decide) rfl (Nat.le_of_ble_eq_true rfl) ?_
  refine v_aload_n (j := 0) (q := 1) rfl dX9_rule_0 rfl ?_
  refine v_iload_n (j := 1) (q := 2) rfl dX9_rule_1 rfl ?_
  refine v_cVI1 (q := 5) dX9_rule_2 mlX9_126 mdX9_isRule (by decide) kd_0 rfl rfl ⟨Nat.le_refl 0, Nat.le_refl 0⟩ (by exact Nat.le_of_ble_eq_true rfl) rfl (c_X9_isRule k mem hk (by omega)) ?_
  rintro _ _ ⟨rfl, rfl⟩
  refine v_if_neB (tgt := 10) (q := 8) dX9_rule_5 (by decide) rfl (fun h5 => ?_) (fun h5 => ?_)
  · refine v_iload_n (j := 2) (q := 11) rfl dX9_rule_10 rfl ?_
    refine v_if_lt (tgt := 19) (q := 14) dX9_rule_11 (by decide) rfl (by omega) (fun h11 => ?_) (fun h11 => ?_)
    · refine v_bipush (q := 21) (by decide) dX9_rule_19 rfl ?_
      refine v_iret dX9_rule_21 ?_
      refine key _ ?_
      unfold sRule
      rw [hc, if_pos h5, if_neg (by omega)]
    · refine v_iload_n (j := 2) (q := 15) rfl dX9_rule_14 rfl ?_
      refine v_iconst (q := 16) dX9_rule_15 rfl ?_
      refine v_icmp_lt (tgt := 22) (q := 19) dX9_rule_16 (by decide) rfl (by omega) (by omega) (fun h16 => ?_) (fun h16 => ?_)
      · refine v_aload_n (j := 0) (q := 23) rfl dX9_rule_22 rfl ?_
        refine v_getR (p' := 1) (q := 26) dX9_rule_23 fl_X9_12 kd_0 rfl (rfc_9_0 kd_0) rfl ?_
        refine v_iload_n (j := 1) (q := 27) rfl dX9_rule_26 rfl ?_
        refine v_iload_n (j := 2) (q := 28) rfl dX9_rule_27 rfl ?_
        refine v_cVI2 (q := 31) dX9_rule_28 mlX9_133 mdX4_part (by decide) kd_1 rfl rfl ⟨Nat.le_refl 0, Nat.le_refl 0⟩ (by exact Nat.le_of_ble_eq_true rfl) rfl (c_X4_part 1 k w mem su_1 (by omega) (by omega)) ?_
        rintro _ _ ⟨rfl, rfl⟩
        refine v_iret dX9_rule_31 ?_
        refine key _ ?_
        unfold sRule
        rw [hc, if_pos h5, if_pos (by omega), a5, rls_getD _ _ (by omega), cmpR_rl5 _ _ _ (by omega) (by omega), show (0 : Int) + 5 * (k.toNat : Int) + w = k * 5 + w by omega]
      · refine v_bipush (q := 21) (by decide) dX9_rule_19 rfl ?_
        refine v_iret dX9_rule_21 ?_
        refine key _ ?_
        unfold sRule
        rw [hc, if_pos h5, if_neg (by omega)]
  · refine v_iconst (q := 9) dX9_rule_8 rfl ?_
    refine v_iret dX9_rule_9 ?_
    refine key _ ?_
    unfold sRule
    rw [hc, if_neg h5]
/-! write, wipe -/
noncomputable def sWrite (A : AS) (c : Int) : Int × AS := by
  classical
  exact if 32 ≤ c ∧ c ≤ 126 then (if A.2.2.length < 200 then ((A.2.2.length : Int) + 1, (A.1, A.2.1, A.2.2 ++ [c])) else (-4, A)) else (-2, A)
theorem c_X6_append (c : Int) (mem : Mem) (h0 : 0 ≤ mem 23 0) (h1 : mem 23 0 < 200) : CtrV mX6_append [aR 23, aI c] mem (fun m => um (um mem 24 (mem 23 0) c) 23 0 (mem 23 0 + 1) = m) := by
  refine Ctr.ofV (ls := [aR 23, aI c]) rfl (by decide) rfl (Nat.le_of_ble_eq_true rfl) ?_
  refine v_aload_n (j := 0) (q := 1) rfl dX6_append_0 rfl ?_
  refine v_getI (j := 0) (q := 4) dX6_append_1 fl_X6_9 kd_23 rfl rfl rfl ?_
  refine v_sipush (q := 7) (by decide) dX6_append_4 rfl ?_
  refine v_icmp_ge (tgt := 30) (q := 10) dX6_append_7 (by decide) rfl (by omega) (by omega) (fun h7 => ?_) (fun h7 => ?_)
  · exact absurd h7 (by omega)
  · refine v_aload_n (j := 0) (q := 11) rfl dX6_append_10 rfl ?_
    refine v_getR (p' := 24) (q := 14) dX6_append_11 fl_X6_18 kd_23 rfl (rfc_6_2 kd_23) rfl ?_
    refine v_aload_n (j := 0) (q := 15) rfl dX6_append_14 rfl ?_
    refine v_getI (j := 0) (q := 18) dX6_append_15 fl_X6_9 kd_23 rfl rfl rfl ?_
    refine v_iload_n (j := 1) (q := 19) rfl dX6_append_18 rfl ?_
    refine v_iast (q := 20) dX6_append_19 kd_24 (by omega) (by omega) rfl ?_
    refine v_aload_n (j := 0) (q := 21) rfl dX6_append_20 rfl ?_
    refine v_dup (q := 22) rfl dX6_append_21 rfl ?_
    refine v_getI (j := 0) (q := 25) dX6_append_22 fl_X6_9 kd_23 rfl rfl rfl ?_
    refine v_iconst (q := 26) dX6_append_25 rfl ?_
    refine v_iadd (q := 27) dX6_append_26 rfl ?_
    refine v_putI (j := 0) (q := 30) dX6_append_27 fl_X6_9 kd_23 rfl rfl rfl ?_
    refine v_vret dX6_append_30 ?_
    refine ⟨rfl, ?_⟩
    rw [um_ne _ _ _ (show 23 ≠ 24 by decide)]
theorem c_X9_write (c : Int) (mem : Mem) (A : AS) (h : SI mem A) (hc : R32 c) : CtrI mX9_write [aR 0, aI c] mem (CQ mem A (sWrite A c)) := by
  have t1 := h.2.2.1
  have t2 := h.2.2.2.1
  refine Ctr.ofV (ls := [aR 0, aI c]) rfl (by decide) rfl (Nat.le_of_ble_eq_true rfl) ?_
  refine v_iload_n (j := 1) (q := 1) rfl dX9_write_0 rfl ?_
  refine v_bipush (q := 3) (by decide) dX9_write_1 rfl ?_
  refine v_icmp_lt (tgt := 12) (q := 6) dX9_write_3 (by decide) rfl (by omega) (by omega) (fun h3 => ?_) (fun h3 => ?_)
  · refine v_bipush (q := 14) (by decide) dX9_write_12 rfl ?_
    refine v_iret dX9_write_14 ?_
    refine ⟨_, rfl, ?_⟩
    unfold sWrite
    rw [if_neg (by omega)]
    exact CQ_same h
  · refine v_iload_n (j := 1) (q := 7) rfl dX9_write_6 rfl ?_
    refine v_bipush (q := 9) (by decide) dX9_write_7 rfl ?_
    refine v_icmp_le (tgt := 15) (q := 12) dX9_write_9 (by decide) rfl (by omega) (by omega) (fun h9 => ?_) (fun h9 => ?_)
    · refine v_aload_n (j := 0) (q := 16) rfl dX9_write_15 rfl ?_
      refine v_getR (p' := 23) (q := 19) dX9_write_16 fl_X9_29 kd_0 rfl (rfc_9_3 kd_0) rfl ?_
      refine v_getI (j := 0) (q := 22) dX9_write_19 fl_X9_242 kd_23 rfl rfl rfl ?_
      refine v_sipush (q := 25) (by decide) dX9_write_22 rfl ?_
      refine v_icmp_lt (tgt := 31) (q := 28) dX9_write_25 (by decide) rfl (by omega) (by omega) (fun h25 => ?_) (fun h25 => ?_)
      · refine v_aload_n (j := 0) (q := 32) rfl dX9_write_31 rfl ?_
        refine v_getR (p' := 23) (q := 35) dX9_write_32 fl_X9_29 kd_0 rfl (rfc_9_3 kd_0) rfl ?_
        refine v_iload_n (j := 1) (q := 36) rfl dX9_write_35 rfl ?_
        refine v_cVV1 (q := 39) dX9_write_36 mlX9_243 mdX6_append (by decide) kd_23 rfl rfl ⟨Nat.le_refl 0, Nat.le_refl 0⟩ (by exact Nat.le_of_ble_eq_true rfl) rfl (c_X6_append c mem (by omega) (by omega)) ?_
        rintro _ rfl
        refine v_aload_n (j := 0) (q := 40) rfl dX9_write_39 rfl ?_
        refine v_getR (p' := 23) (q := 43) dX9_write_40 fl_X9_29 kd_0 rfl (rfc_9_3 kd_0) rfl ?_
        refine v_getI (j := 0) (q := 46) dX9_write_43 fl_X9_242 kd_23 rfl rfl rfl ?_
        refine v_iret dX9_write_46 ?_
        refine ⟨_, rfl, ?_⟩
        unfold sWrite
        rw [if_pos (by omega), if_pos (by omega)]
        have o : ∀ q, q ≠ 23 → q ≠ 24 → um (um mem 24 (mem 23 0) c) 23 0 (mem 23 0 + 1) q = mem q := fun q a b => by rw [um_ne _ _ _ a, um_ne _ _ _ b]
        have o24 : um (um mem 24 (mem 23 0) c) 23 0 (mem 23 0 + 1) 24 = ui (mem 24) (mem 23 0) c := by rw [um_ne _ _ _ (by decide), um_same]
        refine ⟨by rw [um_same, ui_same]; show (A.2.2.length : Int) + 1 = _; omega, ⟨h.1.congr (o 1 (by decide) (by decide)) (o 2 (by decide) (by decide)), h.2.1.congr (fun q a b => o q (by omega) (by omega)), ?_, ?_, fun i hi => ?_, fun d hd => ?_⟩, Or.inr ⟨rfl, fun q hq => o q (by omega) (by omega)⟩⟩
        · rw [um_same, ui_same]
          simp
          omega
        · simp; omega
        · rw [o24]
          unfold ui
          simp at hi
          by_cases hi2 : i < A.2.2.length
          · rw [if_neg (by omega), h.2.2.2.2.1 i hi2, List.getD_eq_getElem?_getD, List.getD_eq_getElem?_getD, List.getElem?_append_left hi2]
          · rw [if_pos (by omega), List.getD_eq_getElem?_getD, show i = A.2.2.length by omega]
            simp
        · rcases List.mem_append.mp hd with hd | hd
          · exact h.2.2.2.2.2 d hd
          · rw [List.mem_singleton.mp hd]; omega
      · refine v_bipush (q := 30) (by decide) dX9_write_28 rfl ?_
        refine v_iret dX9_write_30 ?_
        refine ⟨_, rfl, ?_⟩
        unfold sWrite
        rw [if_pos (by omega), if_neg (by omega)]
        exact CQ_same h
    · refine v_bipush (q := 14) (by decide) dX9_write_12 rfl ?_
      refine v_iret dX9_write_14 ?_
      refine ⟨_, rfl, ?_⟩
      unfold sWrite
      rw [if_neg (by omega)]
      exact CQ_same h
theorem c_X9_wipe (mem : Mem) (A : AS) (h : SI mem A) : CtrI mX9_wipe [aR 0] mem (CQ mem A ((A.2.2.length : Int), (A.1, A.2.1, []))) := by
  have t1 := h.2.2.1
  refine Ctr.ofV (ls := [aR 0, aU]) rfl (by decide) rfl (Nat.le_of_ble_eq_true rfl) ?_
  refine v_aload_n (j := 0) (q := 1) rfl dX9_wipe_0 rfl ?_
  refine v_getR (p' := 23) (q := 4) dX9_wipe_1 fl_X9_29 kd_0 rfl (rfc_9_3 kd_0) rfl ?_
  refine v_getI (j := 0) (q := 7) dX9_wipe_4 fl_X9_242 kd_23 rfl rfl rfl ?_
  refine v_ist1 (q := 8) rfl dX9_wipe_7 (by decide) rfl ?_
  refine v_aload_n (j := 0) (q := 9) rfl dX9_wipe_8 rfl ?_
  refine v_getR (p' := 23) (q := 12) dX9_wipe_9 fl_X9_29 kd_0 rfl (rfc_9_3 kd_0) rfl ?_
  refine v_iconst (q := 13) dX9_wipe_12 rfl ?_
  refine v_putI (j := 0) (q := 16) dX9_wipe_13 fl_X9_242 kd_23 rfl rfl rfl ?_
  refine v_iload_n (j := 1) (q := 17) rfl dX9_wipe_16 rfl ?_
  refine v_iret dX9_wipe_17 ?_
  refine ⟨_, rfl, t1.symm, ⟨h.1.congr (um_ne _ _ _ (by decide)) (um_ne _ _ _ (by decide)), h.2.1.congr (fun q a b => um_ne _ _ _ (by omega)), ?_, by simp, fun i hi => by simp at hi, fun d hd => by cases hd⟩, Or.inr ⟨rfl, fun q hq => um_ne _ _ _ (by omega)⟩⟩
  rw [um_same, ui_same]
  rfl
