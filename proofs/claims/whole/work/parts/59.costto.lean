/-! ===== StackLab.makePlan, costTo, costWithout ===== -/
theorem c_X9_makePlan {MO : Mem → Sy → Prop} (mem : Mem) (y : Sy) (hy : SR mem 1 y) (hc : CA MO mem y) : CtrV mX9_makePlan [aR 0] mem (fun m => (∀ p, p ≠ 0 → (p < 29 ∨ 39 < p) → m p = mem p) ∧ m 0 14 = 1 ∧ CA MO m y ∧ PLN m y) := by
  obtain ⟨a, b, c, d, e, f, g⟩ := id hc
  have ok := hy.2.2.1
  have h01 : mem 0 14 = 0 ∨ mem 0 14 = 1 := a.elim Or.inl (fun h => Or.inr h.1)
  refine Ctr.ofV (ls := [aR 0]) rfl (by decide) rfl (Nat.le_of_ble_eq_true rfl) ?_
  refine v_aload_n (j := 0) (q := 1) rfl dX9_makePlan_0 rfl ?_
  refine v_getI (j := 14) (q := 4) dX9_makePlan_1 fl_X9_258 kd_0 rfl rfl rfl ?_
  refine v_if_ne (tgt := 32) (q := 7) dX9_makePlan_4 (by decide) rfl (by omega) (fun h4 => ?_) (fun h4 => ?_)
  · have h4 : mem 0 14 = 1 := by omega
    refine v_vret dX9_makePlan_32 ?_
    first
      | exact ⟨rfl, fun _ _ _ => rfl, h4, hc, (a.resolve_left (by omega)).2⟩
      | (obtain ⟨M, hM⟩ : ∃ M, M = um (sm (um m1 38 0 (-6)) (38 + 1) v) 0 14 1 := ⟨_, rfl⟩
         have hM2 : M = um (sm (um m1 38 0 (-6)) 39 v) 0 14 1 := hM
         have o : ∀ p, p ≠ 0 → (p < 29 ∨ 39 < p) → M p = mem p := fun p h1 h2 => by rw [hM2, um_ne _ _ _ h1, sm_ne _ _ (by omega), um_ne _ _ _ (by omega)]; exact t1 p (by omega)
         have pl : PLN M y := ⟨t2.congr (fun p p1 p2 => by rw [hM2, um_ne _ _ _ (by omega), sm_ne _ _ (by omega), um_ne _ _ _ (by omega)]), by rw [hM2, um_ne _ _ _ (by decide), sm_ne _ _ (by decide), um_same, ui_same], by rw [hM2, um_ne _ _ _ (by decide), sm_same]; exact hv⟩
         have m0 : M 0 14 = 1 := by rw [hM2, um_same, ui_same]
         rw [← hM]
         exact ⟨rfl, o, m0, ⟨Or.inr ⟨m0, pl⟩, Or.inl (by rw [o 42 (by decide) (by decide)]; exact b.resolve_right (fun h => by have := h.2.1; omega)), Or.inl (by rw [o 83 (by decide) (by decide)]; exact c.resolve_right (fun h => by have := h.2.1; omega)), by rw [o 42 (by decide) (by decide)]; exact d, by rw [o 54 (by decide) (by decide)]; exact e, by rw [o 66 (by decide) (by decide)]; exact f, g.congr (o 27 (by decide) (by decide)) (o 28 (by decide) (by decide))⟩, pl⟩)
  · have h4 : mem 0 14 = 0 := by omega
    refine v_aload_n (j := 0) (q := 8) rfl dX9_makePlan_7 rfl ?_
    refine v_getR (p' := 29) (q := 11) dX9_makePlan_8 fl_X9_46 kd_0 rfl (rfc_9_6 kd_0) rfl ?_
    refine v_aload_n (j := 0) (q := 12) rfl dX9_makePlan_11 rfl ?_
    refine v_getR (p' := 1) (q := 15) dX9_makePlan_12 fl_X9_12 kd_0 rfl (rfc_9_0 kd_0) rfl ?_
    refine v_cVV1 (q := 18) dX9_makePlan_15 mlX9_268 mdX2_takeFrom (by decide) kd_29 rfl rfl ⟨Nat.le_refl 0, Nat.le_refl 0⟩ (by exact Nat.le_of_ble_eq_true rfl) rfl (c_X2_takeFrom y mem hy) ?_
    rintro m1 ⟨t1, t2⟩
    refine v_aload_n (j := 0) (q := 19) rfl dX9_makePlan_18 rfl ?_
    refine v_getR (p' := 38) (q := 22) dX9_makePlan_19 fl_X9_55 kd_0 rfl (rfc_9_7 kd_0) rfl ?_
    refine v_bipush (q := 24) (by decide) dX9_makePlan_22 rfl ?_
    refine v_cVV1 (q := 27) dX9_makePlan_24 mlX9_271 mdX5_compute (by decide) kd_38 rfl rfl ⟨Nat.le_refl 0, Nat.le_refl 0⟩ (by exact Nat.le_of_ble_eq_true rfl) rfl (c_X5_compute 38 (Or.inl rfl) m1 y (-6) ok t2 (by omega)) ?_
    rintro _ ⟨v, rfl, hv⟩
    refine v_aload_n (j := 0) (q := 28) rfl dX9_makePlan_27 rfl ?_
    refine v_iconst (q := 29) dX9_makePlan_28 rfl ?_
    refine v_putZ (j := 14) (q := 32) (by first | exact Or.inl rfl | exact Or.inr rfl | exact bI_01 _ | omega) dX9_makePlan_29 fl_X9_258 kd_0 rfl rfl rfl ?_
    refine v_vret dX9_makePlan_32 ?_
    first
      | exact ⟨rfl, fun _ _ _ => rfl, h4, hc, (a.resolve_left (by omega)).2⟩
      | (obtain ⟨M, hM⟩ : ∃ M, M = um (sm (um m1 38 0 (-6)) (38 + 1) v) 0 14 1 := ⟨_, rfl⟩
         have hM2 : M = um (sm (um m1 38 0 (-6)) 39 v) 0 14 1 := hM
         have o : ∀ p, p ≠ 0 → (p < 29 ∨ 39 < p) → M p = mem p := fun p h1 h2 => by rw [hM2, um_ne _ _ _ h1, sm_ne _ _ (by omega), um_ne _ _ _ (by omega)]; exact t1 p (by omega)
         have pl : PLN M y := ⟨t2.congr (fun p p1 p2 => by rw [hM2, um_ne _ _ _ (by omega), sm_ne _ _ (by omega), um_ne _ _ _ (by omega)]), by rw [hM2, um_ne _ _ _ (by decide), sm_ne _ _ (by decide), um_same, ui_same], by rw [hM2, um_ne _ _ _ (by decide), sm_same]; exact hv⟩
         have m0 : M 0 14 = 1 := by rw [hM2, um_same, ui_same]
         rw [← hM]
         exact ⟨rfl, o, m0, ⟨Or.inr ⟨m0, pl⟩, Or.inl (by rw [o 42 (by decide) (by decide)]; exact b.resolve_right (fun h => by have := h.2.1; omega)), Or.inl (by rw [o 83 (by decide) (by decide)]; exact c.resolve_right (fun h => by have := h.2.1; omega)), by rw [o 42 (by decide) (by decide)]; exact d, by rw [o 54 (by decide) (by decide)]; exact e, by rw [o 66 (by decide) (by decide)]; exact f, g.congr (o 27 (by decide) (by decide)) (o 28 (by decide) (by decide))⟩, pl⟩)
theorem l_X3_isAimed (mem : Mem) (q : Int) (t : List Int) (h2 : mem 42 2 = 1) (h3 : mem 42 3 = q) (h4 : mem 42 4 = t.length) (ht : t.length ≤ 6) (hr : ∀ i : Int, 0 ≤ i → i < t.length → R32 (mem 43 i)) (hw : ∀ i : Nat, i < t.length → mem 26 i = t.getD i 0 ∧ R32 (t.getD i 0)) :
    ∀ (j i : Nat), i + j = t.length → (∀ k : Nat, k < i → mem 43 k = t.getD k 0) → V cX3_isAimedAt RX3 4 (some .boolean) (rmk 0 0) (mE (fun r m => ∃ z, r = aI z ∧ mem = m ∧ ∃ C, bI C = z ∧ (C → mem 42 2 = 1 ∧ mem 42 3 = q ∧ mem 42 4 = t.length ∧ ∀ k : Nat, k < t.length → mem 43 k = t.getD k 0))) 30 [aR 42, aI q, aR 25, aI i] [] mem := by
  intro j
  induction j with
  | zero =>
    intro i h1 hk
    refine v_iload_n (j := 3) (q := 31) rfl dX3_isAimedAt_30 rfl ?_
    refine v_aload_n (j := 0) (q := 32) rfl dX3_isAimedAt_31 rfl ?_
    refine v_getI (j := 4) (q := 35) dX3_isAimedAt_32 fl_X3_28 kd_42 rfl rfl rfl ?_
    refine v_icmp_ge (tgt := 61) (q := 38) dX3_isAimedAt_35 (by decide) rfl (by omega) (by omega) (fun h35 => ?_) (fun h35 => ?_)
    · refine v_iconst (q := 62) dX3_isAimedAt_61 rfl ?_
      refine v_zret (by first | exact Or.inl rfl | exact Or.inr rfl | exact bI_01 _ | omega) dX3_isAimedAt_62 ?_
      exact ⟨1, rfl, rfl, True, bI_1.symm, fun _ => ⟨h2, h3, h4, fun k hk2 => hk k (by omega)⟩⟩
    · exact absurd h35 (by omega)
  | succ j ih =>
    intro i h1 hk
    obtain ⟨w1, w2⟩ := hw i (by omega)
    have r1 := hr i (by omega) (by omega)
    refine v_iload_n (j := 3) (q := 31) rfl dX3_isAimedAt_30 rfl ?_
    refine v_aload_n (j := 0) (q := 32) rfl dX3_isAimedAt_31 rfl ?_
    refine v_getI (j := 4) (q := 35) dX3_isAimedAt_32 fl_X3_28 kd_42 rfl rfl rfl ?_
    refine v_icmp_ge (tgt := 61) (q := 38) dX3_isAimedAt_35 (by decide) rfl (by omega) (by omega) (fun h35 => ?_) (fun h35 => ?_)
    · exact absurd h35 (by omega)
    · refine v_aload_n (j := 0) (q := 39) rfl dX3_isAimedAt_38 rfl ?_
      refine v_getR (p' := 43) (q := 42) dX3_isAimedAt_39 fl_X3_31 kd_42 rfl (rfc_3_5 kd_42) rfl ?_
      refine v_iload_n (j := 3) (q := 43) rfl dX3_isAimedAt_42 rfl ?_
      refine v_iald (q := 44) dX3_isAimedAt_43 kd_43 (by omega) (by omega) rfl ?_
      refine v_aload_n (j := 2) (q := 45) rfl dX3_isAimedAt_44 rfl ?_
      refine v_getR (p' := 26) (q := 48) dX3_isAimedAt_45 fl_X3_67 kd_25 rfl (rfc_8_1 kd_25) rfl ?_
      refine v_iload_n (j := 3) (q := 49) rfl dX3_isAimedAt_48 rfl ?_
      refine v_iald (q := 50) dX3_isAimedAt_49 kd_26 (by omega) (by omega) rfl ?_
      rw [w1]
      refine v_icmp_eq (tgt := 55) (q := 53) dX3_isAimedAt_50 (by decide) rfl (by omega) (by omega) (fun h50 => ?_) (fun h50 => ?_)
      · refine v_iinc3 (q := 58) rfl dX3_isAimedAt_55 (by decide) rfl ?_
        refine v_goto (q := 30) dX3_isAimedAt_58 (by decide) ?_
        refine ih (i + 1) (by omega) (fun k hk2 => ?_)
        by_cases e : k = i
        · rw [e]; exact h50
        · exact hk k (by omega)
      · refine v_iconst (q := 54) dX3_isAimedAt_53 rfl ?_
        refine v_zret (by first | exact Or.inl rfl | exact Or.inr rfl | exact bI_01 _ | omega) dX3_isAimedAt_54 ?_
        exact ⟨0, rfl, rfl, False, bI_0.symm, fun h => h.elim⟩
theorem c_X3_isAimedAt (mem : Mem) (q : Int) (t : List Int) (hq : R32 q) (ht : t.length ≤ 6) (hA : mem 42 2 = 0 ∨ (mem 42 2 = 1 ∧ R32 (mem 42 3) ∧ R32 (mem 42 4) ∧ ∀ i, 0 ≤ i → i < mem 42 4 → R32 (mem 43 i))) (hwd : WdIs mem 25 t) (hd : ∀ d ∈ t, 1 ≤ d ∧ d ≤ 5) : CtrI mX3_isAimedAt [aR 42, aI q, aR 25] mem (fun z m => mem = m ∧ ∃ C, bI C = z ∧ (C → mem 42 2 = 1 ∧ mem 42 3 = q ∧ mem 42 4 = t.length ∧ ∀ k : Nat, k < t.length → mem 43 k = t.getD k 0)) := by
  have h01 : mem 42 2 = 0 ∨ mem 42 2 = 1 := hA.elim Or.inl (fun h => Or.inr h.1)
  have w0 : mem 25 0 = t.length := hwd.1
  refine Ctr.ofV (ls := [aR 42, aI q, aR 25, aU]) rfl (by decide) rfl (Nat.le_of_ble_eq_true rfl) ?_
  refine v_aload_n (j := 0) (q := 1) rfl dX3_isAimedAt_0 rfl ?_
  refine v_getI (j := 2) (q := 4) dX3_isAimedAt_1 fl_X3_21 kd_42 rfl rfl rfl ?_
  refine v_if_eq (tgt := 26) (q := 7) dX3_isAimedAt_4 (by decide) rfl (by omega) (fun h4 => ?_) (fun h4 => ?_)
  · refine v_iconst (q := 27) dX3_isAimedAt_26 rfl ?_
    refine v_zret (by first | exact Or.inl rfl | exact Or.inr rfl | exact bI_01 _ | omega) dX3_isAimedAt_27 ?_
    exact ⟨0, rfl, rfl, False, bI_0.symm, fun h => h.elim⟩
  · obtain ⟨g2, g3, g4, g5⟩ := hA.resolve_left (by omega)
    refine v_iload_n (j := 1) (q := 8) rfl dX3_isAimedAt_7 rfl ?_
    refine v_aload_n (j := 0) (q := 9) rfl dX3_isAimedAt_8 rfl ?_
    refine v_getI (j := 3) (q := 12) dX3_isAimedAt_9 fl_X3_25 kd_42 rfl rfl rfl ?_
    refine v_icmp_ne (tgt := 26) (q := 15) dX3_isAimedAt_12 (by decide) rfl (by omega) (by omega) (fun h12 => ?_) (fun h12 => ?_)
    · refine v_iconst (q := 27) dX3_isAimedAt_26 rfl ?_
      refine v_zret (by first | exact Or.inl rfl | exact Or.inr rfl | exact bI_01 _ | omega) dX3_isAimedAt_27 ?_
      exact ⟨0, rfl, rfl, False, bI_0.symm, fun h => h.elim⟩
    · refine v_aload_n (j := 2) (q := 16) rfl dX3_isAimedAt_15 rfl ?_
      refine v_getI (j := 0) (q := 19) dX3_isAimedAt_16 fl_X3_62 kd_25 rfl rfl rfl ?_
      refine v_aload_n (j := 0) (q := 20) rfl dX3_isAimedAt_19 rfl ?_
      refine v_getI (j := 4) (q := 23) dX3_isAimedAt_20 fl_X3_28 kd_42 rfl rfl rfl ?_
      rw [w0]
      refine v_icmp_eq (tgt := 28) (q := 26) dX3_isAimedAt_23 (by decide) rfl (by omega) (by omega) (fun h23 => ?_) (fun h23 => ?_)
      · refine v_iconst (q := 29) dX3_isAimedAt_28 rfl ?_
        refine v_ist3 (q := 30) rfl dX3_isAimedAt_29 (by decide) rfl ?_
        exact l_X3_isAimed mem q t g2 (by omega) (by omega) ht (fun i i0 i1 => g5 i i0 (by omega)) (fun i hi => ⟨hwd.2 i hi, by
          have : t.getD i 0 ∈ t := by
            rw [List.getD_eq_getElem?_getD, List.getElem?_eq_getElem hi]
            exact List.getElem_mem hi
          have := hd _ this
          omega⟩) t.length 0 (by omega) (fun k h => absurd h (by omega))
      · refine v_iconst (q := 27) dX3_isAimedAt_26 rfl ?_
        refine v_zret (by first | exact Or.inl rfl | exact Or.inr rfl | exact bI_01 _ | omega) dX3_isAimedAt_27 ?_
        exact ⟨0, rfl, rfl, False, bI_0.symm, fun h => h.elim⟩
