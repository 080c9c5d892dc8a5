/-! ===== Summary: the prices ===== -/
def isSum (b : Nat) : Prop := b = 38 ∨ b = 40
theorem sum1 {b : Nat} (h : isSum b) : kd b = (5, 5) := by rcases h with rfl | rfl <;> decide
theorem sum2 {b : Nat} (h : isSum b) : kd (b + 1) = (1, 80) := by rcases h with rfl | rfl <;> decide
/-- the limit of costs in the class -/
def NO : Int := 16777232777216
theorem NO_def : NO = 16777232777216 := rfl
theorem c_X5_costOfRemoving (b : Nat) (h t : Int) (mem : Mem) (hb : isSum b) (h0 : 0 ≤ h * 4 + t) (h1 : h * 4 + t < 80) : CtrL mX5_costOfRemoving [aR b, aI h, aI t] mem (fun z m => mem = m ∧ mem (b + 1) (h * 4 + t) = z) := by
  refine Ctr.ofV (ls := [aR b, aI h, aI t]) rfl (by decide) rfl (Nat.le_of_ble_eq_true rfl) ?_
  refine v_aload_n (j := 0) (q := 1) rfl dX5_costOfRemoving_0 rfl ?_
  refine v_getR (p' := b + 1) (q := 4) dX5_costOfRemoving_1 fl_X5_15 (sum1 hb) rfl (rfc_5_2 (sum1 hb)) rfl ?_
  refine v_iload_n (j := 1) (q := 5) rfl dX5_costOfRemoving_4 rfl ?_
  refine v_iconst (q := 6) dX5_costOfRemoving_5 rfl ?_
  refine v_imul (q := 7) dX5_costOfRemoving_6 rfl ?_
  refine v_iload_n (j := 2) (q := 8) rfl dX5_costOfRemoving_7 rfl ?_
  refine v_iadd (q := 9) dX5_costOfRemoving_8 rfl ?_
  refine v_lald (q := 10) dX5_costOfRemoving_9 (sum2 hb) (by omega) (by omega) rfl ?_
  refine v_lret dX5_costOfRemoving_10 ?_
  exact ⟨_, rfl, rfl, rfl⟩
/-- the prices from base on, lowered by what comes before and then removing h -/
def thr (v : Int → Int) (base h c S : Int) : Int → Int := fun i => if base ≤ i ∧ i < base + S then min (v i) (c + v (h * 4 + (i - base))) else v i
theorem l_X5_through {Post : AV → Mem → Prop} (b : Nat) (hb : isSum b) (mem : Mem) (base h c S : Int) (hB : ∃ g, base = g * 4 ∧ 0 ≤ g ∧ g < 20) (hh : 0 ≤ h ∧ h < 20) (hc : 0 ≤ c ∧ c ≤ 100000000000000) (hS : 1 ≤ S ∧ S ≤ 4) (h29 : mem 29 0 = S) (hv : ∀ i, 0 ≤ i → i < 80 → 0 ≤ mem (b + 1) i ∧ mem (b + 1) i ≤ NO) (K : ∀ k' C m, (C ↔ ∃ i, 0 ≤ i ∧ i < S ∧ c + mem (b + 1) (h * 4 + i) < mem (b + 1) (base + i)) → m = sm mem (b + 1) (thr (mem (b + 1)) base h c S) → V cX5_lowerPricesThrough RX5 7 (some .boolean) (rmk 1 23) (mE Post) 50 [aR b, aI base, aI h, aL c, aU, aI (bI C), aI k'] [] m) : ∀ (j : Nat) (k : Int) (M : Mem) (C : Prop), k + j = S → 0 ≤ k → (∀ q, q ≠ b + 1 → M q = mem q) → (∀ i, M (b + 1) i = thr (mem (b + 1)) base h c k i) → (C ↔ ∃ i, 0 ≤ i ∧ i < k ∧ c + mem (b + 1) (h * 4 + i) < mem (b + 1) (base + i)) →
    V cX5_lowerPricesThrough RX5 7 (some .boolean) (rmk 1 23) (mE Post) 6 [aR b, aI base, aI h, aL c, aU, aI (bI C), aI k] [] M := by
  have hbn : b + 1 ≠ 29 := by rcases hb with rfl | rfl <;> omega
  have hNO := NO_def
  intro j
  induction j with
  | zero =>
    intro k M C h1 h2 h3 h4 h5
    have e29 := h3 29 (fun e => hbn e.symm)
    have hk : k = S := by omega
    subst hk
    refine v_iload (j := 6) (q := 8) rfl dX5_lowerPricesThrough_6 rfl ?_
    refine v_aload_n (j := 0) (q := 9) rfl dX5_lowerPricesThrough_8 rfl ?_
    refine v_getR (p' := 29) (q := 12) dX5_lowerPricesThrough_9 fl_X5_19 (sum1 hb) rfl (rfc_5_1 (sum1 hb)) rfl ?_
    refine v_getI (j := 0) (q := 15) dX5_lowerPricesThrough_12 fl_X5_64 kd_29 rfl rfl rfl ?_
    rw [e29, h29]
    refine v_icmp_ge (tgt := 50) (q := 18) dX5_lowerPricesThrough_15 (by decide) rfl (by omega) (by omega) (fun h15 => ?_) (fun h15 => ?_)
    · exact K _ C M h5 (eq_sm h3 h4)
    · exact absurd h15 (by omega)
  | succ j ih =>
    intro k M C h1 h2 h3 h4 h5
    have e29 := h3 29 (fun e => hbn e.symm)
    obtain ⟨g, rfl, g0, g1⟩ := hB
    have r1 := hv (h * 4 + k) (by omega) (by omega)
    have r2 := hv (g * 4 + k) (by omega) (by omega)
    have v1 : M (b + 1) (h * 4 + k) = mem (b + 1) (h * 4 + k) := by
      rw [h4]
      unfold thr
      rw [if_neg (by omega)]
    have v2 : M (b + 1) (g * 4 + k) = mem (b + 1) (g * 4 + k) := by
      rw [h4]
      unfold thr
      rw [if_neg (by omega)]
    refine v_iload (j := 6) (q := 8) rfl dX5_lowerPricesThrough_6 rfl ?_
    refine v_aload_n (j := 0) (q := 9) rfl dX5_lowerPricesThrough_8 rfl ?_
    refine v_getR (p' := 29) (q := 12) dX5_lowerPricesThrough_9 fl_X5_19 (sum1 hb) rfl (rfc_5_1 (sum1 hb)) rfl ?_
    refine v_getI (j := 0) (q := 15) dX5_lowerPricesThrough_12 fl_X5_64 kd_29 rfl rfl rfl ?_
    rw [e29, h29]
    refine v_icmp_ge (tgt := 50) (q := 18) dX5_lowerPricesThrough_15 (by decide) rfl (by omega) (by omega) (fun h15 => ?_) (fun h15 => ?_)
    · exact absurd h15 (by omega)
    · refine v_aload_n (j := 0) (q := 19) rfl dX5_lowerPricesThrough_18 rfl ?_
      refine v_getR (p' := b + 1) (q := 22) dX5_lowerPricesThrough_19 fl_X5_15 (sum1 hb) rfl (rfc_5_2 (sum1 hb)) rfl ?_
      refine v_iload_n (j := 1) (q := 23) rfl dX5_lowerPricesThrough_22 rfl ?_
      refine v_iload (j := 6) (q := 25) rfl dX5_lowerPricesThrough_23 rfl ?_
      refine v_iadd (q := 26) dX5_lowerPricesThrough_25 rfl ?_
      refine v_lload_n (j := 3) (q := 27) rfl dX5_lowerPricesThrough_26 rfl ?_
      refine v_aload_n (j := 0) (q := 28) rfl dX5_lowerPricesThrough_27 rfl ?_
      refine v_iload_n (j := 2) (q := 29) rfl dX5_lowerPricesThrough_28 rfl ?_
      refine v_iload (j := 6) (q := 31) rfl dX5_lowerPricesThrough_29 rfl ?_
      refine v_cVL2 (q := 34) dX5_lowerPricesThrough_31 mlX5_67 mdX5_costOfRemoving (by decide) (sum1 hb) rfl rfl ⟨Nat.le_refl 0, Nat.le_refl 0⟩ (by exact Nat.le_of_ble_eq_true rfl) rfl (c_X5_costOfRemoving b h k M hb (by omega) (by omega)) ?_
      rintro _ _ ⟨rfl, rfl⟩
      rw [v1]
      refine v_ladd (q := 35) dX5_lowerPricesThrough_34 rfl ?_
      refine v_cSNI3 (q := 38) dX5_lowerPricesThrough_35 mlX5_53 mdX9_lower (by decide) ⟨Nat.le_refl 0, Nat.le_refl 0⟩ (by exact Nat.le_of_ble_eq_true rfl) rfl (c_X9_lower (b + 1) 80 (g * 4 + k) _ M (sum2 hb) (by omega) (by omega) (by omega) (by rw [v2]; omega)) ?_
      rintro _ _ ⟨rfl, rfl⟩
      rw [v2]
      refine v_if_eqB (tgt := 44) (q := 41) dX5_lowerPricesThrough_38 (by decide) rfl (fun h38 => ?_) (fun h38 => ?_)
      · refine v_iinc6 (q := 47) rfl dX5_lowerPricesThrough_44 (by decide) rfl ?_
        refine v_goto (q := 6) dX5_lowerPricesThrough_47 (by decide) ?_
        have fin : ∀ (C2 : Prop), (C2 ↔ (C ∨ c + mem (b + 1) (h * 4 + k) < mem (b + 1) (g * 4 + k))) → V cX5_lowerPricesThrough RX5 7 (some .boolean) (rmk 1 23) (mE Post) 6 [aR b, aI (g * 4), aI h, aL c, aU, aI (bI C2), aI (k + 1)] [] (if c + mem (b + 1) (h * 4 + k) < mem (b + 1) (g * 4 + k) then um M (b + 1) (g * 4 + k) (c + mem (b + 1) (h * 4 + k)) else M) := fun C2 hC2 => by
          refine ih (k + 1) _ C2 (by omega) (by omega) (fun q hq => ?_) (fun i => ?_) ?_
          · by_cases hh9 : c + mem (b + 1) (h * 4 + k) < mem (b + 1) (g * 4 + k)
            · rw [if_pos hh9, um_ne _ _ _ hq]; exact h3 q hq
            · rw [if_neg hh9]; exact h3 q hq
          · have e9 : thr (mem (b + 1)) (g * 4) h c (k + 1) i = if i = g * 4 + k then min (mem (b + 1) (g * 4 + k)) (c + mem (b + 1) (h * 4 + k)) else thr (mem (b + 1)) (g * 4) h c k i := by
              unfold thr
              by_cases e : i = g * 4 + k
              · rw [if_pos e, if_pos (by omega), e, show g * 4 + k - g * 4 = k by omega]
              · rw [if_neg e]
                by_cases e2 : g * 4 ≤ i ∧ i < g * 4 + k
                · rw [if_pos e2, if_pos (by omega)]
                · rw [if_neg e2, if_neg (by omega)]
            rw [e9]
            by_cases e : i = g * 4 + k
            · rw [if_pos e, e]
              by_cases hh9 : c + mem (b + 1) (h * 4 + k) < mem (b + 1) (g * 4 + k)
              · rw [if_pos hh9, um_same, ui_same]; omega
              · rw [if_neg hh9, v2]; omega
            · rw [if_neg e]
              by_cases hh9 : c + mem (b + 1) (h * 4 + k) < mem (b + 1) (g * 4 + k)
              · rw [if_pos hh9, um_same, ui_ne _ _ e]; exact h4 i
              · rw [if_neg hh9]; exact h4 i
          · rw [hC2, h5]
            constructor
            · rintro (⟨i, i0, i1, i2⟩ | h9)
              · exact ⟨i, i0, by omega, i2⟩
              · exact ⟨k, h2, by omega, h9⟩
            · rintro ⟨i, i0, i1, i2⟩
              by_cases e : i = k
              · rw [e] at i2; exact Or.inr i2
              · exact Or.inl ⟨i, i0, by omega, i2⟩
        first
          | exact fin C ⟨fun h => Or.inl h, fun h => h.resolve_right h38⟩
          | (have hk := fin True ⟨fun _ => Or.inr h38, fun _ => trivial⟩; rw [← bI_1] at hk; exact hk)
      · refine v_iconst (q := 42) dX5_lowerPricesThrough_41 rfl ?_
        refine v_ist5 (q := 44) rfl dX5_lowerPricesThrough_42 (by decide) rfl ?_
        refine v_iinc6 (q := 47) rfl dX5_lowerPricesThrough_44 (by decide) rfl ?_
        refine v_goto (q := 6) dX5_lowerPricesThrough_47 (by decide) ?_
        have fin : ∀ (C2 : Prop), (C2 ↔ (C ∨ c + mem (b + 1) (h * 4 + k) < mem (b + 1) (g * 4 + k))) → V cX5_lowerPricesThrough RX5 7 (some .boolean) (rmk 1 23) (mE Post) 6 [aR b, aI (g * 4), aI h, aL c, aU, aI (bI C2), aI (k + 1)] [] (if c + mem (b + 1) (h * 4 + k) < mem (b + 1) (g * 4 + k) then um M (b + 1) (g * 4 + k) (c + mem (b + 1) (h * 4 + k)) else M) := fun C2 hC2 => by
          refine ih (k + 1) _ C2 (by omega) (by omega) (fun q hq => ?_) (fun i => ?_) ?_
          · by_cases hh9 : c + mem (b + 1) (h * 4 + k) < mem (b + 1) (g * 4 + k)
            · rw [if_pos hh9, um_ne _ _ _ hq]; exact h3 q hq
            · rw [if_neg hh9]; exact h3 q hq
          · have e9 : thr (mem (b + 1)) (g * 4) h c (k + 1) i = if i = g * 4 + k then min (mem (b + 1) (g * 4 + k)) (c + mem (b + 1) (h * 4 + k)) else thr (mem (b + 1)) (g * 4) h c k i := by
              unfold thr
              by_cases e : i = g * 4 + k
              · rw [if_pos e, if_pos (by omega), e, show g * 4 + k - g * 4 = k by omega]
              · rw [if_neg e]
                by_cases e2 : g * 4 ≤ i ∧ i < g * 4 + k
                · rw [if_pos e2, if_pos (by omega)]
                · rw [if_neg e2, if_neg (by omega)]
            rw [e9]
            by_cases e : i = g * 4 + k
            · rw [if_pos e, e]
              by_cases hh9 : c + mem (b + 1) (h * 4 + k) < mem (b + 1) (g * 4 + k)
              · rw [if_pos hh9, um_same, ui_same]; omega
              · rw [if_neg hh9, v2]; omega
            · rw [if_neg e]
              by_cases hh9 : c + mem (b + 1) (h * 4 + k) < mem (b + 1) (g * 4 + k)
              · rw [if_pos hh9, um_same, ui_ne _ _ e]; exact h4 i
              · rw [if_neg hh9]; exact h4 i
          · rw [hC2, h5]
            constructor
            · rintro (⟨i, i0, i1, i2⟩ | h9)
              · exact ⟨i, i0, by omega, i2⟩
              · exact ⟨k, h2, by omega, h9⟩
            · rintro ⟨i, i0, i1, i2⟩
              by_cases e : i = k
              · rw [e] at i2; exact Or.inr i2
              · exact Or.inl ⟨i, i0, by omega, i2⟩
        first
          | exact fin C ⟨fun h => Or.inl h, fun h => h.resolve_right h38⟩
          | (have hk := fin True ⟨fun _ => Or.inr h38, fun _ => trivial⟩; rw [← bI_1] at hk; exact hk)
theorem c_X5_lowerPricesThrough (b : Nat) (hb : isSum b) (mem : Mem) (base h c S : Int) (hB : ∃ g, base = g * 4 ∧ 0 ≤ g ∧ g < 20) (hh : 0 ≤ h ∧ h < 20) (hc : 0 ≤ c ∧ c ≤ 100000000000000) (hS : 1 ≤ S ∧ S ≤ 4) (h29 : mem 29 0 = S) (hv : ∀ i, 0 ≤ i → i < 80 → 0 ≤ mem (b + 1) i ∧ mem (b + 1) i ≤ NO) : CtrI mX5_lowerPricesThrough [aR b, aI base, aI h, aL c] mem (fun z m => sm mem (b + 1) (thr (mem (b + 1)) base h c S) = m ∧ bI (∃ i, 0 ≤ i ∧ i < S ∧ c + mem (b + 1) (h * 4 + i) < mem (b + 1) (base + i)) = z) := by
  refine Ctr.ofV (ls := [aR b, aI base, aI h, aL c, aU, aU, aU]) rfl (by decide) rfl (Nat.le_of_ble_eq_true rfl) ?_
  refine v_iconst (q := 1) dX5_lowerPricesThrough_0 rfl ?_
  refine v_ist5 (q := 3) rfl dX5_lowerPricesThrough_1 (by decide) rfl ?_
  refine v_iconst (q := 4) dX5_lowerPricesThrough_3 rfl ?_
  refine v_ist6 (q := 6) rfl dX5_lowerPricesThrough_4 (by decide) rfl ?_
  have hk := l_X5_through (Post := (fun r m => ∃ z, r = aI z ∧ sm mem (b + 1) (thr (mem (b + 1)) base h c S) = m ∧ bI (∃ i, 0 ≤ i ∧ i < S ∧ c + mem (b + 1) (h * 4 + i) < mem (b + 1) (base + i)) = z)) b hb mem base h c S hB hh hc hS h29 hv (fun k' C m hC hm => ?_) S.toNat 0 mem False (by omega) (by omega) (fun _ _ => rfl) (fun i => by unfold thr; rw [if_neg (by omega)]) ⟨fun h => h.elim, fun ⟨i, i0, i1, _⟩ => by omega⟩
  · rw [← bI_0] at hk
    exact hk
  · refine v_iload (j := 5) (q := 52) rfl dX5_lowerPricesThrough_50 rfl ?_
    exact v_zret (bI_01 _) dX5_lowerPricesThrough_52 ⟨_, rfl, hm.symm, bI_congr hC.symm⟩
