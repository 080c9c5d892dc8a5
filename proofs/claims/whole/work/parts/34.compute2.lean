/-! ===== Summary.compute: the loops ===== -/
theorem SndP.mono0 {rs : List Rl} {ex : Int} : SndP rs ex (fun _ => NO) := fun i _ _ => ⟨by show 0 ≤ NO; unfold NO; omega, Int.le_refl _, fun h => absurd h (Int.lt_irrefl _)⟩
theorem l_X5_pass {Post : AV → Mem → Prop} (b : Nat) (hb : isSum b) (N : Mem) (y : Sy) (ex : Int) (ok : okS y) (hpl : PL N y) (hN0 : N b 0 = ex) (hex : -6 ≤ ex ∧ ex < 20) (v0 : Int → Int) (rd : Int) (hv0 : SndP y.2.2.2.2 ex v0) (K : ∀ C v k', pasQ y.2.2.2.2 ex y.1 v0 v y.2.2.2.2.length → (¬ C → ∀ i, v i = v0 i) → V cX5_compute RX5 5 none (rmk 3 77) (mE Post) 72 [aR b, aI ex, aI (bI C), aI rd, aI k'] [] (sm N (b + 1) v)) :
    ∀ (j k : Nat) (v : Int → Int) (C : Prop), k + j = y.2.2.2.2.length → pasQ y.2.2.2.2 ex y.1 v0 v k → (¬ C → ∀ i, v i = v0 i) → V cX5_compute RX5 5 none (rmk 3 77) (mE Post) 34 [aR b, aI ex, aI (bI C), aI rd, aI k] [] (sm N (b + 1) v) := by
  have hb1 : b ≠ b + 1 := by omega
  have hbn : ∀ q, 29 ≤ q → q ≤ 37 → q ≠ b + 1 := fun q q1 q2 => by rcases hb with rfl | rfl <;> omega
  have hlen := ok.2.2.2.2.1
  intro j
  induction j with
  | zero =>
    intro k v C h1 h2 h3
    have hk : k = y.2.2.2.2.length := by omega
    subst hk
    have hp := hpl.congr (m1 := sm N (b + 1) v) (fun q q1 q2 => sm_ne _ _ (hbn q q1 q2))
    refine v_iload (j := 4) (q := 36) rfl dX5_compute_34 rfl ?_
    refine v_aload_n (j := 0) (q := 37) rfl dX5_compute_36 rfl ?_
    refine v_getR (p' := 29) (q := 40) dX5_compute_37 fl_X5_19 (sum1 hb) rfl (rfc_5_1 (sum1 hb)) rfl ?_
    refine v_getI (j := 1) (q := 43) dX5_compute_40 fl_X5_31 kd_29 rfl rfl rfl ?_
    rw [hp.2.1]
    refine v_icmp_ge (tgt := 72) (q := 46) dX5_compute_43 (by decide) rfl (by omega) (by omega) (fun h43 => ?_) (fun h43 => ?_)
    · exact K C v _ h2 h3
    · exact absurd h43 (by omega)
  | succ j ih =>
    intro k v C h1 h2 h3
    have hp := hpl.congr (m1 := sm N (b + 1) v) (fun q q1 q2 => sm_ne _ _ (hbn q q1 q2))
    have e0 : sm N (b + 1) v b 0 = ex := by rw [sm_ne _ _ hb1]; exact hN0
    have hk : k < y.2.2.2.2.length := by omega
    obtain ⟨r, hr⟩ : ∃ r, r = y.2.2.2.2[k] := ⟨_, rfl⟩
    have hr2 : y.2.2.2.2[k]? = some r := by rw [hr]; exact List.getElem?_eq_getElem hk
    have okr := ok.2.2.2.2.2 r (List.mem_of_getElem? hr2)
    have pk := hp.2.2.2.2 k hk
    rw [← hr] at pk
    have vb : sm N (b + 1) v (b + 1) = v := sm_same _ _ _
    refine v_iload (j := 4) (q := 36) rfl dX5_compute_34 rfl ?_
    refine v_aload_n (j := 0) (q := 37) rfl dX5_compute_36 rfl ?_
    refine v_getR (p' := 29) (q := 40) dX5_compute_37 fl_X5_19 (sum1 hb) rfl (rfc_5_1 (sum1 hb)) rfl ?_
    refine v_getI (j := 1) (q := 43) dX5_compute_40 fl_X5_31 kd_29 rfl rfl rfl ?_
    rw [hp.2.1]
    refine v_icmp_ge (tgt := 72) (q := 46) dX5_compute_43 (by decide) rfl (by omega) (by omega) (fun h43 => ?_) (fun h43 => ?_)
    · exact absurd h43 (by omega)
    · refine v_iload (j := 4) (q := 48) rfl dX5_compute_46 rfl ?_
      refine v_aload_n (j := 0) (q := 49) rfl dX5_compute_48 rfl ?_
      refine v_getI (j := 0) (q := 52) dX5_compute_49 fl_X5_9 (sum1 hb) rfl rfl rfl ?_
      rw [e0]
      refine v_icmp_eq (tgt := 66) (q := 55) dX5_compute_52 (by decide) rfl (by omega) (by omega) (fun h52 => ?_) (fun h52 => ?_)
      · refine v_iinc4 (q := 69) rfl dX5_compute_66 (by decide) rfl ?_
        refine v_goto (q := 34) dX5_compute_69 (by decide) ?_
        first
          | exact ih (k + 1) v C (by omega) ⟨h2.1, h2.2.1, fun k2 hk2 hx r2 hr9 => h2.2.2 k2 (by rcases Nat.lt_or_ge k2 k with g | g; exact g; exact absurd (by rw [show k2 = k by omega]; exact h52) hx) hx r2 hr9⟩ h3
          | (
            have step : ∀ C3 : Prop, (¬ C3 → ∀ i, v' i = v0 i) → V cX5_compute RX5 5 none (rmk 3 77) (mE Post) 34 [aR b, aI ex, aI (bI C3), aI rd, aI ((k : Int) + 1)] [] (sm N (b + 1) v') := fun C3 h9 => by
              refine ih (k + 1) v' C3 (by omega) ⟨q3, fun i => Int.le_trans (q2 i) (h2.2.1 i), fun k2 hk2 hx r2 hr9 => ?_⟩ h9
              by_cases e : k2 = k
              · subst e
                rw [hr2] at hr9
                cases hr9
                exact q4.mono h2.2.1 (fun _ => Int.le_refl _)
              · exact (h2.2.2 k2 (by omega) hx r2 hr9).mono (fun _ => Int.le_refl _) q2
            first
              | exact step C (fun hc i => by rw [q1 h61 i, h3 hc i])
              | (have hk := step True (fun h => absurd trivial h); rw [← bI_1] at hk; exact hk))
      · refine v_aload_n (j := 0) (q := 56) rfl dX5_compute_55 rfl ?_
        refine v_iload (j := 4) (q := 58) rfl dX5_compute_56 rfl ?_
        refine v_cVI1 (q := 61) dX5_compute_58 mlX5_36 mdX5_lowerPricesBy (by decide) (sum1 hb) rfl rfl ⟨Nat.le_refl 0, Nat.le_refl 0⟩ (by exact Nat.le_of_ble_eq_true rfl) rfl (c_X5_lowerPricesBy b hb _ y ex k k r rfl hr2 h52 (by omega) ok okr hp.1 pk (by rw [vb]; exact h2.1)) ?_
        rintro z m ⟨v', C2, rfl, rfl, q1, q2, q3, q4⟩
        rw [sm_sm]; rw [vb] at q1 q2 q4
        refine v_if_eqB (tgt := 66) (q := 64) dX5_compute_61 (by decide) rfl (fun h61 => ?_) (fun h61 => ?_)
        · refine v_iinc4 (q := 69) rfl dX5_compute_66 (by decide) rfl ?_
          refine v_goto (q := 34) dX5_compute_69 (by decide) ?_
          first
            | exact ih (k + 1) v C (by omega) ⟨h2.1, h2.2.1, fun k2 hk2 hx r2 hr9 => h2.2.2 k2 (by rcases Nat.lt_or_ge k2 k with g | g; exact g; exact absurd (by rw [show k2 = k by omega]; exact h52) hx) hx r2 hr9⟩ h3
            | (
              have step : ∀ C3 : Prop, (¬ C3 → ∀ i, v' i = v0 i) → V cX5_compute RX5 5 none (rmk 3 77) (mE Post) 34 [aR b, aI ex, aI (bI C3), aI rd, aI ((k : Int) + 1)] [] (sm N (b + 1) v') := fun C3 h9 => by
                refine ih (k + 1) v' C3 (by omega) ⟨q3, fun i => Int.le_trans (q2 i) (h2.2.1 i), fun k2 hk2 hx r2 hr9 => ?_⟩ h9
                by_cases e : k2 = k
                · subst e
                  rw [hr2] at hr9
                  cases hr9
                  exact q4.mono h2.2.1 (fun _ => Int.le_refl _)
                · exact (h2.2.2 k2 (by omega) hx r2 hr9).mono (fun _ => Int.le_refl _) q2
              first
                | exact step C (fun hc i => by rw [q1 h61 i, h3 hc i])
                | (have hk := step True (fun h => absurd trivial h); rw [← bI_1] at hk; exact hk))
        · refine v_iconst (q := 65) dX5_compute_64 rfl ?_
          refine v_ist2 (q := 66) rfl dX5_compute_65 (by decide) rfl ?_
          refine v_iinc4 (q := 69) rfl dX5_compute_66 (by decide) rfl ?_
          refine v_goto (q := 34) dX5_compute_69 (by decide) ?_
          first
            | exact ih (k + 1) v C (by omega) ⟨h2.1, h2.2.1, fun k2 hk2 hx r2 hr9 => h2.2.2 k2 (by rcases Nat.lt_or_ge k2 k with g | g; exact g; exact absurd (by rw [show k2 = k by omega]; exact h52) hx) hx r2 hr9⟩ h3
            | (
              have step : ∀ C3 : Prop, (¬ C3 → ∀ i, v' i = v0 i) → V cX5_compute RX5 5 none (rmk 3 77) (mE Post) 34 [aR b, aI ex, aI (bI C3), aI rd, aI ((k : Int) + 1)] [] (sm N (b + 1) v') := fun C3 h9 => by
                refine ih (k + 1) v' C3 (by omega) ⟨q3, fun i => Int.le_trans (q2 i) (h2.2.1 i), fun k2 hk2 hx r2 hr9 => ?_⟩ h9
                by_cases e : k2 = k
                · subst e
                  rw [hr2] at hr9
                  cases hr9
                  exact q4.mono h2.2.1 (fun _ => Int.le_refl _)
                · exact (h2.2.2 k2 (by omega) hx r2 hr9).mono (fun _ => Int.le_refl _) q2
              first
                | exact step C (fun hc i => by rw [q1 h61 i, h3 hc i])
                | (have hk := step True (fun h => absurd trivial h); rw [← bI_1] at hk; exact hk))
theorem l_X5_rounds (b : Nat) (hb : isSum b) (N : Mem) (y : Sy) (ex : Int) (ok : okS y) (hpl : PL N y) (hN0 : N b 0 = ex) (hex : -6 ≤ ex ∧ ex < 20) :
    ∀ (j rd : Nat) (v : Int → Int) (C : Prop) (u : AV), rd + j = 81 → SndP y.2.2.2.2 ex v → stl (muP y.2.2.2.2 ex) (fun i => v i) 80 rd → (¬ C → ∀ i : Nat, i < 80 → v i = muP y.2.2.2.2 ex i) → V cX5_compute RX5 5 none (rmk 3 77) (mE (fun r m => r = aU ∧ ∃ v', m = sm N (b + 1) v' ∧ PRok y.2.2.2.2 ex v')) 19 [aR b, aI ex, aI (bI C), aI rd, u] [] (sm N (b + 1) v) := by
  intro j
  induction j with
  | zero =>
    intro rd v C u h1 hv hs hC
    have hrd : rd = 81 := by omega
    subst hrd
    refine v_iload_n (j := 2) (q := 20) rfl dX5_compute_19 rfl ?_
    refine v_if_eqB (tgt := 78) (q := 23) dX5_compute_20 (by decide) rfl (fun h20 => ?_) (fun h20 => ?_)
    · refine v_vret dX5_compute_78 ?_
      exact ⟨rfl, v, rfl, PRok_of ok (fun i hi => hs i hi (Nat.lt_of_lt_of_le (rnk_N hi) (by omega)))⟩
    · refine v_iload_n (j := 3) (q := 24) rfl dX5_compute_23 rfl ?_
      refine v_bipush (q := 26) (by decide) dX5_compute_24 rfl ?_
      refine v_icmp_gt (tgt := 78) (q := 29) dX5_compute_26 (by decide) rfl (by omega) (by omega) (fun h26 => ?_) (fun h26 => ?_)
      · refine v_vret dX5_compute_78 ?_
        exact ⟨rfl, v, rfl, PRok_of ok (fun i hi => hs i hi (Nat.lt_of_lt_of_le (rnk_N hi) (by omega)))⟩
      · exact absurd h26 (by omega)
  | succ j ih =>
    intro rd v C u h1 hv hs hC
    refine v_iload_n (j := 2) (q := 20) rfl dX5_compute_19 rfl ?_
    refine v_if_eqB (tgt := 78) (q := 23) dX5_compute_20 (by decide) rfl (fun h20 => ?_) (fun h20 => ?_)
    · refine v_vret dX5_compute_78 ?_
      exact ⟨rfl, v, rfl, PRok_of ok (hC h20)⟩
    · refine v_iload_n (j := 3) (q := 24) rfl dX5_compute_23 rfl ?_
      refine v_bipush (q := 26) (by decide) dX5_compute_24 rfl ?_
      refine v_icmp_gt (tgt := 78) (q := 29) dX5_compute_26 (by decide) rfl (by omega) (by omega) (fun h26 => ?_) (fun h26 => ?_)
      · exact absurd h26 (by omega)
      · refine v_iconst (q := 30) dX5_compute_29 rfl ?_
        refine v_ist2 (q := 31) rfl dX5_compute_30 (by decide) rfl ?_
        refine v_iconst (q := 32) dX5_compute_31 rfl ?_
        refine v_ist4 (q := 34) rfl dX5_compute_32 (by decide) rfl ?_
        have hk := l_X5_pass (Post := (fun r m => r = aU ∧ ∃ v', m = sm N (b + 1) v' ∧ PRok y.2.2.2.2 ex v')) b hb N y ex ok hpl hN0 hex v rd hv (fun C2 v2 k' g1 g2 => ?_) y.2.2.2.2.length 0 v False (by omega) ⟨hv, fun _ => Int.le_refl _, fun k hk => absurd hk (by omega)⟩ (fun _ _ => rfl)
        · rw [← bI_0] at hk
          exact hk
        · have rn := pas_rnd ok hv g1
          have st2 := stl.step hs rn
          refine v_iinc3 (q := 75) rfl dX5_compute_72 (by decide) rfl ?_
          refine v_goto (q := 19) dX5_compute_75 (by decide) ?_
          exact ih (rd + 1) v2 C2 _ (by omega) g1.1 st2 (fun hc i hi => by rw [g2 hc i]; exact (stl.all (stl.fix rn (fun i _ => g2 hc i) 80)) i hi)
theorem c_X5_compute (b : Nat) (hb : isSum b) (mem : Mem) (y : Sy) (ex : Int) (ok : okS y) (hpl : PL mem y) (hex : -6 ≤ ex ∧ ex < 20) : CtrV mX5_compute [aR b, aI ex] mem (fun m => ∃ v', m = sm (um mem b 0 ex) (b + 1) v' ∧ PRok y.2.2.2.2 ex v') := by
  have hbn : ∀ q, 29 ≤ q → q ≤ 37 → q ≠ b := fun q q1 q2 => by rcases hb with rfl | rfl <;> omega
  have hp : PL (um mem b 0 ex) y := hpl.congr (fun q q1 q2 => um_ne _ _ _ (hbn q q1 q2))
  have e0 : um mem b 0 ex b 0 = ex := by rw [um_same, ui_same]
  refine Ctr.ofV (ls := [aR b, aI ex, aU, aU, aU]) rfl (by decide) rfl (Nat.le_of_ble_eq_true rfl) ?_
  refine v_aload_n (j := 0) (q := 1) rfl dX5_compute_0 rfl ?_
  refine v_iload_n (j := 1) (q := 2) rfl dX5_compute_1 rfl ?_
  refine v_putI (j := 0) (q := 5) dX5_compute_2 fl_X5_9 (sum1 hb) rfl rfl rfl ?_
  refine v_aload_n (j := 0) (q := 6) rfl dX5_compute_5 rfl ?_
  refine v_getR (p' := b + 1) (q := 9) dX5_compute_6 fl_X5_15 (sum1 hb) rfl (rfc_5_2 (sum1 hb)) rfl ?_
  refine v_ldc2 (n := 16777232777216) (q := 12) klX5_23 rfl dX5_compute_9 rfl ?_
  refine v_cSV2 (q := 15) dX5_compute_12 mlX5_25 mdJ7_fill_d0a16 (by decide) ⟨Nat.le_refl 0, Nat.le_refl 0⟩ (by exact Nat.le_of_ble_eq_true rfl) rfl (c_J7_fill_d0a16 (b + 1) 80 16777232777216 _ (sum2 hb)) ?_
  rintro _ rfl
  refine v_iconst (q := 16) dX5_compute_15 rfl ?_
  refine v_ist2 (q := 17) rfl dX5_compute_16 (by decide) rfl ?_
  refine v_iconst (q := 18) dX5_compute_17 rfl ?_
  refine v_ist3 (q := 19) rfl dX5_compute_18 (by decide) rfl ?_
  have hv : SndP y.2.2.2.2 ex (fun j => if 0 ≤ j ∧ j < 80 then NO else (um mem b 0 ex) (b + 1) j) := fun i i0 i1 => by
    show 0 ≤ (if 0 ≤ i ∧ i < 80 then NO else _) ∧ (if 0 ≤ i ∧ i < 80 then NO else _) ≤ NO ∧ ((if 0 ≤ i ∧ i < 80 then NO else _) < NO → _)
    rw [if_pos ⟨i0, i1⟩]
    exact ⟨by unfold NO; omega, Int.le_refl _, fun h => absurd h (Int.lt_irrefl _)⟩
  have hk := l_X5_rounds b hb (um mem b 0 ex) y ex ok hp e0 hex 81 0 _ True aU (by omega) hv (fun i _ h => absurd h (by omega)) (fun h => absurd trivial h)
  rw [← bI_1] at hk
  exact hk
