/-! ===== Summary.spread: the loops ===== -/
theorem l_X5_spreadpass {Post : AV → Mem → Prop} (P : Int → Int → Prop) (b g : Nat) (hb : isSum b) (hg : isRow g) (N : Mem) (y : Sy) (ex : Int) (ok : okS y) (hpl : PL N y) (hN0 : N b 0 = ex) (hex : -6 ≤ ex ∧ ex < 20) (hpr : PRok y.2.2.2.2 ex (N (b + 1))) (w0 : Int → Int) (hok : GOK P (eS y.1 (N (b + 1))) y.2.2.2.2 ex w0) (v0 : Int → Int) (rd : Int) (hv0 : GSnd P v0) (K : ∀ C v k', pasE P (eS y.1 (N (b + 1))) y.2.2.2.2 ex v0 v y.2.2.2.2.length → (¬ C → ∀ i, v i = v0 i) → V cX5_spread RX5 5 none (rmk 2 51) (mE Post) 77 [aR b, aR g, aI (bI C), aI rd, aI k'] [] (sm N g v)) :
    ∀ (j k : Nat) (v : Int → Int) (C : Prop), k + j = y.2.2.2.2.length → pasE P (eS y.1 (N (b + 1))) y.2.2.2.2 ex v0 v k → (¬ C → ∀ i, v i = v0 i) → V cX5_spread RX5 5 none (rmk 2 51) (mE Post) 19 [aR b, aR g, aI (bI C), aI rd, aI k] [] (sm N g v) := by
  have hNO := NO_def
  have hbn : ∀ q, q ≤ 41 → q ≠ g := fun q q2 => by have := hg.2; omega
  have hbb : b + 1 ≤ 41 := by rcases hb with rfl | rfl <;> omega
  have hlen := ok.2.2.2.2.1
  intro j
  induction j with
  | zero =>
    intro k v C h1 h2 h3
    have hk : k = y.2.2.2.2.length := by omega
    subst hk
    have hp := hpl.congr (m1 := sm N g v) (fun q q1 q2 => sm_ne _ _ (hbn q (by omega)))
    refine v_iload (j := 4) (q := 21) rfl dX5_spread_19 rfl ?_
    refine v_aload_n (j := 0) (q := 22) rfl dX5_spread_21 rfl ?_
    refine v_getR (p' := 29) (q := 25) dX5_spread_22 fl_X5_19 (sum1 hb) rfl (rfc_5_1 (sum1 hb)) rfl ?_
    refine v_getI (j := 1) (q := 28) dX5_spread_25 fl_X5_31 kd_29 rfl rfl rfl ?_
    rw [hp.2.1]
    refine v_icmp_ge (tgt := 77) (q := 31) dX5_spread_28 (by decide) rfl (by omega) (by omega) (fun h28 => ?_) (fun h28 => ?_)
    · exact K C v _ h2 h3
    · exact absurd h28 (by omega)
  | succ j ih =>
    intro k v C h1 h2 h3
    have hp := hpl.congr (m1 := sm N g v) (fun q q1 q2 => sm_ne _ _ (hbn q (by omega)))
    have e0 : sm N g v b 0 = ex := by rw [sm_ne _ _ (hbn b (by omega))]; exact hN0
    have hk : k < y.2.2.2.2.length := by omega
    obtain ⟨r, hr⟩ : ∃ r, r = y.2.2.2.2[k] := ⟨_, rfl⟩
    have hr2 : y.2.2.2.2[k]? = some r := by rw [hr]; exact List.getElem?_eq_getElem hk
    have okr := ok.2.2.2.2.2 r (List.mem_of_getElem? hr2)
    have pk := hp.2.2.2.2 k hk
    rw [← hr] at pk
    have vb : sm N g v g = v := sm_same _ _ _
    have vp : sm N g v (b + 1) = N (b + 1) := sm_ne _ _ (hbn _ hbb)
    have hd := (rl_cases okr ok.2.1.2 ok.1.2).1
    have hvd := h2.1 (hdR r) hd.1 hd.2
    have skip : ((k : Int) = ex ∨ ∀ i c j2, eS y.1 (N (b + 1)) r i c j2 → NO ≤ v j2) → V cX5_spread RX5 5 none (rmk 2 51) (mE Post) 19 [aR b, aR g, aI (bI C), aI rd, aI ((k : Int) + 1)] [] (sm N g v) := fun hq => by
      refine ih (k + 1) v C (by omega) ⟨h2.1, h2.2.1, fun k2 hk2 hx r2 hr9 => ?_⟩ h3
      by_cases e : k2 = k
      · subst e
        rw [hr2] at hr9
        cases hr9
        intro i c j2 he hj
        rcases hq with hq | hq
        · exact absurd hq hx
        · have a := hq i c j2 he
          have bb := h2.2.1 j2
          omega
      · exact h2.2.2 k2 (by omega) hx r2 hr9
    have step : ∀ (v' : Int → Int) (C3 : Prop), (∀ i, v' i ≤ v i) → GSnd P v' → rlE (eS y.1 (N (b + 1))) r v v' → (¬ C3 → ∀ i, v' i = v0 i) → V cX5_spread RX5 5 none (rmk 2 51) (mE Post) 19 [aR b, aR g, aI (bI C3), aI rd, aI ((k : Int) + 1)] [] (sm N g v') := fun v' C3 q2 q3 q4 h9 => by
      refine ih (k + 1) v' C3 (by omega) ⟨q3, fun i => Int.le_trans (q2 i) (h2.2.1 i), fun k2 hk2 hx r2 hr9 => ?_⟩ h9
      by_cases e : k2 = k
      · subst e
        rw [hr2] at hr9
        cases hr9
        exact q4.mono h2.2.1 (fun _ => Int.le_refl _)
      · exact (h2.2.2 k2 (by omega) hx r2 hr9).mono (fun _ => Int.le_refl _) q2
    refine v_iload (j := 4) (q := 21) rfl dX5_spread_19 rfl ?_
    refine v_aload_n (j := 0) (q := 22) rfl dX5_spread_21 rfl ?_
    refine v_getR (p' := 29) (q := 25) dX5_spread_22 fl_X5_19 (sum1 hb) rfl (rfc_5_1 (sum1 hb)) rfl ?_
    refine v_getI (j := 1) (q := 28) dX5_spread_25 fl_X5_31 kd_29 rfl rfl rfl ?_
    rw [hp.2.1]
    refine v_icmp_ge (tgt := 77) (q := 31) dX5_spread_28 (by decide) rfl (by omega) (by omega) (fun h28 => ?_) (fun h28 => ?_)
    · exact absurd h28 (by omega)
    · refine v_iload (j := 4) (q := 33) rfl dX5_spread_31 rfl ?_
      refine v_aload_n (j := 0) (q := 34) rfl dX5_spread_33 rfl ?_
      refine v_getI (j := 0) (q := 37) dX5_spread_34 fl_X5_9 (sum1 hb) rfl rfl rfl ?_
      rw [e0]
      refine v_icmp_eq (tgt := 71) (q := 40) dX5_spread_37 (by decide) rfl (by omega) (by omega) (fun h37 => ?_) (fun h37 => ?_)
      · refine v_iinc4 (q := 74) rfl dX5_spread_71 (by decide) rfl ?_
        refine v_goto (q := 19) dX5_spread_74 (by decide) ?_
        first
          | exact skip (Or.inl h37)
          | exact skip (Or.inr (fun i c j2 he => by have : j2 = hdR r := (by rcases he with ⟨-, e, -⟩ | ⟨-, m, -, -, e, -⟩ <;> exact e); rw [this]; exact h55))
          | exact step v' C q2 q3 q4 (fun hc i => by rw [q1 h66 i, h3 hc i])
          | (have hk := step v' True q2 q3 q4 (fun h => absurd trivial h)
             rw [← bI_1] at hk
             exact hk)
      · refine v_aload_n (j := 1) (q := 41) rfl dX5_spread_40 rfl ?_
        refine v_aload_n (j := 0) (q := 42) rfl dX5_spread_41 rfl ?_
        refine v_getR (p' := 29) (q := 45) dX5_spread_42 fl_X5_19 (sum1 hb) rfl (rfc_5_1 (sum1 hb)) rfl ?_
        refine v_getR (p' := 32) (q := 48) dX5_spread_45 fl_X5_40 kd_29 rfl (rfc_2_4 kd_29) rfl ?_
        refine v_iload (j := 4) (q := 50) rfl dX5_spread_48 rfl ?_
        refine v_iald (q := 51) dX5_spread_50 kd_32 (by omega) (by omega) rfl ?_
        rw [pk.1]
        refine v_lald (q := 52) dX5_spread_51 hg.1 (by omega) (by omega) rfl ?_
        rw [vb]
        refine v_ldc2 (n := 16777232777216) (q := 55) klX5_23 rfl dX5_spread_52 rfl ?_
        refine v_lcmp_ge (tgt := 71) (q := 59) dX5_spread_55 dX5_spread_56 (by decide) rfl (by omega) (by omega) (fun h55 => ?_) (fun h55 => ?_)
        · refine v_iinc4 (q := 74) rfl dX5_spread_71 (by decide) rfl ?_
          refine v_goto (q := 19) dX5_spread_74 (by decide) ?_
          first
            | exact skip (Or.inl h37)
            | exact skip (Or.inr (fun i c j2 he => by have : j2 = hdR r := (by rcases he with ⟨-, e, -⟩ | ⟨-, m, -, -, e, -⟩ <;> exact e); rw [this]; exact h55))
            | exact step v' C q2 q3 q4 (fun hc i => by rw [q1 h66 i, h3 hc i])
            | (have hk := step v' True q2 q3 q4 (fun h => absurd trivial h)
               rw [← bI_1] at hk
               exact hk)
        · refine v_aload_n (j := 0) (q := 60) rfl dX5_spread_59 rfl ?_
          refine v_iload (j := 4) (q := 62) rfl dX5_spread_60 rfl ?_
          refine v_aload_n (j := 1) (q := 63) rfl dX5_spread_62 rfl ?_
          refine v_cVI2 (q := 66) dX5_spread_63 mlX5_78 mdX5_spreadBy (by decide) (sum1 hb) rfl rfl ⟨Nat.le_refl 0, Nat.le_refl 0⟩ (by exact Nat.le_of_ble_eq_true rfl) rfl (c_X5_spreadBy P b g hb hg _ y ex k k r rfl hr2 h37 (by omega) ok okr hp.1 pk (by rw [vp]; exact hpr) (by rw [vp]; exact hok.2.1 k r hr2 h37) (by rw [vb]; exact h2.1) (by rw [vb]; exact Int.not_le.mp h55)) ?_
          rintro z m ⟨v', C2, rfl, rfl, q1, q2, q3, q4⟩
          rw [sm_sm]; rw [vb] at q1 q2 q4; rw [vp] at q4
          refine v_if_eqB (tgt := 71) (q := 69) dX5_spread_66 (by decide) rfl (fun h66 => ?_) (fun h66 => ?_)
          · refine v_iinc4 (q := 74) rfl dX5_spread_71 (by decide) rfl ?_
            refine v_goto (q := 19) dX5_spread_74 (by decide) ?_
            first
              | exact skip (Or.inl h37)
              | exact skip (Or.inr (fun i c j2 he => by have : j2 = hdR r := (by rcases he with ⟨-, e, -⟩ | ⟨-, m, -, -, e, -⟩ <;> exact e); rw [this]; exact h55))
              | exact step v' C q2 q3 q4 (fun hc i => by rw [q1 h66 i, h3 hc i])
              | (have hk := step v' True q2 q3 q4 (fun h => absurd trivial h)
                 rw [← bI_1] at hk
                 exact hk)
          · refine v_iconst (q := 70) dX5_spread_69 rfl ?_
            refine v_ist2 (q := 71) rfl dX5_spread_70 (by decide) rfl ?_
            refine v_iinc4 (q := 74) rfl dX5_spread_71 (by decide) rfl ?_
            refine v_goto (q := 19) dX5_spread_74 (by decide) ?_
            first
              | exact skip (Or.inl h37)
              | exact skip (Or.inr (fun i c j2 he => by have : j2 = hdR r := (by rcases he with ⟨-, e, -⟩ | ⟨-, m, -, -, e, -⟩ <;> exact e); rw [this]; exact h55))
              | exact step v' C q2 q3 q4 (fun hc i => by rw [q1 h66 i, h3 hc i])
              | (have hk := step v' True q2 q3 q4 (fun h => absurd trivial h)
                 rw [← bI_1] at hk
                 exact hk)
theorem l_X5_spreadrounds (P : Int → Int → Prop) (b g : Nat) (hb : isSum b) (hg : isRow g) (N : Mem) (y : Sy) (ex : Int) (ok : okS y) (hpl : PL N y) (hN0 : N b 0 = ex) (hex : -6 ≤ ex ∧ ex < 20) (hpr : PRok y.2.2.2.2 ex (N (b + 1))) (w0 : Int → Int) (hok : GOK P (eS y.1 (N (b + 1))) y.2.2.2.2 ex w0) :
    ∀ (j rd : Nat) (v : Int → Int) (C : Prop) (u : AV), rd + j = 21 → GSnd P v → (∀ i, v i ≤ w0 i) → stl (muG P) (fun i => v i) 20 rd → (¬ C → ∀ i : Nat, i < 20 → v i = muG P i) → V cX5_spread RX5 5 none (rmk 2 51) (mE (fun r m => r = aU ∧ ∃ v', sm N g v' = m ∧ ∀ i, 0 ≤ i → i < 20 → TMn NO (P i) (v' i))) 4 [aR b, aR g, aI (bI C), aI rd, u] [] (sm N g v) := by
  intro j
  induction j with
  | zero =>
    intro rd v C u h1 hv hw hs hC
    have hrd : rd = 21 := by omega
    subst hrd
    refine v_iload_n (j := 2) (q := 5) rfl dX5_spread_4 rfl ?_
    refine v_if_eqB (tgt := 83) (q := 8) dX5_spread_5 (by decide) rfl (fun h5 => ?_) (fun h5 => ?_)
    · refine v_vret dX5_spread_83 ?_
      exact ⟨rfl, v, rfl, GOK.all hok.1 (fun i hi => hs i hi (Nat.lt_of_lt_of_le (rnk_N hi) (by omega)))⟩
    · refine v_iload_n (j := 3) (q := 9) rfl dX5_spread_8 rfl ?_
      refine v_bipush (q := 11) (by decide) dX5_spread_9 rfl ?_
      refine v_icmp_gt (tgt := 83) (q := 14) dX5_spread_11 (by decide) rfl (by omega) (by omega) (fun h11 => ?_) (fun h11 => ?_)
      · refine v_vret dX5_spread_83 ?_
        exact ⟨rfl, v, rfl, GOK.all hok.1 (fun i hi => hs i hi (Nat.lt_of_lt_of_le (rnk_N hi) (by omega)))⟩
      · exact absurd h11 (by omega)
  | succ j ih =>
    intro rd v C u h1 hv hw hs hC
    refine v_iload_n (j := 2) (q := 5) rfl dX5_spread_4 rfl ?_
    refine v_if_eqB (tgt := 83) (q := 8) dX5_spread_5 (by decide) rfl (fun h5 => ?_) (fun h5 => ?_)
    · refine v_vret dX5_spread_83 ?_
      exact ⟨rfl, v, rfl, GOK.all hok.1 (hC h5)⟩
    · refine v_iload_n (j := 3) (q := 9) rfl dX5_spread_8 rfl ?_
      refine v_bipush (q := 11) (by decide) dX5_spread_9 rfl ?_
      refine v_icmp_gt (tgt := 83) (q := 14) dX5_spread_11 (by decide) rfl (by omega) (by omega) (fun h11 => ?_) (fun h11 => ?_)
      · exact absurd h11 (by omega)
      · refine v_iconst (q := 15) dX5_spread_14 rfl ?_
        refine v_ist2 (q := 16) rfl dX5_spread_15 (by decide) rfl ?_
        refine v_iconst (q := 17) dX5_spread_16 rfl ?_
        refine v_ist4 (q := 19) rfl dX5_spread_17 (by decide) rfl ?_
        have hk := l_X5_spreadpass (Post := (fun r m => r = aU ∧ ∃ v', sm N g v' = m ∧ ∀ i, 0 ≤ i → i < 20 → TMn NO (P i) (v' i))) P b g hb hg N y ex ok hpl hN0 hex hpr w0 hok v rd hv (fun C2 v2 k' g1 g2 => ?_) y.2.2.2.2.length 0 v False (by omega) ⟨hv, fun _ => Int.le_refl _, fun k hk => absurd hk (by omega)⟩ (fun _ _ => rfl)
        · rw [← bI_0] at hk
          exact hk
        · have rn := hok.rnd hv hw g1
          have st2 := stl.step hs rn
          refine v_iinc3 (q := 80) rfl dX5_spread_77 (by decide) rfl ?_
          refine v_goto (q := 4) dX5_spread_80 (by decide) ?_
          exact ih (rd + 1) v2 C2 _ (by omega) g1.1 (fun i => Int.le_trans (g1.2.1 i) (hw i)) st2 (fun hc i hi => by rw [g2 hc i]; exact (stl.all (stl.fix rn (fun i _ => g2 hc i) 20)) i hi)
theorem c_X5_spread (P : Int → Int → Prop) (b g : Nat) (hb : isSum b) (hg : isRow g) (mem : Mem) (y : Sy) (ex : Int) (ok : okS y) (hpl : PL mem y) (hN0 : mem b 0 = ex) (hex : -6 ≤ ex ∧ ex < 20) (hpr : PRok y.2.2.2.2 ex (mem (b + 1))) (hok : GOK P (eS y.1 (mem (b + 1))) y.2.2.2.2 ex (mem g)) : CtrV mX5_spread [aR b, aR g] mem (fun m => ∃ v', sm mem g v' = m ∧ ∀ i, 0 ≤ i → i < 20 → TMn NO (P i) (v' i)) := by
  refine Ctr.ofV (ls := [aR b, aR g, aU, aU, aU]) rfl (by decide) rfl (Nat.le_of_ble_eq_true rfl) ?_
  refine v_iconst (q := 1) dX5_spread_0 rfl ?_
  refine v_ist2 (q := 2) rfl dX5_spread_1 (by decide) rfl ?_
  refine v_iconst (q := 3) dX5_spread_2 rfl ?_
  refine v_ist3 (q := 4) rfl dX5_spread_3 (by decide) rfl ?_
  have hk := l_X5_spreadrounds P b g hb hg mem y ex ok hpl hN0 hex hpr (mem g) hok 21 0 (mem g) True aU (by omega) hok.2.2.2 (fun _ => Int.le_refl _) (fun i _ h => absurd h (by omega)) (fun h => absurd trivial h)
  rw [sm_id mem g (fun _ => rfl), ← bI_1] at hk
  exact hk
