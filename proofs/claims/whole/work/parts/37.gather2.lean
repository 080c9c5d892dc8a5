/-! ===== Summary.gather: the loops ===== -/
theorem l_X5_gatherpass {Post : AV → Mem → Prop} (P : Int → Int → Prop) (b g : Nat) (hb : isSum b) (hg : isRow g) (N : Mem) (y : Sy) (ex : Int) (ok : okS y) (hpl : PL N y) (hN0 : N b 0 = ex) (hex : -6 ≤ ex ∧ ex < 20) (hpr : PRok y.2.2.2.2 ex (N (b + 1))) (w0 : Int → Int) (hok : GOK P (eG y.1 (N (b + 1))) y.2.2.2.2 ex w0) (v0 : Int → Int) (rd : Int) (hv0 : GSnd P v0) (K : ∀ C v k', pasE P (eG y.1 (N (b + 1))) y.2.2.2.2 ex v0 v y.2.2.2.2.length → (¬ C → ∀ i, v i = v0 i) → V cX5_gather RX5 5 none (rmk 2 52) (mE Post) 58 [aR b, aR g, aI (bI C), aI rd, aI k'] [] (sm N g v)) :
    ∀ (j k : Nat) (v : Int → Int) (C : Prop), k + j = y.2.2.2.2.length → pasE P (eG y.1 (N (b + 1))) y.2.2.2.2 ex v0 v k → (¬ C → ∀ i, v i = v0 i) → V cX5_gather RX5 5 none (rmk 2 52) (mE Post) 19 [aR b, aR g, aI (bI C), aI rd, aI k] [] (sm N g v) := by
  have hNO := NO_def
  have hbn : ∀ q, q ≤ 41 → q ≠ g := fun q q2 => by have := hg.2; omega
  have hbb : b + 1 ≤ 41 := by rcases hb with rfl | rfl <;> omega
  have hlen := ok.2.2.2.2.1
  intro j
  induction j with
  | zero =>
    intro k v C h1 h2 h3
    have hk : k = y.2.2.2.2.length := by omega
    subst hk
    have hp := hpl.congr (m1 := sm N g v) (fun q q1 q2 => sm_ne _ _ (hbn q (by omega)))
    refine v_iload (j := 4) (q := 21) rfl dX5_gather_19 rfl ?_
    refine v_aload_n (j := 0) (q := 22) rfl dX5_gather_21 rfl ?_
    refine v_getR (p' := 29) (q := 25) dX5_gather_22 fl_X5_19 (sum1 hb) rfl (rfc_5_1 (sum1 hb)) rfl ?_
    refine v_getI (j := 1) (q := 28) dX5_gather_25 fl_X5_31 kd_29 rfl rfl rfl ?_
    rw [hp.2.1]
    refine v_icmp_ge (tgt := 58) (q := 31) dX5_gather_28 (by decide) rfl (by omega) (by omega) (fun h28 => ?_) (fun h28 => ?_)
    · exact K C v _ h2 h3
    · exact absurd h28 (by omega)
  | succ j ih =>
    intro k v C h1 h2 h3
    have hp := hpl.congr (m1 := sm N g v) (fun q q1 q2 => sm_ne _ _ (hbn q (by omega)))
    have e0 : sm N g v b 0 = ex := by rw [sm_ne _ _ (hbn b (by omega))]; exact hN0
    have hk : k < y.2.2.2.2.length := by omega
    obtain ⟨r, hr⟩ : ∃ r, r = y.2.2.2.2[k] := ⟨_, rfl⟩
    have hr2 : y.2.2.2.2[k]? = some r := by rw [hr]; exact List.getElem?_eq_getElem hk
    have okr := ok.2.2.2.2.2 r (List.mem_of_getElem? hr2)
    have pk := hp.2.2.2.2 k hk
    rw [← hr] at pk
    have vb : sm N g v g = v := sm_same _ _ _
    have vp : sm N g v (b + 1) = N (b + 1) := sm_ne _ _ (hbn _ hbb)
    have hd := (rl_cases okr ok.2.1.2 ok.1.2).1
    have hvd := h2.1 (hdR r) hd.1 hd.2
    have skip : ((k : Int) = ex ∨ ∀ i c j2, eG y.1 (N (b + 1)) r i c j2 → NO ≤ v j2) → V cX5_gather RX5 5 none (rmk 2 52) (mE Post) 19 [aR b, aR g, aI (bI C), aI rd, aI ((k : Int) + 1)] [] (sm N g v) := fun hq => by
      refine ih (k + 1) v C (by omega) ⟨h2.1, h2.2.1, fun k2 hk2 hx r2 hr9 => ?_⟩ h3
      by_cases e : k2 = k
      · subst e
        rw [hr2] at hr9
        cases hr9
        intro i c j2 he hj
        rcases hq with hq | hq
        · exact absurd hq hx
        · have a := hq i c j2 he
          have bb := h2.2.1 j2
          omega
      · exact h2.2.2 k2 (by omega) hx r2 hr9
    have step : ∀ (v' : Int → Int) (C3 : Prop), (∀ i, v' i ≤ v i) → GSnd P v' → rlE (eG y.1 (N (b + 1))) r v v' → (¬ C3 → ∀ i, v' i = v0 i) → V cX5_gather RX5 5 none (rmk 2 52) (mE Post) 19 [aR b, aR g, aI (bI C3), aI rd, aI ((k : Int) + 1)] [] (sm N g v') := fun v' C3 q2 q3 q4 h9 => by
      refine ih (k + 1) v' C3 (by omega) ⟨q3, fun i => Int.le_trans (q2 i) (h2.2.1 i), fun k2 hk2 hx r2 hr9 => ?_⟩ h9
      by_cases e : k2 = k
      · subst e
        rw [hr2] at hr9
        cases hr9
        exact q4.mono h2.2.1 (fun _ => Int.le_refl _)
      · exact (h2.2.2 k2 (by omega) hx r2 hr9).mono (fun _ => Int.le_refl _) q2
    refine v_iload (j := 4) (q := 21) rfl dX5_gather_19 rfl ?_
    refine v_aload_n (j := 0) (q := 22) rfl dX5_gather_21 rfl ?_
    refine v_getR (p' := 29) (q := 25) dX5_gather_22 fl_X5_19 (sum1 hb) rfl (rfc_5_1 (sum1 hb)) rfl ?_
    refine v_getI (j := 1) (q := 28) dX5_gather_25 fl_X5_31 kd_29 rfl rfl rfl ?_
    rw [hp.2.1]
    refine v_icmp_ge (tgt := 58) (q := 31) dX5_gather_28 (by decide) rfl (by omega) (by omega) (fun h28 => ?_) (fun h28 => ?_)
    · exact absurd h28 (by omega)
    · refine v_iload (j := 4) (q := 33) rfl dX5_gather_31 rfl ?_
      refine v_aload_n (j := 0) (q := 34) rfl dX5_gather_33 rfl ?_
      refine v_getI (j := 0) (q := 37) dX5_gather_34 fl_X5_9 (sum1 hb) rfl rfl rfl ?_
      rw [e0]
      refine v_icmp_eq (tgt := 52) (q := 40) dX5_gather_37 (by decide) rfl (by omega) (by omega) (fun h37 => ?_) (fun h37 => ?_)
      · refine v_iinc4 (q := 55) rfl dX5_gather_52 (by decide) rfl ?_
        refine v_goto (q := 19) dX5_gather_55 (by decide) ?_
        first
          | exact skip (Or.inl h37)
          | exact step v' C q2 q3 q4 (fun hc i => by rw [q1 h47 i, h3 hc i])
          | (have hk := step v' True q2 q3 q4 (fun h => absurd trivial h)
             rw [← bI_1] at hk
             exact hk)
      · refine v_aload_n (j := 0) (q := 41) rfl dX5_gather_40 rfl ?_
        refine v_iload (j := 4) (q := 43) rfl dX5_gather_41 rfl ?_
        refine v_aload_n (j := 1) (q := 44) rfl dX5_gather_43 rfl ?_
        refine v_cVI2 (q := 47) dX5_gather_44 mlX5_82 mdX5_gatherBy (by decide) (sum1 hb) rfl rfl ⟨Nat.le_refl 0, Nat.le_refl 0⟩ (by exact Nat.le_of_ble_eq_true rfl) rfl (c_X5_gatherBy P b g hb hg _ y ex k k r rfl hr2 h37 (by omega) ok okr hp.1 pk (by rw [vp]; exact hpr) (by rw [vp]; exact hok.2.1 k r hr2 h37) (by rw [vb]; exact h2.1)) ?_
        rintro z m ⟨v', C2, rfl, rfl, q1, q2, q3, q4⟩
        rw [sm_sm]; rw [vb] at q1 q2 q4; rw [vp] at q4
        refine v_if_eqB (tgt := 52) (q := 50) dX5_gather_47 (by decide) rfl (fun h47 => ?_) (fun h47 => ?_)
        · refine v_iinc4 (q := 55) rfl dX5_gather_52 (by decide) rfl ?_
          refine v_goto (q := 19) dX5_gather_55 (by decide) ?_
          first
            | exact skip (Or.inl h37)
            | exact step v' C q2 q3 q4 (fun hc i => by rw [q1 h47 i, h3 hc i])
            | (have hk := step v' True q2 q3 q4 (fun h => absurd trivial h)
               rw [← bI_1] at hk
               exact hk)
        · refine v_iconst (q := 51) dX5_gather_50 rfl ?_
          refine v_ist2 (q := 52) rfl dX5_gather_51 (by decide) rfl ?_
          refine v_iinc4 (q := 55) rfl dX5_gather_52 (by decide) rfl ?_
          refine v_goto (q := 19) dX5_gather_55 (by decide) ?_
          first
            | exact skip (Or.inl h37)
            | exact step v' C q2 q3 q4 (fun hc i => by rw [q1 h47 i, h3 hc i])
            | (have hk := step v' True q2 q3 q4 (fun h => absurd trivial h)
               rw [← bI_1] at hk
               exact hk)
theorem l_X5_gatherrounds (P : Int → Int → Prop) (b g : Nat) (hb : isSum b) (hg : isRow g) (N : Mem) (y : Sy) (ex : Int) (ok : okS y) (hpl : PL N y) (hN0 : N b 0 = ex) (hex : -6 ≤ ex ∧ ex < 20) (hpr : PRok y.2.2.2.2 ex (N (b + 1))) (w0 : Int → Int) (hok : GOK P (eG y.1 (N (b + 1))) y.2.2.2.2 ex w0) :
    ∀ (j rd : Nat) (v : Int → Int) (C : Prop) (u : AV), rd + j = 21 → GSnd P v → (∀ i, v i ≤ w0 i) → stl (muG P) (fun i => v i) 20 rd → (¬ C → ∀ i : Nat, i < 20 → v i = muG P i) → V cX5_gather RX5 5 none (rmk 2 52) (mE (fun r m => r = aU ∧ ∃ v', sm N g v' = m ∧ ∀ i, 0 ≤ i → i < 20 → TMn NO (P i) (v' i))) 4 [aR b, aR g, aI (bI C), aI rd, u] [] (sm N g v) := by
  intro j
  induction j with
  | zero =>
    intro rd v C u h1 hv hw hs hC
    have hrd : rd = 21 := by omega
    subst hrd
    refine v_iload_n (j := 2) (q := 5) rfl dX5_gather_4 rfl ?_
    refine v_if_eqB (tgt := 64) (q := 8) dX5_gather_5 (by decide) rfl (fun h5 => ?_) (fun h5 => ?_)
    · refine v_vret dX5_gather_64 ?_
      exact ⟨rfl, v, rfl, GOK.all hok.1 (fun i hi => hs i hi (Nat.lt_of_lt_of_le (rnk_N hi) (by omega)))⟩
    · refine v_iload_n (j := 3) (q := 9) rfl dX5_gather_8 rfl ?_
      refine v_bipush (q := 11) (by decide) dX5_gather_9 rfl ?_
      refine v_icmp_gt (tgt := 64) (q := 14) dX5_gather_11 (by decide) rfl (by omega) (by omega) (fun h11 => ?_) (fun h11 => ?_)
      · refine v_vret dX5_gather_64 ?_
        exact ⟨rfl, v, rfl, GOK.all hok.1 (fun i hi => hs i hi (Nat.lt_of_lt_of_le (rnk_N hi) (by omega)))⟩
      · exact absurd h11 (by omega)
  | succ j ih =>
    intro rd v C u h1 hv hw hs hC
    refine v_iload_n (j := 2) (q := 5) rfl dX5_gather_4 rfl ?_
    refine v_if_eqB (tgt := 64) (q := 8) dX5_gather_5 (by decide) rfl (fun h5 => ?_) (fun h5 => ?_)
    · refine v_vret dX5_gather_64 ?_
      exact ⟨rfl, v, rfl, GOK.all hok.1 (hC h5)⟩
    · refine v_iload_n (j := 3) (q := 9) rfl dX5_gather_8 rfl ?_
      refine v_bipush (q := 11) (by decide) dX5_gather_9 rfl ?_
      refine v_icmp_gt (tgt := 64) (q := 14) dX5_gather_11 (by decide) rfl (by omega) (by omega) (fun h11 => ?_) (fun h11 => ?_)
      · exact absurd h11 (by omega)
      · refine v_iconst (q := 15) dX5_gather_14 rfl ?_
        refine v_ist2 (q := 16) rfl dX5_gather_15 (by decide) rfl ?_
        refine v_iconst (q := 17) dX5_gather_16 rfl ?_
        refine v_ist4 (q := 19) rfl dX5_gather_17 (by decide) rfl ?_
        have hk := l_X5_gatherpass (Post := (fun r m => r = aU ∧ ∃ v', sm N g v' = m ∧ ∀ i, 0 ≤ i → i < 20 → TMn NO (P i) (v' i))) P b g hb hg N y ex ok hpl hN0 hex hpr w0 hok v rd hv (fun C2 v2 k' g1 g2 => ?_) y.2.2.2.2.length 0 v False (by omega) ⟨hv, fun _ => Int.le_refl _, fun k hk => absurd hk (by omega)⟩ (fun _ _ => rfl)
        · rw [← bI_0] at hk
          exact hk
        · have rn := hok.rnd hv hw g1
          have st2 := stl.step hs rn
          refine v_iinc3 (q := 61) rfl dX5_gather_58 (by decide) rfl ?_
          refine v_goto (q := 4) dX5_gather_61 (by decide) ?_
          exact ih (rd + 1) v2 C2 _ (by omega) g1.1 (fun i => Int.le_trans (g1.2.1 i) (hw i)) st2 (fun hc i hi => by rw [g2 hc i]; exact (stl.all (stl.fix rn (fun i _ => g2 hc i) 20)) i hi)
theorem c_X5_gather (P : Int → Int → Prop) (b g : Nat) (hb : isSum b) (hg : isRow g) (mem : Mem) (y : Sy) (ex : Int) (ok : okS y) (hpl : PL mem y) (hN0 : mem b 0 = ex) (hex : -6 ≤ ex ∧ ex < 20) (hpr : PRok y.2.2.2.2 ex (mem (b + 1))) (hok : GOK P (eG y.1 (mem (b + 1))) y.2.2.2.2 ex (mem g)) : CtrV mX5_gather [aR b, aR g] mem (fun m => ∃ v', sm mem g v' = m ∧ ∀ i, 0 ≤ i → i < 20 → TMn NO (P i) (v' i)) := by
  refine Ctr.ofV (ls := [aR b, aR g, aU, aU, aU]) rfl (by decide) rfl (Nat.le_of_ble_eq_true rfl) ?_
  refine v_iconst (q := 1) dX5_gather_0 rfl ?_
  refine v_ist2 (q := 2) rfl dX5_gather_1 (by decide) rfl ?_
  refine v_iconst (q := 3) dX5_gather_2 rfl ?_
  refine v_ist3 (q := 4) rfl dX5_gather_3 (by decide) rfl ?_
  have hk := l_X5_gatherrounds P b g hb hg mem y ex ok hpl hN0 hex hpr (mem g) hok 21 0 (mem g) True aU (by omega) hok.2.2.2 (fun _ => Int.le_refl _) (fun i _ h => absurd h (by omega)) (fun h => absurd trivial h)
  rw [sm_id mem g (fun _ => rfl), ← bI_1] at hk
  exact hk
