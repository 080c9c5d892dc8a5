/-! ===== StackLab: distance, steps, price, wordPrice, distanceWithout, tolerance ===== -/
theorem askd.d {y : Sy} {p w : Int} (h : askd y p w) : (∀ d ∈ dgs w, 1 ≤ d ∧ d ≤ y.2.1) ∧ (dgs w).length ≤ 6 := by
  refine ⟨h.2.1.2, ?_⟩
  have a := dgs_len w
  have b := h.2.2
  omega
theorem c_X9_distance {MO : Mem → Sy → Prop} (hMO : MOc MO) (p w : Int) (mem : Mem) (A : AS) (h : KI MO mem A) (hp : R32 p) (hw : R32 w) : CtrI mX9_distance [aR 0, aI p, aI w] mem (fun z m => sDis A.1 p w = z ∧ KQ MO mem A m) := by
  have f := h.1.1.facts
  obtain ⟨a1, a2, a3, a4, a5, hc⟩ := eA h.1.1
  have ok := h.1.1.2.2.1
  refine Ctr.ofV (ls := [aR 0, aI p, aI w]) rfl (by decide) rfl (Nat.le_of_ble_eq_true rfl) ?_
  refine v_aload_n (j := 0) (q := 1) rfl dX9_distance_0 rfl ?_
  refine v_iload_n (j := 1) (q := 2) rfl dX9_distance_1 rfl ?_
  refine v_iload_n (j := 2) (q := 3) rfl dX9_distance_2 rfl ?_
  refine v_cVI2 (q := 6) dX9_distance_3 mlX9_169 mdX9_isAsked (by decide) kd_0 rfl rfl ⟨Nat.le_refl 0, Nat.le_refl 0⟩ (by exact Nat.le_of_ble_eq_true rfl) rfl (c_X9_isAsked p w mem hp hw (by omega) (by omega)) ?_
  rw [← a1, ← a2]
  rintro z0 m1 ⟨rfl, t1, t2⟩
  have h1 := h.wd hMO t1
  refine v_if_neB (tgt := 11) (q := 9) dX9_distance_6 (by decide) rfl (fun h6 => ?_) (fun h6 => ?_)
  · have hk : askd A.1 p w := h6
    refine v_aload_n (j := 0) (q := 12) rfl dX9_distance_11 rfl ?_
    refine v_iload_n (j := 1) (q := 13) rfl dX9_distance_12 rfl ?_
    refine v_cVL1 (q := 16) dX9_distance_13 mlX9_173 mdX9_costTo (by decide) kd_0 rfl rfl ⟨Nat.le_refl 0, Nat.le_refl 0⟩ (by exact Nat.le_of_ble_eq_true rfl) rfl (c_X9_costTo hMO m1 A.1 h1.1.1 h1.2 p (dgs w) hk.1 hk.d.1 hk.d.2 (t2 hk.2.1 hk.1)) ?_
    rintro z m2 ⟨o1, o2, o3, o4, o5, o6, o7⟩
    have hz := (lm_C ok o3).1
    refine v_cSI1 (q := 19) dX9_distance_16 mlX9_177 mdX9_weightOrNone (by decide) ⟨Nat.le_refl 0, Nat.le_refl 0⟩ (by exact Nat.le_of_ble_eq_true rfl) rfl (c_X9_weightOrNone z m2 (by omega)) ?_
    rintro _ _ ⟨rfl, rfl⟩
    refine v_iret dX9_distance_19 ?_
    exact ⟨_, rfl, by unfold sDis; rw [if_pos hk]; exact wv_C ok o3, KQ.of h1.1 t1 (fun r r0 r1 => o1 r r0 (by omega)) o4⟩
  · refine v_iconst (q := 10) dX9_distance_9 rfl ?_
    refine v_iret dX9_distance_10 ?_
    exact ⟨_, rfl, by unfold sDis; rw [if_neg (show ¬ askd A.1 p w from h6)], h1.1, h1.2, fun q hq => t1 q (by omega) (by omega)⟩
theorem c_X9_steps {MO : Mem → Sy → Prop} (hMO : MOc MO) (p w : Int) (mem : Mem) (A : AS) (h : KI MO mem A) (hp : R32 p) (hw : R32 w) : CtrI mX9_steps [aR 0, aI p, aI w] mem (fun z m => sStp A.1 p w = z ∧ KQ MO mem A m) := by
  have f := h.1.1.facts
  obtain ⟨a1, a2, a3, a4, a5, hc⟩ := eA h.1.1
  have ok := h.1.1.2.2.1
  refine Ctr.ofV (ls := [aR 0, aI p, aI w, aU, aU]) rfl (by decide) rfl (Nat.le_of_ble_eq_true rfl) ?_
  refine v_aload_n (j := 0) (q := 1) rfl dX9_steps_0 rfl ?_
  refine v_iload_n (j := 1) (q := 2) rfl dX9_steps_1 rfl ?_
  refine v_iload_n (j := 2) (q := 3) rfl dX9_steps_2 rfl ?_
  refine v_cVI2 (q := 6) dX9_steps_3 mlX9_169 mdX9_isAsked (by decide) kd_0 rfl rfl ⟨Nat.le_refl 0, Nat.le_refl 0⟩ (by exact Nat.le_of_ble_eq_true rfl) rfl (c_X9_isAsked p w mem hp hw (by omega) (by omega)) ?_
  rw [← a1, ← a2]
  rintro z0 m1 ⟨rfl, t1, t2⟩
  have h1 := h.wd hMO t1
  refine v_if_neB (tgt := 11) (q := 9) dX9_steps_6 (by decide) rfl (fun h6 => ?_) (fun h6 => ?_)
  · have hk : askd A.1 p w := h6
    refine v_aload_n (j := 0) (q := 12) rfl dX9_steps_11 rfl ?_
    refine v_iload_n (j := 1) (q := 13) rfl dX9_steps_12 rfl ?_
    refine v_cVL1 (q := 16) dX9_steps_13 mlX9_173 mdX9_costTo (by decide) kd_0 rfl rfl ⟨Nat.le_refl 0, Nat.le_refl 0⟩ (by exact Nat.le_of_ble_eq_true rfl) rfl (c_X9_costTo hMO m1 A.1 h1.1.1 h1.2 p (dgs w) hk.1 hk.d.1 hk.d.2 (t2 hk.2.1 hk.1)) ?_
    rintro z m2 ⟨o1, o2, o3, o4, o5, o6, o7⟩
    obtain ⟨hz, hz1, hz2⟩ := lm_C ok o3
    refine v_lst3 (q := 17) rfl dX9_steps_16 (by decide) rfl ?_
    refine v_lload_n (j := 3) (q := 18) rfl dX9_steps_17 rfl ?_
    refine v_ldc2 (n := 16777232777216) (q := 21) klX9_181 rfl dX9_steps_18 rfl ?_
    refine v_lcmp_lt (tgt := 30) (q := 25) dX9_steps_21 dX9_steps_22 (by decide) rfl (by omega) (by omega) (fun h21 => ?_) (fun h21 => ?_)
    · refine v_lload_n (j := 3) (q := 31) rfl dX9_steps_30 rfl ?_
      refine v_cSI1 (q := 34) dX9_steps_31 mlX9_183 mdX9_countOf (by decide) ⟨Nat.le_refl 0, Nat.le_refl 0⟩ (by exact Nat.le_of_ble_eq_true rfl) rfl (c_X9_countOf z m2 (by omega)) ?_
      rintro _ _ ⟨rfl, rfl⟩
      refine v_iret dX9_steps_34 ?_
      refine ⟨_, rfl, ?_, KQ.of h1.1 t1 (fun r r0 r1 => o1 r r0 (by omega)) o4⟩
      unfold sStp lmS
      rw [if_pos hk]
      first
        | (rw [(hz1 (by omega)).1]; rfl)
        | (rw [hz2 (by omega)]; rfl)
    · refine v_bipush (q := 27) (by decide) dX9_steps_25 rfl ?_
      refine v_goto (q := 34) dX9_steps_27 (by decide) ?_
      refine v_iret dX9_steps_34 ?_
      refine ⟨_, rfl, ?_, KQ.of h1.1 t1 (fun r r0 r1 => o1 r r0 (by omega)) o4⟩
      unfold sStp lmS
      rw [if_pos hk]
      first
        | (rw [(hz1 (by omega)).1]; rfl)
        | (rw [hz2 (by omega)]; rfl)
  · refine v_iconst (q := 10) dX9_steps_9 rfl ?_
    refine v_iret dX9_steps_10 ?_
    exact ⟨_, rfl, by unfold sStp; rw [if_neg (show ¬ askd A.1 p w from h6)], h1.1, h1.2, fun q hq => t1 q (by omega) (by omega)⟩
theorem c_X9_price {MO : Mem → Sy → Prop} (p x q : Int) (mem : Mem) (A : AS) (h : KI MO mem A) (hp : R32 p) (hx : R32 x) (hq : R32 q) : CtrI mX9_price [aR 0, aI p, aI x, aI q] mem (fun z m => sPri A.1 p x q = z ∧ KQ MO mem A m) := by
  have f := h.1.1.facts
  obtain ⟨a1, a2, a3, a4, a5, hc⟩ := eA h.1.1
  have ok := h.1.1.2.2.1
  have hS := ok.1
  have hG := ok.2.1
  have no : ¬ ((0 ≤ p ∧ p < A.1.1) ∧ (1 ≤ x ∧ x ≤ A.1.2.1) ∧ (0 ≤ q ∧ q < A.1.1)) → ∃ z, aI (-1) = aI z ∧ sPri A.1 p x q = z ∧ KQ MO mem A mem := fun hn => ⟨_, rfl, by unfold sPri; rw [if_neg hn], h.1, h.2, fun _ _ => rfl⟩
  refine Ctr.ofV (ls := [aR 0, aI p, aI x, aI q]) rfl (by decide) rfl (Nat.le_of_ble_eq_true rfl) ?_
  refine v_aload_n (j := 0) (q := 1) rfl dX9_price_0 rfl ?_
  refine v_iload_n (j := 1) (q := 2) rfl dX9_price_1 rfl ?_
  refine v_cVI1 (q := 5) dX9_price_2 mlX9_104 mdX9_isState (by decide) kd_0 rfl rfl ⟨Nat.le_refl 0, Nat.le_refl 0⟩ (by exact Nat.le_of_ble_eq_true rfl) rfl (c_X9_isState p mem hp (by omega)) ?_
  rw [← a1]
  rintro _ _ ⟨rfl, rfl⟩
  refine v_if_eqB (tgt := 24) (q := 8) dX9_price_5 (by decide) rfl (fun h5 => ?_) (fun h5 => ?_)
  · refine v_iconst (q := 25) dX9_price_24 rfl ?_
    refine v_iret dX9_price_25 ?_
    refine no (fun hk => ?_)
    first
      | exact h5 hk.1
      | exact h13 hk.2.1
      | exact h21 hk.2.2
  · refine v_aload_n (j := 0) (q := 9) rfl dX9_price_8 rfl ?_
    refine v_iload_n (j := 2) (q := 10) rfl dX9_price_9 rfl ?_
    refine v_cVI1 (q := 13) dX9_price_10 mlX9_108 mdX9_isSymbol (by decide) kd_0 rfl rfl ⟨Nat.le_refl 0, Nat.le_refl 0⟩ (by exact Nat.le_of_ble_eq_true rfl) rfl (c_X9_isSymbol x mem hx (by omega)) ?_
    rw [← a2]
    rintro _ _ ⟨rfl, rfl⟩
    refine v_if_eqB (tgt := 24) (q := 16) dX9_price_13 (by decide) rfl (fun h13 => ?_) (fun h13 => ?_)
    · refine v_iconst (q := 25) dX9_price_24 rfl ?_
      refine v_iret dX9_price_25 ?_
      refine no (fun hk => ?_)
      first
        | exact h5 hk.1
        | exact h13 hk.2.1
        | exact h21 hk.2.2
    · refine v_aload_n (j := 0) (q := 17) rfl dX9_price_16 rfl ?_
      refine v_iload_n (j := 3) (q := 18) rfl dX9_price_17 rfl ?_
      refine v_cVI1 (q := 21) dX9_price_18 mlX9_104 mdX9_isState (by decide) kd_0 rfl rfl ⟨Nat.le_refl 0, Nat.le_refl 0⟩ (by exact Nat.le_of_ble_eq_true rfl) rfl (c_X9_isState q mem hq (by omega)) ?_
      rw [← a1]
      rintro _ _ ⟨rfl, rfl⟩
      refine v_if_neB (tgt := 26) (q := 24) dX9_price_21 (by decide) rfl (fun h21 => ?_) (fun h21 => ?_)
      · refine v_aload_n (j := 0) (q := 27) rfl dX9_price_26 rfl ?_
        refine v_cVV0 (q := 30) dX9_price_27 mlX9_211 mdX9_makePlan (by decide) kd_0 rfl rfl ⟨Nat.le_refl 0, Nat.le_refl 0⟩ (by exact Nat.le_of_ble_eq_true rfl) rfl (c_X9_makePlan mem A.1 h.1.1 h.2) ?_
        rintro m1 ⟨o1, p1, c1, pl⟩
        refine v_aload_n (j := 0) (q := 31) rfl dX9_price_30 rfl ?_
        refine v_getR (p' := 38) (q := 34) dX9_price_31 fl_X9_55 kd_0 rfl (rfc_9_7 kd_0) rfl ?_
        refine v_iload_n (j := 1) (q := 35) rfl dX9_price_34 rfl ?_
        refine v_iload_n (j := 2) (q := 36) rfl dX9_price_35 rfl ?_
        refine v_cSI2 (q := 39) dX9_price_36 mlX9_202 mdX9_headOf (by decide) ⟨Nat.le_refl 0, Nat.le_refl 0⟩ (by exact Nat.le_of_ble_eq_true rfl) rfl (c_X9_headOf p x _) ?_
        rintro _ _ ⟨rfl, rfl⟩
        refine v_iload_n (j := 3) (q := 40) rfl dX9_price_39 rfl ?_
        refine v_cVL2 (q := 43) dX9_price_40 mlX9_214 mdX5_costOfRemoving (by decide) kd_38 rfl rfl ⟨Nat.le_refl 0, Nat.le_refl 0⟩ (by exact Nat.le_of_ble_eq_true rfl) rfl (c_X5_costOfRemoving 38 (p * 5 + x - 1) q _ (Or.inl rfl) (by omega) (by omega)) ?_
        rintro _ _ ⟨rfl, rfl⟩
        have hv := pl.2.2 ((p * 5 + x - 1) * 4 + q) (by omega) (by omega)
        have hv2 : TMn NO (RC BB A.1.2.2.2.2 (-6) p [x] q []) (m1 39 ((p * 5 + x - 1) * 4 + q)) := ⟨hv.1, fun hl => (PRi_hd (by omega) h5.1 (by omega)).mp (hv.2.1 hl), fun c hc2 hl => hv.2.2 c ((PRi_hd (by omega) h5.1 (by omega)).mpr hc2) hl⟩
        have hz := (lm_C ok hv2).1
        refine v_cSI1 (q := 46) dX9_price_43 mlX9_177 mdX9_weightOrNone (by decide) ⟨Nat.le_refl 0, Nat.le_refl 0⟩ (by exact Nat.le_of_ble_eq_true rfl) rfl (c_X9_weightOrNone _ m1 (by show 0 ≤ m1 39 _ ∧ m1 39 _ ≤ _; omega)) ?_
        rintro _ _ ⟨rfl, rfl⟩
        refine v_iret dX9_price_46 ?_
        exact ⟨_, rfl, by unfold sPri; rw [if_pos ⟨h5, h13, h21⟩]; exact wv_C ok hv2, KQ.of h.1 (fun _ _ _ => rfl) (fun r r0 r1 => o1 r r0 (by omega)) c1⟩
      · refine v_iconst (q := 25) dX9_price_24 rfl ?_
        refine v_iret dX9_price_25 ?_
        refine no (fun hk => ?_)
        first
          | exact h5 hk.1
          | exact h13 hk.2.1
          | exact h21 hk.2.2
theorem c_X9_distanceWithout {MO : Mem → Sy → Prop} (hMO : MOc MO) (r p w : Int) (mem : Mem) (A : AS) (h : KI MO mem A) (hr : R32 r) (hp : R32 p) (hw : R32 w) : CtrI mX9_distanceWithout [aR 0, aI r, aI p, aI w] mem (fun z m => sWot A.1 r p w = z ∧ KQ MO mem A m) := by
  have f := h.1.1.facts
  obtain ⟨a1, a2, a3, a4, a5, hc⟩ := eA h.1.1
  have ok := h.1.1.2.2.1
  refine Ctr.ofV (ls := [aR 0, aI r, aI p, aI w]) rfl (by decide) rfl (Nat.le_of_ble_eq_true rfl) ?_
  refine v_aload_n (j := 0) (q := 1) rfl dX9_distanceWithout_0 rfl ?_
  refine v_iload_n (j := 1) (q := 2) rfl dX9_distanceWithout_1 rfl ?_
  refine v_cVI1 (q := 5) dX9_distanceWithout_2 mlX9_126 mdX9_isRule (by decide) kd_0 rfl rfl ⟨Nat.le_refl 0, Nat.le_refl 0⟩ (by exact Nat.le_of_ble_eq_true rfl) rfl (c_X9_isRule r mem hr (by omega)) ?_
  rw [← hc]
  rintro _ _ ⟨rfl, rfl⟩
  refine v_if_eqB (tgt := 17) (q := 8) dX9_distanceWithout_5 (by decide) rfl (fun h5 => ?_) (fun h5 => ?_)
  · refine v_iconst (q := 18) dX9_distanceWithout_17 rfl ?_
    refine v_iret dX9_distanceWithout_18 ?_
    first
      | exact ⟨_, rfl, by unfold sWot; rw [if_neg (fun hk => h5 hk.1)], h.1, h.2, fun _ _ => rfl⟩
      | exact ⟨_, rfl, by unfold sWot; rw [if_neg (fun hk => h14 hk.2)], h1.1, h1.2, fun q hq => t1 q (by omega) (by omega)⟩
  · refine v_aload_n (j := 0) (q := 9) rfl dX9_distanceWithout_8 rfl ?_
    refine v_iload_n (j := 2) (q := 10) rfl dX9_distanceWithout_9 rfl ?_
    refine v_iload_n (j := 3) (q := 11) rfl dX9_distanceWithout_10 rfl ?_
    refine v_cVI2 (q := 14) dX9_distanceWithout_11 mlX9_169 mdX9_isAsked (by decide) kd_0 rfl rfl ⟨Nat.le_refl 0, Nat.le_refl 0⟩ (by exact Nat.le_of_ble_eq_true rfl) rfl (c_X9_isAsked p w mem hp hw (by omega) (by omega)) ?_
    rw [← a1, ← a2]
    rintro z0 m1 ⟨rfl, t1, t2⟩
    have h1 := h.wd hMO t1
    refine v_if_neB (tgt := 19) (q := 17) dX9_distanceWithout_14 (by decide) rfl (fun h14 => ?_) (fun h14 => ?_)
    · have hk : askd A.1 p w := h14
      refine v_aload_n (j := 0) (q := 20) rfl dX9_distanceWithout_19 rfl ?_
      refine v_iload_n (j := 1) (q := 21) rfl dX9_distanceWithout_20 rfl ?_
      refine v_iload_n (j := 2) (q := 22) rfl dX9_distanceWithout_21 rfl ?_
      refine v_cVL2 (q := 25) dX9_distanceWithout_22 mlX9_235 mdX9_costWithout (by decide) kd_0 rfl rfl ⟨Nat.le_refl 0, Nat.le_refl 0⟩ (by exact Nat.le_of_ble_eq_true rfl) rfl (c_X9_costWithout hMO m1 A.1 h1.1.1 h1.2 r p (dgs w) (by omega) hk.1 hk.d.1 hk.d.2 (t2 hk.2.1 hk.1)) ?_
      rintro z m2 ⟨o1, o3, o4, o5⟩
      have hz := (lm_C ok o3).1
      refine v_cSI1 (q := 28) dX9_distanceWithout_25 mlX9_177 mdX9_weightOrNone (by decide) ⟨Nat.le_refl 0, Nat.le_refl 0⟩ (by exact Nat.le_of_ble_eq_true rfl) rfl (c_X9_weightOrNone z m2 (by omega)) ?_
      rintro _ _ ⟨rfl, rfl⟩
      refine v_iret dX9_distanceWithout_28 ?_
      exact ⟨_, rfl, by unfold sWot; rw [if_pos ⟨h5, hk⟩]; exact wv_C ok o3, KQ.of h1.1 t1 (fun r r0 r1 => o1 r r0 (by omega)) o4⟩
    · refine v_iconst (q := 18) dX9_distanceWithout_17 rfl ?_
      refine v_iret dX9_distanceWithout_18 ?_
      first
        | exact ⟨_, rfl, by unfold sWot; rw [if_neg (fun hk => h5 hk.1)], h.1, h.2, fun _ _ => rfl⟩
        | exact ⟨_, rfl, by unfold sWot; rw [if_neg (fun hk => h14 hk.2)], h1.1, h1.2, fun q hq => t1 q (by omega) (by omega)⟩
