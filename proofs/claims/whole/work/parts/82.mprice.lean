/-! ===== the reference: priceOf, price, wordPrice, distanceWithout ===== -/
theorem l_X10_price0 {Post : AV → Mem → Prop} (mem : Mem) (p w q nd0 : Int) (h7 : mem 116 7 = nd0) (hn : R32 nd0) (u5 : AV) (K : ∀ v, (∀ s, 0 ≤ s → s < 11 → v s = if s = nd0 then 0 else EN) → V cX10_priceOf RX10 6 (some .int) (rmk 4 102) (mE Post) 46 [aR 116, aI p, aI w, aI q, aI 11, u5] [] (sm mem 122 v)) :
    ∀ (j : Nat) (k : Int) (v : Int → Int), k + j = 11 → 0 ≤ k → (∀ s, 0 ≤ s → s < k → v s = if s = nd0 then 0 else EN) → V cX10_priceOf RX10 6 (some .int) (rmk 4 102) (mE Post) 10 [aR 116, aI p, aI w, aI q, aI k, u5] [] (sm mem 122 v) := by
  intro j
  induction j with
  | zero =>
    intro k v h1 h2 h3
    have hk : k = 11 := by omega
    subst hk
    refine v_iload (j := 4) (q := 12) rfl dX10_priceOf_10 rfl ?_
    refine v_bipush (q := 14) (by decide) dX10_priceOf_12 rfl ?_
    refine v_icmp_ge (tgt := 46) (q := 17) dX10_priceOf_14 (by decide) rfl (by omega) (by omega) (fun h14 => ?_) (fun h14 => ?_)
    · exact K v h3
    · exact absurd h14 (by omega)
  | succ j ih =>
    intro k v h1 h2 h3
    have e7 : sm mem 122 v 116 7 = nd0 := by rw [sm_ne _ _ (by decide)]; exact h7
    have em : ∀ c, um (sm mem 122 v) 122 k c = sm mem 122 (ui v k c) := fun c => eq_sm (fun p hp => by rw [um_ne _ _ _ hp, sm_ne _ _ hp]) (fun i => by rw [um_same, sm_same])
    have fin : ∀ c, (c = if k = nd0 then 0 else EN) → V cX10_priceOf RX10 6 (some .int) (rmk 4 102) (mE Post) 10 [aR 116, aI p, aI w, aI q, aI (k + 1), u5] [] (sm mem 122 (ui v k c)) := fun c hc => by
      refine ih (k + 1) _ (by omega) (by omega) (fun i i0 i1 => ?_)
      by_cases e : i = k
      · rw [e, ui_same]; exact hc
      · rw [ui_ne _ _ e]; exact h3 i i0 (by omega)
    refine v_iload (j := 4) (q := 12) rfl dX10_priceOf_10 rfl ?_
    refine v_bipush (q := 14) (by decide) dX10_priceOf_12 rfl ?_
    refine v_icmp_ge (tgt := 46) (q := 17) dX10_priceOf_14 (by decide) rfl (by omega) (by omega) (fun h14 => ?_) (fun h14 => ?_)
    · exact absurd h14 (by omega)
    · refine v_aload_n (j := 0) (q := 18) rfl dX10_priceOf_17 rfl ?_
      refine v_getR (p' := 122) (q := 21) dX10_priceOf_18 fl_X10_26 kd_116 rfl (rfc_10_10 kd_116) rfl ?_
      refine v_iload (j := 4) (q := 23) rfl dX10_priceOf_21 rfl ?_
      refine v_iload (j := 4) (q := 25) rfl dX10_priceOf_23 rfl ?_
      refine v_aload_n (j := 0) (q := 26) rfl dX10_priceOf_25 rfl ?_
      refine v_getI (j := 7) (q := 29) dX10_priceOf_26 fl_X10_111 kd_116 rfl rfl rfl ?_
      rw [e7]
      refine v_icmp_ne (tgt := 36) (q := 32) dX10_priceOf_29 (by decide) rfl (by omega) (by omega) (fun h29 => ?_) (fun h29 => ?_)
      · refine v_ldc2 (n := 4000000000000000000) (q := 39) klX10_91 rfl dX10_priceOf_36 rfl ?_
        refine v_last (q := 40) dX10_priceOf_39 kd_122 (by omega) (by omega) rfl ?_
        refine v_iinc4 (q := 43) rfl dX10_priceOf_40 (by decide) rfl ?_
        refine v_goto (q := 10) dX10_priceOf_43 (by decide) ?_
        rw [em]
        first
          | exact fin _ (by rw [if_pos h29])
          | exact fin _ (by rw [if_neg h29]; rfl)
      · refine v_lconst0 (q := 33) dX10_priceOf_32 rfl ?_
        refine v_goto (q := 39) dX10_priceOf_33 (by decide) ?_
        refine v_last (q := 40) dX10_priceOf_39 kd_122 (by omega) (by omega) rfl ?_
        refine v_iinc4 (q := 43) rfl dX10_priceOf_40 (by decide) rfl ?_
        refine v_goto (q := 10) dX10_priceOf_43 (by decide) ?_
        rw [em]
        first
          | exact fin _ (by rw [if_pos h29])
          | exact fin _ (by rw [if_neg h29]; rfl)
theorem c_X10_priceOf (p w q : Int) (mem : Mem) (y : Sy) (hS : SM (mem 117) 0 y) (ha : askd y p w) (hq : 0 ≤ q ∧ q < y.1) (hw : R32 w) : CtrI mX10_priceOf [aR 116, aI p, aI w, aI q] mem (fun z m => frR mem m ∧ wv (lm y.2.2.2.2 (-1) p (dgs w) q []) = z) := by
  have ok := hS.2.2.1
  have hS4 := ok.1
  have d0 : dgs 0 = [] := dgs_np (by omega)
  have hp := ha.1
  have had := ha.d
  refine Ctr.ofV (ls := [aR 116, aI p, aI w, aI q, aU, aU]) rfl (by decide) rfl (Nat.le_of_ble_eq_true rfl) ?_
  refine v_aload_n (j := 0) (q := 1) rfl dX10_priceOf_0 rfl ?_
  refine v_iload_n (j := 3) (q := 2) rfl dX10_priceOf_1 rfl ?_
  refine v_iconst (q := 3) dX10_priceOf_2 rfl ?_
  refine v_iconst (q := 4) dX10_priceOf_3 rfl ?_
  refine v_cVV3 (q := 7) dX10_priceOf_4 mlX10_130 mdX10_aim (by decide) kd_116 rfl rfl ⟨Nat.le_refl 0, Nat.le_refl 0⟩ (by exact Nat.le_of_ble_eq_true rfl) rfl (c_X10_aim q 0 (-1) mem y ok hS.RFs hq (by rw [d0]; intro d hd; cases hd) (by rw [d0]; decide) (by omega) (by omega)) ?_
  rw [d0]
  rintro m1 ⟨v, rfl, hv⟩
  obtain ⟨A, hA⟩ : ∃ A, A = aimM mem q (-1) ([] : List Int).length v := ⟨_, rfl⟩
  have e7 : A 116 7 = q := (by rw [hA]; unfold aimM; rw [sm_ne _ _ (by decide), um_same, ui_ne _ _ (by omega), um_same, ui_same]; rfl)
  have fA : frR mem A := (by rw [hA]; exact aimM_frR mem q (-1) _ v)
  have e20 : A 120 = v := (by rw [hA]; unfold aimM; rw [sm_same])
  rw [← hA]
  refine v_iconst (q := 8) dX10_priceOf_7 rfl ?_
  refine v_ist4 (q := 10) rfl dX10_priceOf_8 (by decide) rfl ?_
  have hk := l_X10_price0 (Post := (fun r m => ∃ z, r = aI z ∧ frR mem m ∧ wv (lm y.2.2.2.2 (-1) p (dgs w) q []) = z)) A p w q q e7 (by omega) aU (fun v0 hv0 => ?_) 11 0 (A 122) (by omega) (by omega) (fun s s0 s1 => by omega)
  · rw [sm_id A 122 (fun _ => rfl)] at hk
    exact hk
  · obtain ⟨M, hM⟩ : ∃ M, M = um (sm A 122 v0) 116 11 0 := ⟨_, rfl⟩
    have mO : ∀ p, p ≠ 116 → p ≠ 122 → M p = A p := fun p h1 h2 => by rw [hM, um_ne _ _ _ h1, sm_ne _ _ h2]
    have fr0 : frR A M := ⟨fun p h1 h2 => mO p h2 (by omega), fun j h1 h2 h3 => by rw [hM, um_same, ui_ne _ _ h3, sm_ne _ _ (by decide)]⟩
    have k0 : BK y (-1) q [] M [] := by
      refine ⟨by rw [hM, um_same, ui_same]; rfl, fun i hi s s0 s1 => ?_, fun i hi => absurd hi (by show ¬ (i < 0); omega)⟩
      have e : i = 0 := by have : i ≤ 0 := hi; omega
      subst e
      rw [hM, um_ne _ _ _ (by decide), sm_same, show (11 : Int) * ((0 : Nat) : Int) + s = s by omega, hv0 s s0 s1]
      exact BL0 (t := []) hq hS4.2 s
    have e120 : M 120 = v := by rw [mO 120 (by decide) (by decide), e20]
    refine v_aload_n (j := 0) (q := 47) rfl dX10_priceOf_46 rfl ?_
    refine v_iconst (q := 48) dX10_priceOf_47 rfl ?_
    refine v_putI (j := 11) (q := 51) dX10_priceOf_48 fl_X10_120 kd_116 rfl rfl rfl ?_
    rw [← hM]
    refine v_aload_n (j := 0) (q := 52) rfl dX10_priceOf_51 rfl ?_
    refine v_iload_n (j := 2) (q := 53) rfl dX10_priceOf_52 rfl ?_
    refine v_cVV1 (q := 56) dX10_priceOf_53 mlX10_127 mdX10_pushWord (by decide) kd_116 rfl rfl ⟨Nat.le_refl 0, Nat.le_refl 0⟩ (by exact Nat.le_of_ble_eq_true rfl) rfl (c_X10_pushWord w M y ok (-1) q [] [] (by decide) hq (by rw [e120]; exact hv) k0 hw (fun d hd => by have := had.1 d hd; have := ok.2.1; omega) (by have := had.2; rw [List.length_nil]; omega)) ?_
    rw [List.append_nil]
    rintro m1 ⟨g1, g2⟩
    have e11 : m1 116 11 = (dgs w).length := g2.1
    have h9 := BL.RC hp.2 hS4.2 (by have := g2.2.1 (dgs w).length (Nat.le_refl _) p hp.1 (by omega); rw [Nat.sub_self, List.drop_zero] at this; exact this)
    obtain ⟨hc, hc1, hc2⟩ := lm_R ok h9
    have hwv := wv_R ok h9
    have had2 := had.2
    obtain ⟨c, hcc⟩ : ∃ c, c = m1 122 (11 * ((dgs w).length : Nat) + p) := ⟨_, rfl⟩
    rw [← hcc] at hc hc1 hc2 hwv
    refine v_aload_n (j := 0) (q := 57) rfl dX10_priceOf_56 rfl ?_
    refine v_getR (p' := 122) (q := 60) dX10_priceOf_57 fl_X10_26 kd_116 rfl (rfc_10_10 kd_116) rfl ?_
    refine v_bipush (q := 62) (by decide) dX10_priceOf_60 rfl ?_
    refine v_aload_n (j := 0) (q := 63) rfl dX10_priceOf_62 rfl ?_
    refine v_getI (j := 11) (q := 66) dX10_priceOf_63 fl_X10_120 kd_116 rfl rfl rfl ?_
    rw [e11]
    refine v_imul (q := 67) dX10_priceOf_66 rfl ?_
    refine v_iload_n (j := 1) (q := 68) rfl dX10_priceOf_67 rfl ?_
    refine v_iadd (q := 69) dX10_priceOf_68 rfl ?_
    refine v_lald (q := 70) dX10_priceOf_69 kd_122 (by omega) (by omega) rfl ?_
    rw [← hcc]
    refine v_lst4 (q := 72) rfl dX10_priceOf_70 (by decide) rfl ?_
    refine v_lload (j := 4) (q := 74) rfl dX10_priceOf_72 rfl ?_
    refine v_ldc2 (n := 2097152) (q := 77) klX10_93 rfl dX10_priceOf_74 rfl ?_
    refine v_ldiv (q := 78) (by omega) (by omega) dX10_priceOf_77 rfl ?_
    refine v_ldc2 (n := 1000000) (q := 81) klX10_138 rfl dX10_priceOf_78 rfl ?_
    refine v_lcmp_le (tgt := 90) (q := 85) dX10_priceOf_81 dX10_priceOf_82 (by decide) rfl (by omega) (by omega) (fun h81 => ?_) (fun h81 => ?_)
    · refine v_lload (j := 4) (q := 92) rfl dX10_priceOf_90 rfl ?_
      refine v_ldc2 (n := 2097152) (q := 95) klX10_93 rfl dX10_priceOf_92 rfl ?_
      refine v_ldiv (q := 96) (by omega) (by omega) dX10_priceOf_95 rfl ?_
      refine v_l2i (q := 97) (by omega) dX10_priceOf_96 rfl ?_
      refine v_iret dX10_priceOf_97 ?_
      refine ⟨_, rfl, (fA.trans fr0).trans g1.R, ?_⟩
      rw [hwv]
      first
        | (rw [if_pos (by omega)]; done)
        | (rw [if_neg (by omega)]; done)
    · refine v_bipush (q := 87) (by decide) dX10_priceOf_85 rfl ?_
      refine v_goto (q := 97) dX10_priceOf_87 (by decide) ?_
      refine v_iret dX10_priceOf_97 ?_
      refine ⟨_, rfl, (fA.trans fr0).trans g1.R, ?_⟩
      rw [hwv]
      first
        | (rw [if_pos (by omega)]; done)
        | (rw [if_neg (by omega)]; done)
theorem c_X10_price {LO : (Int → Int) → Sy → Prop} (p x q : Int) (mem : Mem) (A : AS) (h : RJ LO mem A) (hp : R32 p) (hx : R32 x) (hq : R32 q) : CtrI mX10_price [aR 116, aI p, aI x, aI q] mem (fun z m => sPri A.1 p x q = z ∧ RK LO mem A m) := by
  have f := h.1.1.facts
  have ok := h.1.1.2.2.1
  have hG := ok.2.1
  have e1 := f.2.2.2.2.2.2.1
  have e2 := f.2.2.2.2.2.2.2.1
  have no : ¬ ((0 ≤ p ∧ p < A.1.1) ∧ (1 ≤ x ∧ x ≤ A.1.2.1) ∧ (0 ≤ q ∧ q < A.1.1)) → ∃ z, aI (-1) = aI z ∧ sPri A.1 p x q = z ∧ RK LO mem A mem := fun hn => ⟨_, rfl, by unfold sPri; rw [if_neg hn], RK.of h (frR.refl _)⟩
  refine Ctr.ofV (ls := [aR 116, aI p, aI x, aI q]) rfl (by decide) rfl (Nat.le_of_ble_eq_true rfl) ?_
  refine v_aload_n (j := 0) (q := 1) rfl dX10_price_0 rfl ?_
  refine v_iload_n (j := 1) (q := 2) rfl dX10_price_1 rfl ?_
  refine v_cVI1 (q := 5) dX10_price_2 mlX10_71 mdX10_isState (by decide) kd_116 rfl rfl ⟨Nat.le_refl 0, Nat.le_refl 0⟩ (by exact Nat.le_of_ble_eq_true rfl) rfl (c_X10_isState p mem hp (by omega)) ?_
  rw [← e1]
  rintro _ _ ⟨rfl, rfl⟩
  refine v_if_eqB (tgt := 34) (q := 8) dX10_price_5 (by decide) rfl (fun h5 => ?_) (fun h5 => ?_)
  · refine v_iconst (q := 35) dX10_price_34 rfl ?_
    refine v_iret dX10_price_35 ?_
    first
      | exact no (fun hk => h5 hk.1)
      | exact no (fun hk => h13 hk.2.1)
      | exact no (fun hk => h21 hk.2.2)
      | exact ⟨_, rfl, by unfold sPri; rw [if_pos ⟨h5, h13, h21⟩, dx, lm_ex], RK.of h g1⟩
  · refine v_aload_n (j := 0) (q := 9) rfl dX10_price_8 rfl ?_
    refine v_iload_n (j := 2) (q := 10) rfl dX10_price_9 rfl ?_
    refine v_cVI1 (q := 13) dX10_price_10 mlX10_52 mdX10_isSymbol (by decide) kd_116 rfl rfl ⟨Nat.le_refl 0, Nat.le_refl 0⟩ (by exact Nat.le_of_ble_eq_true rfl) rfl (c_X10_isSymbol x mem hx (by omega)) ?_
    rw [← e2]
    rintro _ _ ⟨rfl, rfl⟩
    refine v_if_eqB (tgt := 34) (q := 16) dX10_price_13 (by decide) rfl (fun h13 => ?_) (fun h13 => ?_)
    · refine v_iconst (q := 35) dX10_price_34 rfl ?_
      refine v_iret dX10_price_35 ?_
      first
        | exact no (fun hk => h5 hk.1)
        | exact no (fun hk => h13 hk.2.1)
        | exact no (fun hk => h21 hk.2.2)
        | exact ⟨_, rfl, by unfold sPri; rw [if_pos ⟨h5, h13, h21⟩, dx, lm_ex], RK.of h g1⟩
    · refine v_aload_n (j := 0) (q := 17) rfl dX10_price_16 rfl ?_
      refine v_iload_n (j := 3) (q := 18) rfl dX10_price_17 rfl ?_
      refine v_cVI1 (q := 21) dX10_price_18 mlX10_71 mdX10_isState (by decide) kd_116 rfl rfl ⟨Nat.le_refl 0, Nat.le_refl 0⟩ (by exact Nat.le_of_ble_eq_true rfl) rfl (c_X10_isState q mem hq (by omega)) ?_
      rw [← e1]
      rintro _ _ ⟨rfl, rfl⟩
      refine v_if_eqB (tgt := 34) (q := 24) dX10_price_21 (by decide) rfl (fun h21 => ?_) (fun h21 => ?_)
      · refine v_iconst (q := 35) dX10_price_34 rfl ?_
        refine v_iret dX10_price_35 ?_
        first
          | exact no (fun hk => h5 hk.1)
          | exact no (fun hk => h13 hk.2.1)
          | exact no (fun hk => h21 hk.2.2)
          | exact ⟨_, rfl, by unfold sPri; rw [if_pos ⟨h5, h13, h21⟩, dx, lm_ex], RK.of h g1⟩
      · have dx : dgs x = [x] := dgs1 (by omega)
        have ak : askd A.1 p x := ⟨h5, ⟨by omega, by rw [dx]; intro d hd; rw [List.mem_singleton.mp hd]; exact h13⟩, by rw [← dgs_len, dx]; show (1 : Int) ≤ 6; omega⟩
        refine v_aload_n (j := 0) (q := 25) rfl dX10_price_24 rfl ?_
        refine v_iload_n (j := 1) (q := 26) rfl dX10_price_25 rfl ?_
        refine v_iload_n (j := 2) (q := 27) rfl dX10_price_26 rfl ?_
        refine v_iload_n (j := 3) (q := 28) rfl dX10_price_27 rfl ?_
        refine v_cVI3 (q := 31) dX10_price_28 mlX10_156 mdX10_priceOf (by decide) kd_116 rfl rfl ⟨Nat.le_refl 0, Nat.le_refl 0⟩ (by exact Nat.le_of_ble_eq_true rfl) rfl (c_X10_priceOf p x q mem A.1 h.1.1 ak h21 hx) ?_
        rintro _ m1 ⟨g1, rfl⟩
        refine v_goto (q := 35) dX10_price_31 (by decide) ?_
        refine v_iret dX10_price_35 ?_
        first
          | exact no (fun hk => h5 hk.1)
          | exact no (fun hk => h13 hk.2.1)
          | exact no (fun hk => h21 hk.2.2)
          | exact ⟨_, rfl, by unfold sPri; rw [if_pos ⟨h5, h13, h21⟩, dx, lm_ex], RK.of h g1⟩
theorem c_X10_wordPrice {LO : (Int → Int) → Sy → Prop} (p w q : Int) (mem : Mem) (A : AS) (h : RJ LO mem A) (hp : R32 p) (hw : R32 w) (hq : R32 q) : CtrI mX10_wordPrice [aR 116, aI p, aI w, aI q] mem (fun z m => sWop A.1 p w q = z ∧ RK LO mem A m) := by
  have f := h.1.1.facts
  have e1 := f.2.2.2.2.2.2.1
  refine Ctr.ofV (ls := [aR 116, aI p, aI w, aI q]) rfl (by decide) rfl (Nat.le_of_ble_eq_true rfl) ?_
  refine v_aload_n (j := 0) (q := 1) rfl dX10_wordPrice_0 rfl ?_
  refine v_iload_n (j := 1) (q := 2) rfl dX10_wordPrice_1 rfl ?_
  refine v_iload_n (j := 2) (q := 3) rfl dX10_wordPrice_2 rfl ?_
  refine v_cVI2 (q := 6) dX10_wordPrice_3 mlX10_143 mdX10_isAsked (by decide) kd_116 rfl rfl ⟨Nat.le_refl 0, Nat.le_refl 0⟩ (by exact Nat.le_of_ble_eq_true rfl) rfl (c_X10_isAsked p w mem A.1 h.1.1 hp hw) ?_
  rintro _ _ ⟨rfl, rfl⟩
  refine v_if_eqB (tgt := 27) (q := 9) dX10_wordPrice_6 (by decide) rfl (fun h6 => ?_) (fun h6 => ?_)
  · refine v_iconst (q := 28) dX10_wordPrice_27 rfl ?_
    refine v_iret dX10_wordPrice_28 ?_
    first
      | exact ⟨_, rfl, by unfold sWop; rw [if_neg (fun hk => h6 hk.1)], RK.of h (frR.refl _)⟩
      | exact ⟨_, rfl, by unfold sWop; rw [if_neg (fun hk => h14 hk.2)], RK.of h (frR.refl _)⟩
      | exact ⟨_, rfl, by unfold sWop; rw [if_pos ⟨h6, h14⟩, lm_ex], RK.of h g1⟩
  · refine v_aload_n (j := 0) (q := 10) rfl dX10_wordPrice_9 rfl ?_
    refine v_iload_n (j := 3) (q := 11) rfl dX10_wordPrice_10 rfl ?_
    refine v_cVI1 (q := 14) dX10_wordPrice_11 mlX10_71 mdX10_isState (by decide) kd_116 rfl rfl ⟨Nat.le_refl 0, Nat.le_refl 0⟩ (by exact Nat.le_of_ble_eq_true rfl) rfl (c_X10_isState q mem hq (by omega)) ?_
    rw [← e1]
    rintro _ _ ⟨rfl, rfl⟩
    refine v_if_eqB (tgt := 27) (q := 17) dX10_wordPrice_14 (by decide) rfl (fun h14 => ?_) (fun h14 => ?_)
    · refine v_iconst (q := 28) dX10_wordPrice_27 rfl ?_
      refine v_iret dX10_wordPrice_28 ?_
      first
        | exact ⟨_, rfl, by unfold sWop; rw [if_neg (fun hk => h6 hk.1)], RK.of h (frR.refl _)⟩
        | exact ⟨_, rfl, by unfold sWop; rw [if_neg (fun hk => h14 hk.2)], RK.of h (frR.refl _)⟩
        | exact ⟨_, rfl, by unfold sWop; rw [if_pos ⟨h6, h14⟩, lm_ex], RK.of h g1⟩
    · refine v_aload_n (j := 0) (q := 18) rfl dX10_wordPrice_17 rfl ?_
      refine v_iload_n (j := 1) (q := 19) rfl dX10_wordPrice_18 rfl ?_
      refine v_iload_n (j := 2) (q := 20) rfl dX10_wordPrice_19 rfl ?_
      refine v_iload_n (j := 3) (q := 21) rfl dX10_wordPrice_20 rfl ?_
      refine v_cVI3 (q := 24) dX10_wordPrice_21 mlX10_156 mdX10_priceOf (by decide) kd_116 rfl rfl ⟨Nat.le_refl 0, Nat.le_refl 0⟩ (by exact Nat.le_of_ble_eq_true rfl) rfl (c_X10_priceOf p w q mem A.1 h.1.1 h6 h14 hw) ?_
      rintro _ m1 ⟨g1, rfl⟩
      refine v_goto (q := 28) dX10_wordPrice_24 (by decide) ?_
      refine v_iret dX10_wordPrice_28 ?_
      first
        | exact ⟨_, rfl, by unfold sWop; rw [if_neg (fun hk => h6 hk.1)], RK.of h (frR.refl _)⟩
        | exact ⟨_, rfl, by unfold sWop; rw [if_neg (fun hk => h14 hk.2)], RK.of h (frR.refl _)⟩
        | exact ⟨_, rfl, by unfold sWop; rw [if_pos ⟨h6, h14⟩, lm_ex], RK.of h g1⟩
theorem c_X10_distanceWithout {LO : (Int → Int) → Sy → Prop} (r p w : Int) (mem : Mem) (A : AS) (h : RJ LO mem A) (hr : R32 r) (hp : R32 p) (hw : R32 w) : CtrI mX10_distanceWithout [aR 116, aI r, aI p, aI w] mem (fun z m => sWot A.1 r p w = z ∧ RK LO mem A m) := by
  have f := h.1.1.facts
  have e1 := f.2.2.2.2.2.2.2.2.2.2.2
  refine Ctr.ofV (ls := [aR 116, aI r, aI p, aI w]) rfl (by decide) rfl (Nat.le_of_ble_eq_true rfl) ?_
  refine v_aload_n (j := 0) (q := 1) rfl dX10_distanceWithout_0 rfl ?_
  refine v_iload_n (j := 1) (q := 2) rfl dX10_distanceWithout_1 rfl ?_
  refine v_cVI1 (q := 5) dX10_distanceWithout_2 mlX10_85 mdX10_isRule (by decide) kd_116 rfl rfl ⟨Nat.le_refl 0, Nat.le_refl 0⟩ (by exact Nat.le_of_ble_eq_true rfl) rfl (c_X10_isRule r mem hr (by omega)) ?_
  rw [← e1]
  rintro _ _ ⟨rfl, rfl⟩
  refine v_if_eqB (tgt := 27) (q := 8) dX10_distanceWithout_5 (by decide) rfl (fun h5 => ?_) (fun h5 => ?_)
  · refine v_iconst (q := 28) dX10_distanceWithout_27 rfl ?_
    refine v_iret dX10_distanceWithout_28 ?_
    first
      | exact ⟨_, rfl, by unfold sWot; rw [if_neg (fun hk => h5 hk.1)], RK.of h (frR.refl _)⟩
      | exact ⟨_, rfl, by unfold sWot; rw [if_neg (fun hk => h14 hk.2)], RK.of h (frR.refl _)⟩
      | exact ⟨_, rfl, by unfold sWot; rw [if_pos ⟨h5, h14⟩], RK.of h g1⟩
  · refine v_aload_n (j := 0) (q := 9) rfl dX10_distanceWithout_8 rfl ?_
    refine v_iload_n (j := 2) (q := 10) rfl dX10_distanceWithout_9 rfl ?_
    refine v_iload_n (j := 3) (q := 11) rfl dX10_distanceWithout_10 rfl ?_
    refine v_cVI2 (q := 14) dX10_distanceWithout_11 mlX10_143 mdX10_isAsked (by decide) kd_116 rfl rfl ⟨Nat.le_refl 0, Nat.le_refl 0⟩ (by exact Nat.le_of_ble_eq_true rfl) rfl (c_X10_isAsked p w mem A.1 h.1.1 hp hw) ?_
    rintro _ _ ⟨rfl, rfl⟩
    refine v_if_eqB (tgt := 27) (q := 17) dX10_distanceWithout_14 (by decide) rfl (fun h14 => ?_) (fun h14 => ?_)
    · refine v_iconst (q := 28) dX10_distanceWithout_27 rfl ?_
      refine v_iret dX10_distanceWithout_28 ?_
      first
        | exact ⟨_, rfl, by unfold sWot; rw [if_neg (fun hk => h5 hk.1)], RK.of h (frR.refl _)⟩
        | exact ⟨_, rfl, by unfold sWot; rw [if_neg (fun hk => h14 hk.2)], RK.of h (frR.refl _)⟩
        | exact ⟨_, rfl, by unfold sWot; rw [if_pos ⟨h5, h14⟩], RK.of h g1⟩
    · refine v_aload_n (j := 0) (q := 18) rfl dX10_distanceWithout_17 rfl ?_
      refine v_iload_n (j := 2) (q := 19) rfl dX10_distanceWithout_18 rfl ?_
      refine v_iload_n (j := 3) (q := 20) rfl dX10_distanceWithout_19 rfl ?_
      refine v_iload_n (j := 1) (q := 21) rfl dX10_distanceWithout_20 rfl ?_
      refine v_cVI3 (q := 24) dX10_distanceWithout_21 mlX10_147 mdX10_distanceTo (by decide) kd_116 rfl rfl ⟨Nat.le_refl 0, Nat.le_refl 0⟩ (by exact Nat.le_of_ble_eq_true rfl) rfl (c_X10_distanceTo p w r mem A.1 h.1.1 h14 hw (by omega)) ?_
      rintro _ m1 ⟨g1, rfl⟩
      refine v_goto (q := 28) dX10_distanceWithout_24 (by decide) ?_
      refine v_iret dX10_distanceWithout_28 ?_
      first
        | exact ⟨_, rfl, by unfold sWot; rw [if_neg (fun hk => h5 hk.1)], RK.of h (frR.refl _)⟩
        | exact ⟨_, rfl, by unfold sWot; rw [if_neg (fun hk => h14 hk.2)], RK.of h (frR.refl _)⟩
        | exact ⟨_, rfl, by unfold sWot; rw [if_pos ⟨h5, h14⟩], RK.of h g1⟩
