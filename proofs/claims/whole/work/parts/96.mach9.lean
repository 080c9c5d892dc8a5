/-! ===== Machine.findWaysHome, build ===== -/
theorem l_X1_homepass {Post : AV → Mem → Prop} (y : Sy) (ok : okS y) (N : Mem) (hw : TWr (N 84)) (ht : tabOK y (N 84)) (hL : LSi (N 84) N 4032) (hcap : cP (fun i => N 84 i ≠ -6) 4032 ≤ 504) (v0 : Int → Int) (hv0 : HSnd y v0) (la rd : Int)
    (K : ∀ (C : Prop) (v : Int → Int) (k' u5 : AV), HSnd y v → (∀ i, v i ≤ v0 i) → (¬ C → ∀ i, v i = v0 i) → (∀ j : Nat, j < 4032 → N 84 j ≠ -6 → rlH (N 84) v0 v j) → V cX1_findWaysHome RX1 6 none (rmk 3 65) (mE Post) 115 [aR 83, aI la, aI (bI C), aI rd, k', u5] [] (sm N 110 v)) :
    ∀ (n : Nat) (k : Int) (C : Prop) (v : Int → Int) (u5 : AV), k + n = N 83 1 → 0 ≤ k → HSnd y v → (∀ i, v i ≤ v0 i) → (¬ C → ∀ i, v i = v0 i) → (∀ j : Nat, j < 4032 → N 84 j ≠ -6 → cP (fun i => N 84 i ≠ -6) j < k → rlH (N 84) v0 v j) →
    V cX1_findWaysHome RX1 6 none (rmk 3 65) (mE Post) 64 [aR 83, aI la, aI (bI C), aI rd, aI k, u5] [] (sm N 110 v) := by
  have hNO := NO_def
  have hc504 : N 83 1 ≤ 504 := by rw [hL.1]; exact hcap
  intro n
  induction n with
  | zero =>
    intro k C v u5 h1 h2 h3 h4 h5 h6
    have e1 : sm N 110 v 83 1 = N 83 1 := by rw [sm_ne _ _ (by decide)]
    have hk : k = N 83 1 := by omega
    refine v_iload (j := 4) (q := 66) rfl dX1_findWaysHome_64 rfl ?_
    refine v_aload_n (j := 0) (q := 67) rfl dX1_findWaysHome_66 rfl ?_
    refine v_getI (j := 1) (q := 70) dX1_findWaysHome_67 fl_X1_15 kd_83 rfl rfl rfl ?_
    rw [e1]
    refine v_icmp_ge (tgt := 115) (q := 73) dX1_findWaysHome_70 (by decide) rfl (by omega) (by omega) (fun h70 => ?_) (fun h70 => ?_)
    · refine K C v _ _ h3 h4 h5 (fun j hj hp => h6 j hj hp ?_)
      rw [hk, hL.1]
      exact cP_lt (P := fun i => N 84 i ≠ -6) hj hp
    · exact absurd h70 (by omega)
  | succ n ih =>
    intro k C v u5 h1 h2 h3 h4 h5 h6
    have e1 : sm N 110 v 83 1 = N 83 1 := by rw [sm_ne _ _ (by decide)]
    have e84 : sm N 110 v 84 = N 84 := sm_ne _ _ (by decide)
    have e110 : sm N 110 v 110 = v := sm_same _ _ _
    obtain ⟨j, ⟨a1, a2, a3, a4, a5, a6⟩, a7⟩ := hL.at rfl hcap h2 (by omega)
    have e113 : sm N 110 v 113 k = (j : Int) / 144 := by rw [sm_ne _ _ (by decide)]; exact a3
    have ak : arcK (sm N 110 v) k j := ⟨a1, a2, e113, by rw [sm_ne _ _ (by decide)]; exact a4, by rw [sm_ne _ _ (by decide)]; exact a5, by rw [e84]; exact a6⟩
    have wr := hw j (by omega) (by omega)
    have uniq : ∀ j2 : Nat, N 84 j2 ≠ -6 → cP (fun i => N 84 i ≠ -6) j2 < k + 1 → cP (fun i => N 84 i ≠ -6) j2 < k ∨ j2 = j := fun j2 p2 h9 => by
      by_cases g : cP (fun i => N 84 i ≠ -6) j2 = k
      · exact Or.inr (cP_inj (P := fun i => N 84 i ≠ -6) p2 a6 (by rw [g, a7]))
      · exact Or.inl (by omega)
    have ve := h3 ((j : Int) % 24) (by omega) (by omega)
    obtain ⟨c, hc⟩ : ∃ c, c = N 84 j * 16777216 + 1 + v ((j : Int) % 24) := ⟨_, rfl⟩
    have fin : 4 ≤ (j : Int) / 144 → ∀ (C2 : Prop) (u5 : AV), (¬ C2 → ¬ C ∧ ¬ c < v ((j : Int) / 144 - 4)) → V cX1_findWaysHome RX1 6 none (rmk 3 65) (mE Post) 64 [aR 83, aI la, aI (bI C2), aI rd, aI (k + 1), u5] [] (sm N 110 (lw v ((j : Int) / 144 - 4) c)) := fun h9 C2 u5 hC2 => by
      refine ih (k + 1) C2 _ u5 (by omega) (by omega) (fun i i0 i1 => ?_) (fun i => Int.le_trans (lw_le _ _ _ i) (h4 i)) (fun hn i => ?_) (fun j2 hj2 p2 hlt h4j => ?_)
      · have g := h3 i i0 i1
        unfold lw
        by_cases hlt : c < v ((j : Int) / 144 - 4)
        · rw [if_pos hlt]
          unfold ui
          by_cases e : i = (j : Int) / 144 - 4
          · rw [if_pos e]
            have g2 := h3 ((j : Int) / 144 - 4) (by omega) (by omega)
            refine ⟨by omega, by omega, fun _ => ?_⟩
            rw [e, hc]
            exact HWy.arc ok ht a2 a6 h9 (ve.2.2 (by omega))
          · rw [if_neg e]; exact g
        · rw [if_neg hlt]; exact g
      · rw [lw_no (hC2 hn).2]
        exact h5 (hC2 hn).1 i
      · rcases uniq j2 p2 hlt with g | g
        · exact Int.le_trans (lw_le _ _ _ _) (h6 j2 hj2 p2 g h4j)
        · subst g
          have := lw_at v ((j2 : Int) / 144 - 4) c
          have := h4 ((j2 : Int) % 24)
          omega
    refine v_iload (j := 4) (q := 66) rfl dX1_findWaysHome_64 rfl ?_
    refine v_aload_n (j := 0) (q := 67) rfl dX1_findWaysHome_66 rfl ?_
    refine v_getI (j := 1) (q := 70) dX1_findWaysHome_67 fl_X1_15 kd_83 rfl rfl rfl ?_
    rw [e1]
    refine v_icmp_ge (tgt := 115) (q := 73) dX1_findWaysHome_70 (by decide) rfl (by omega) (by omega) (fun h70 => ?_) (fun h70 => ?_)
    · exact absurd h70 (by omega)
    · refine v_aload_n (j := 0) (q := 74) rfl dX1_findWaysHome_73 rfl ?_
      refine v_getR (p' := 113) (q := 77) dX1_findWaysHome_74 fl_X1_42 kd_83 rfl (rfc_1_10 kd_83) rfl ?_
      refine v_iload (j := 4) (q := 79) rfl dX1_findWaysHome_77 rfl ?_
      refine v_iald (q := 80) dX1_findWaysHome_79 kd_113 (by omega) (by omega) rfl ?_
      rw [e113]
      refine v_iconst (q := 81) dX1_findWaysHome_80 rfl ?_
      refine v_isub (q := 82) dX1_findWaysHome_81 rfl ?_
      refine v_ist5 (q := 84) rfl dX1_findWaysHome_82 (by decide) rfl ?_
      refine v_iload (j := 5) (q := 86) rfl dX1_findWaysHome_84 rfl ?_
      refine v_if_lt (tgt := 109) (q := 89) dX1_findWaysHome_86 (by decide) rfl (by omega) (fun h86 => ?_) (fun h86 => ?_)
      · refine v_iinc4 (q := 112) rfl dX1_findWaysHome_109 (by decide) rfl ?_
        refine v_goto (q := 64) dX1_findWaysHome_112 (by decide) ?_
        first
          | exact ih (k + 1) C v _ (by omega) (by omega) h3 h4 h5 (fun j2 hj2 p2 hlt h4j => by
              rcases uniq j2 p2 hlt with g | g
              · exact h6 j2 hj2 p2 g h4j
              · subst g; omega)
          | exact fin (by omega) C _ (fun h => ⟨h, h104⟩)
          | (have hk := fin (by omega) True (aI ((j : Int) / 144 - 4)) (fun h => absurd trivial h)
             rw [← bI_1] at hk
             exact hk)
      · have v4 := h3 ((j : Int) / 144 - 4) (by omega) (by omega)
        refine v_aload_n (j := 0) (q := 90) rfl dX1_findWaysHome_89 rfl ?_
        refine v_getR (p' := 110) (q := 93) dX1_findWaysHome_90 fl_X1_28 kd_83 rfl (rfc_1_6 kd_83) rfl ?_
        refine v_iload (j := 5) (q := 95) rfl dX1_findWaysHome_93 rfl ?_
        refine v_aload_n (j := 0) (q := 96) rfl dX1_findWaysHome_95 rfl ?_
        refine v_iload (j := 4) (q := 98) rfl dX1_findWaysHome_96 rfl ?_
        refine v_cVL1 (q := 101) dX1_findWaysHome_98 mlX1_169 mdX1_costOverArc (by decide) kd_83 rfl rfl ⟨Nat.le_refl 0, Nat.le_refl 0⟩ (by exact Nat.le_of_ble_eq_true rfl) rfl (c_X1_costOverArc k j _ ak (by rw [e84]; exact hw)) ?_
        rw [e84, e110, ← hc]
        rintro _ _ ⟨rfl, rfl⟩
        refine v_cSNI3 (q := 104) dX1_findWaysHome_101 mlX1_172 mdX9_lower (by decide) ⟨Nat.le_refl 0, Nat.le_refl 0⟩ (by exact Nat.le_of_ble_eq_true rfl) rfl (c_X9_lower 110 24 ((j : Int) / 144 - 4) c _ kd_110 (by omega) (by omega) (by omega) (by rw [e110]; omega)) ?_
        rw [lw_mem, sm_sm, e110]
        rintro _ _ ⟨rfl, rfl⟩
        refine v_if_eqB (tgt := 109) (q := 107) dX1_findWaysHome_104 (by decide) rfl (fun h104 => ?_) (fun h104 => ?_)
        · refine v_iinc4 (q := 112) rfl dX1_findWaysHome_109 (by decide) rfl ?_
          refine v_goto (q := 64) dX1_findWaysHome_112 (by decide) ?_
          first
            | exact ih (k + 1) C v _ (by omega) (by omega) h3 h4 h5 (fun j2 hj2 p2 hlt h4j => by
                rcases uniq j2 p2 hlt with g | g
                · exact h6 j2 hj2 p2 g h4j
                · subst g; omega)
            | exact fin (by omega) C _ (fun h => ⟨h, h104⟩)
            | (have hk := fin (by omega) True (aI ((j : Int) / 144 - 4)) (fun h => absurd trivial h)
               rw [← bI_1] at hk
               exact hk)
        · refine v_iconst (q := 108) dX1_findWaysHome_107 rfl ?_
          refine v_ist2 (q := 109) rfl dX1_findWaysHome_108 (by decide) rfl ?_
          refine v_iinc4 (q := 112) rfl dX1_findWaysHome_109 (by decide) rfl ?_
          refine v_goto (q := 64) dX1_findWaysHome_112 (by decide) ?_
          first
            | exact ih (k + 1) C v _ (by omega) (by omega) h3 h4 h5 (fun j2 hj2 p2 hlt h4j => by
                rcases uniq j2 p2 hlt with g | g
                · exact h6 j2 hj2 p2 g h4j
                · subst g; omega)
            | exact fin (by omega) C _ (fun h => ⟨h, h104⟩)
            | (have hk := fin (by omega) True (aI ((j : Int) / 144 - 4)) (fun h => absurd trivial h)
               rw [← bI_1] at hk
               exact hk)
def homeOK (y : Sy) (v : Int → Int) : Prop := ∀ e : Nat, e < 24 → TMn NO (HWy y e) (v e)
theorem l_X1_homerounds (y : Sy) (ok : okS y) (N : Mem) (hw : TWr (N 84)) (ht : tabOK y (N 84)) (hL : LSi (N 84) N 4032) (hcap : cP (fun i => N 84 i ≠ -6) 4032 ≤ 504) (la : Int) :
    ∀ (n rd : Nat) (C : Prop) (v : Int → Int) (u4 u5 : AV), rd + n = 25 → HSnd y v → v (19 + ((dgs y.2.2.2.1).length : Int)) ≤ 0 → stl (muH y) (fun i => v i) 24 rd → (¬ C → ∀ i : Nat, i < 24 → v i = muH y i) →
    V cX1_findWaysHome RX1 6 none (rmk 3 65) (mE (fun r m => r = aU ∧ ∃ v', sm N 110 v' = m ∧ homeOK y v')) 49 [aR 83, aI la, aI (bI C), aI rd, u4, u5] [] (sm N 110 v) := by
  have all : ∀ v : Int → Int, (∀ i : Nat, i < 24 → v i = muH y i) → homeOK y v := fun v h e he => by rw [h e he]; exact muH_ok ok e
  intro n
  induction n with
  | zero =>
    intro rd C v u4 u5 h1 hv hl hs hC
    have hrd : rd = 25 := by omega
    subst hrd
    refine v_iload_n (j := 2) (q := 50) rfl dX1_findWaysHome_49 rfl ?_
    refine v_if_eqB (tgt := 121) (q := 53) dX1_findWaysHome_50 (by decide) rfl (fun h50 => ?_) (fun h50 => ?_)
    · refine v_vret dX1_findWaysHome_121 ?_
      exact ⟨rfl, v, rfl, all v (fun i hi => hs i hi (Nat.lt_of_lt_of_le (rnk_N hi) (by omega)))⟩
    · refine v_iload_n (j := 3) (q := 54) rfl dX1_findWaysHome_53 rfl ?_
      refine v_bipush (q := 56) (by decide) dX1_findWaysHome_54 rfl ?_
      refine v_icmp_gt (tgt := 121) (q := 59) dX1_findWaysHome_56 (by decide) rfl (by omega) (by omega) (fun h56 => ?_) (fun h56 => ?_)
      · refine v_vret dX1_findWaysHome_121 ?_
        exact ⟨rfl, v, rfl, all v (fun i hi => hs i hi (Nat.lt_of_lt_of_le (rnk_N hi) (by omega)))⟩
      · exact absurd h56 (by omega)
  | succ n ih =>
    intro rd C v u4 u5 h1 hv hl hs hC
    refine v_iload_n (j := 2) (q := 50) rfl dX1_findWaysHome_49 rfl ?_
    refine v_if_eqB (tgt := 121) (q := 53) dX1_findWaysHome_50 (by decide) rfl (fun h50 => ?_) (fun h50 => ?_)
    · refine v_vret dX1_findWaysHome_121 ?_
      exact ⟨rfl, v, rfl, all v (hC h50)⟩
    · refine v_iload_n (j := 3) (q := 54) rfl dX1_findWaysHome_53 rfl ?_
      refine v_bipush (q := 56) (by decide) dX1_findWaysHome_54 rfl ?_
      refine v_icmp_gt (tgt := 121) (q := 59) dX1_findWaysHome_56 (by decide) rfl (by omega) (by omega) (fun h56 => ?_) (fun h56 => ?_)
      · exact absurd h56 (by omega)
      · refine v_iconst (q := 60) dX1_findWaysHome_59 rfl ?_
        refine v_ist2 (q := 61) rfl dX1_findWaysHome_60 (by decide) rfl ?_
        refine v_iconst (q := 62) dX1_findWaysHome_61 rfl ?_
        refine v_ist4 (q := 64) rfl dX1_findWaysHome_62 (by decide) rfl ?_
        have c0 := (cP_rng (fun i => N 84 i ≠ -6) 4032).1
        have hk := l_X1_homepass (Post := (fun r m => r = aU ∧ ∃ v', sm N 110 v' = m ∧ homeOK y v')) y ok N hw ht hL hcap v hv la rd (fun C2 v2 k' u5 g1 g2 g3 g4 => ?_) (N 83 1).toNat 0 False v u5 (by rw [hL.1]; omega) (by omega) hv (fun _ => Int.le_refl _) (fun _ _ => rfl) (fun j _ _ h9 => absurd h9 (by have := (cP_rng (fun i => N 84 i ≠ -6) j).1; omega))
        · rw [← bI_0] at hk
          exact hk
        · have rn := rndH ok ht hv g1 g2 hl g4
          have st2 := stl.step hs rn
          refine v_iinc3 (q := 118) rfl dX1_findWaysHome_115 (by decide) rfl ?_
          refine v_goto (q := 49) dX1_findWaysHome_118 (by decide) ?_
          exact ih (rd + 1) C2 v2 _ _ (by omega) g1 (Int.le_trans (g2 _) hl) st2 (fun hc i hi => by rw [g3 hc i]; exact (stl.all (stl.fix rn (fun i _ => g3 hc i) 24)) i hi)
theorem c_X1_findWaysHome (y : Sy) (ok : okS y) (mem : Mem) (hpl : PL mem y) (hw : TWr (mem 84)) (ht : tabOK y (mem 84)) (hL : LSi (mem 84) mem 4032) (hcap : cP (fun i => mem 84 i ≠ -6) 4032 ≤ 504) : CtrV mX1_findWaysHome [aR 83] mem (fun m => ∃ v', sm mem 110 v' = m ∧ homeOK y v') := by
  have hNO := NO_def
  have l1 := ok.2.2.2.1.2.1
  have l2 := dgs_len y.2.2.2.1
  have l3 := ok.st.2
  have e30 : mem 30 0 = (dgs y.2.2.2.1).length := hpl.2.2.2.1.1
  obtain ⟨F, hF⟩ : ∃ F, F = flm mem 110 0 ((24 : Nat) : Int) 16777232777216 := ⟨_, rfl⟩
  have eF : F = sm mem 110 (fun j => if 0 ≤ j ∧ j < 24 then NO else mem 110 j) := hF
  have f30 : F 30 0 = (dgs y.2.2.2.1).length := by rw [eF, sm_ne _ _ (by decide)]; exact e30
  obtain ⟨v, hv⟩ : ∃ v, v = ui (fun j => if 0 ≤ j ∧ j < 24 then NO else mem 110 j) (20 + ((dgs y.2.2.2.1).length : Int) - 1) 0 := ⟨_, rfl⟩
  have em : um F 110 (20 + ((dgs y.2.2.2.1).length : Int) - 1) 0 = sm mem 110 v := eq_sm (fun p hp => by rw [um_ne _ _ _ hp, eF, sm_ne _ _ hp]) (fun i => by rw [um_same, eF, sm_same, hv])
  have sv : HSnd y v := fun i i0 i1 => by
    rw [hv]
    unfold ui
    by_cases e : i = 20 + ((dgs y.2.2.2.1).length : Int) - 1
    · rw [if_pos e]
      refine ⟨Int.le_refl _, by omega, fun _ => ⟨[], 0, ⟨?_, rfl⟩, rfl⟩⟩
      unfold nodE finN
      rw [if_neg (by omega)]
      omega
    · have e9 : (fun j => if 0 ≤ j ∧ j < 24 then NO else mem 110 j) i = NO := if_pos ⟨i0, i1⟩
      rw [if_neg e, e9]
      exact ⟨by omega, Int.le_refl _, fun h => absurd h (Int.lt_irrefl _)⟩
  refine Ctr.ofV (ls := [aR 83, aU, aU, aU, aU, aU]) rfl (by decide) rfl (Nat.le_of_ble_eq_true rfl) ?_
  refine v_aload_n (j := 0) (q := 1) rfl dX1_findWaysHome_0 rfl ?_
  refine v_getR (p' := 110) (q := 4) dX1_findWaysHome_1 fl_X1_28 kd_83 rfl (rfc_1_6 kd_83) rfl ?_
  refine v_ldc2 (n := 16777232777216) (q := 7) klX1_65 rfl dX1_findWaysHome_4 rfl ?_
  refine v_cSV2 (q := 10) dX1_findWaysHome_7 mlX1_67 mdJ7_fill_d0a16 (by decide) ⟨Nat.le_refl 0, Nat.le_refl 0⟩ (by exact Nat.le_of_ble_eq_true rfl) rfl (c_J7_fill_d0a16 110 24 16777232777216 mem kd_110) ?_
  rintro _ rfl
  rw [← hF]
  refine v_bipush (q := 12) (by decide) dX1_findWaysHome_10 rfl ?_
  refine v_aload_n (j := 0) (q := 13) rfl dX1_findWaysHome_12 rfl ?_
  refine v_getR (p' := 29) (q := 16) dX1_findWaysHome_13 fl_X1_51 kd_83 rfl (rfc_1_2 kd_83) rfl ?_
  refine v_getR (p' := 30) (q := 19) dX1_findWaysHome_16 fl_X1_83 kd_29 rfl (rfc_2_3 kd_29) rfl ?_
  refine v_getI (j := 0) (q := 22) dX1_findWaysHome_19 fl_X1_89 kd_30 rfl rfl rfl ?_
  rw [f30]
  refine v_iadd (q := 23) dX1_findWaysHome_22 rfl ?_
  refine v_iconst (q := 24) dX1_findWaysHome_23 rfl ?_
  refine v_isub (q := 25) dX1_findWaysHome_24 rfl ?_
  refine v_ist1 (q := 26) rfl dX1_findWaysHome_25 (by decide) rfl ?_
  refine v_iload_n (j := 1) (q := 27) rfl dX1_findWaysHome_26 rfl ?_
  refine v_bipush (q := 29) (by decide) dX1_findWaysHome_27 rfl ?_
  refine v_icmp_lt (tgt := 45) (q := 32) dX1_findWaysHome_29 (by decide) rfl (by omega) (by omega) (fun h29 => ?_) (fun h29 => ?_)
  · exact absurd h29 (by omega)
  · refine v_iload_n (j := 1) (q := 33) rfl dX1_findWaysHome_32 rfl ?_
    refine v_bipush (q := 35) (by decide) dX1_findWaysHome_33 rfl ?_
    refine v_icmp_ge (tgt := 45) (q := 38) dX1_findWaysHome_35 (by decide) rfl (by omega) (by omega) (fun h35 => ?_) (fun h35 => ?_)
    · exact absurd h35 (by omega)
    · refine v_aload_n (j := 0) (q := 39) rfl dX1_findWaysHome_38 rfl ?_
      refine v_getR (p' := 110) (q := 42) dX1_findWaysHome_39 fl_X1_28 kd_83 rfl (rfc_1_6 kd_83) rfl ?_
      refine v_iload_n (j := 1) (q := 43) rfl dX1_findWaysHome_42 rfl ?_
      refine v_lconst0 (q := 44) dX1_findWaysHome_43 rfl ?_
      refine v_last (q := 45) dX1_findWaysHome_44 kd_110 (by omega) (by omega) rfl ?_
      refine v_iconst (q := 46) dX1_findWaysHome_45 rfl ?_
      refine v_ist2 (q := 47) rfl dX1_findWaysHome_46 (by decide) rfl ?_
      refine v_iconst (q := 48) dX1_findWaysHome_47 rfl ?_
      refine v_ist3 (q := 49) rfl dX1_findWaysHome_48 (by decide) rfl ?_
      rw [em]
      have hk := l_X1_homerounds y ok mem hw ht hL hcap (20 + ((dgs y.2.2.2.1).length : Int) - 1) 25 0 True v aU aU (by omega) sv (by rw [hv, show 19 + ((dgs y.2.2.2.1).length : Int) = 20 + ((dgs y.2.2.2.1).length : Int) - 1 by omega, ui_same]; omega) (fun i _ h => absurd h (by omega)) (fun h => absurd trivial h)
      rw [← bI_1] at hk
      exact hk
