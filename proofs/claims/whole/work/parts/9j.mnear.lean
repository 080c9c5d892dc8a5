/-! ===== the reference: readFront, nearestStack ===== -/
theorem l_X10_rf2 {Post : AV → Mem → Prop} (N : Mem) (y : Sy) (ok : okS y) (hL : LOK (N 123) y) (p x l : Int) (pre : List Int) (hg : FRok y p x pre (N 125)) (hl : pre.length ≤ 6) (hl5 : 1 ≤ l ∧ l ≤ 5) (s : Int) (hs : 0 ≤ s ∧ s < 35)
    (K : ∀ h u4, (∀ i, i ≠ s → h i = N 126 i) → TMn FAR (FPx y p x (pre ++ [l]) s) (h s) → V cX10_readFront RX10 5 none (rmk 1 22) (mE Post) 103 [aR 116, aI l, aI s, aI 35, u4] [] (sm N 126 h)) :
    ∀ (j : Nat) (t : Int) (h : Int → Int) (u4 : AV), t + j = 35 → 0 ≤ t → (∀ i, i ≠ s → h i = N 126 i) → (0 ≤ h s ∧ h s ≤ FAR) → (h s < FAR → FPx y p x (pre ++ [l]) s (h s)) → (∀ t', 0 ≤ t' → t' < t → N 125 t' < FAR → N 123 (ax t' l s) < FAR → h s ≤ N 125 t' + N 123 (ax t' l s)) → V cX10_readFront RX10 5 none (rmk 1 22) (mE Post) 18 [aR 116, aI l, aI s, aI t, u4] [] (sm N 126 h) := by
  have hF := FAR_def
  obtain ⟨l1, l2, l3⟩ := hL.arc ok
  have gr := hg.rng ok (by omega)
  intro j
  induction j with
  | zero =>
    intro t h u4 h1 h2 h3 h4 h5 h6
    have ht : t = 35 := by omega
    subst ht
    refine v_iload_n (j := 3) (q := 19) rfl dX10_readFront_18 rfl ?_
    refine v_bipush (q := 21) (by decide) dX10_readFront_19 rfl ?_
    refine v_icmp_ge (tgt := 103) (q := 24) dX10_readFront_21 (by decide) rfl (by omega) (by omega) (fun h21 => ?_) (fun h21 => ?_)
    · refine K h _ h3 ⟨h4.2, h5, fun w ⟨s0, d, W, a, b, c, e⟩ hlt => ?_⟩
      obtain ⟨t, W1, W2, c1, c2, c3⟩ := PTH.cut c
      have c2 := PTH.one.mp c2
      have n := a.nn ok
      have k := PTH.mid ok n.2 c1
      have tn := isN_rng ok k.1
      have wr := (c2.ok ok).1
      have q1 := (hg t (by omega) (by omega)).2.2 (d + W1) ⟨s0, d, W1, a, b, c1, rfl⟩ (by omega)
      have q2 := l3 t l s W2 ⟨by omega, by omega, hs⟩ c2
      have := h6 t (by omega) (by omega) (by omega) (by omega)
      omega
    · exact absurd h21 (by omega)
  | succ j ih =>
    intro t h u4 h1 h2 h3 h4 h5 h6
    have x1 : inX t l s := ⟨by omega, by omega, hs⟩
    have r1 := ax_rng x1
    have a1 := l1.at x1
    have a2 := gr t h2 (by omega)
    have e23 : sm N 126 h 123 = N 123 := sm_ne _ _ (by decide)
    have e25 : sm N 126 h 125 = N 125 := sm_ne _ _ (by decide)
    have e26 : sm N 126 h 126 = h := sm_same _ _ _
    obtain ⟨A, hA⟩ : ∃ A, A = N 123 (ax t l s) := ⟨_, rfl⟩
    obtain ⟨B, hB⟩ : ∃ B, B = N 125 t := ⟨_, rfl⟩
    obtain ⟨R, hR⟩ : ∃ R, R = h s := ⟨_, rfl⟩
    rw [← hA] at a1
    rw [← hB] at a2
    rw [← hR] at h4
    have fin : ∀ R', (0 ≤ R' ∧ R' ≤ FAR) → R' ≤ R → (B < FAR → A < FAR → R' ≤ B + A) → (R' = R ∨ (R' = B + A ∧ A < FAR ∧ B < FAR)) → ∀ u4, V cX10_readFront RX10 5 none (rmk 1 22) (mE Post) 18 [aR 116, aI l, aI s, aI (t + 1), u4] [] (sm N 126 (ui h s R')) := fun R' g1 g2 g3 g4 u4 => by
      refine ih (t + 1) _ u4 (by omega) (by omega) (fun i hi => by rw [ui_ne _ _ hi]; exact h3 i hi) (by rw [ui_same]; exact g1) (fun hl9 => ?_) (fun t' t0 t1 k1 k2 => ?_)
      · rw [ui_same] at hl9 ⊢
        rcases g4 with g4 | ⟨g4, g5, g6⟩
        · rw [g4, hR]; exact h5 (by omega)
        · obtain ⟨s0, d, W1, a, b, c, e⟩ := (hg t h2 (by omega)).2.1 (by omega)
          have ad := (l2 t l s x1 (by omega)).1
          exact ⟨s0, d, _, a, b, PTH.app (PTH.one.mpr ad) c, by omega⟩
      · rw [ui_same]
        by_cases e : t' = t
        · rw [e, ← hB] at k1 ⊢
          rw [e, ← hA] at k2
          rw [← hA]
          exact g3 k1 k2
        · have := h6 t' t0 (by omega) k1 k2
          omega
    refine v_iload_n (j := 3) (q := 19) rfl dX10_readFront_18 rfl ?_
    refine v_bipush (q := 21) (by decide) dX10_readFront_19 rfl ?_
    refine v_icmp_ge (tgt := 103) (q := 24) dX10_readFront_21 (by decide) rfl (by omega) (by omega) (fun h21 => ?_) (fun h21 => ?_)
    · exact absurd h21 (by omega)
    · refine v_aload_n (j := 0) (q := 25) rfl dX10_readFront_24 rfl ?_
      refine v_getR (p' := 123) (q := 28) dX10_readFront_25 fl_X10_29 kd_116 rfl (rfc_10_12 kd_116) rfl ?_
      refine v_iload_n (j := 3) (q := 29) rfl dX10_readFront_28 rfl ?_
      refine v_iload_n (j := 1) (q := 30) rfl dX10_readFront_29 rfl ?_
      refine v_iload_n (j := 2) (q := 31) rfl dX10_readFront_30 rfl ?_
      refine v_cSI3 (q := 34) dX10_readFront_31 mlX10_160 mdX10_arcAt (by decide) ⟨Nat.le_refl 0, Nat.le_refl 0⟩ (by exact Nat.le_of_ble_eq_true rfl) rfl (c_X10_arcAt t l s _) ?_
      rintro _ _ ⟨rfl, rfl⟩
      refine v_iald (q := 35) dX10_readFront_34 kd_123 (by omega) (by omega) rfl ?_
      rw [e23, ← hA]
      refine v_ist4 (q := 37) rfl dX10_readFront_35 (by decide) rfl ?_
      refine v_aload_n (j := 0) (q := 38) rfl dX10_readFront_37 rfl ?_
      refine v_getR (p' := 126) (q := 41) dX10_readFront_38 fl_X10_38 kd_116 rfl (rfc_10_15 kd_116) rfl ?_
      refine v_iload_n (j := 2) (q := 42) rfl dX10_readFront_41 rfl ?_
      refine v_aload_n (j := 0) (q := 43) rfl dX10_readFront_42 rfl ?_
      refine v_getR (p' := 125) (q := 46) dX10_readFront_43 fl_X10_35 kd_116 rfl (rfc_10_14 kd_116) rfl ?_
      refine v_iload_n (j := 3) (q := 47) rfl dX10_readFront_46 rfl ?_
      refine v_iald (q := 48) dX10_readFront_47 kd_125 (by omega) (by omega) rfl ?_
      rw [e25, ← hB]
      refine v_ldc (n := 2000000000) (q := 50) klX10_163 rfl dX10_readFront_48 rfl ?_
      refine v_icmp_ge (tgt := 90) (q := 53) dX10_readFront_50 (by decide) rfl (by omega) (by omega) (fun h50 => ?_) (fun h50 => ?_)
      · refine v_aload_n (j := 0) (q := 91) rfl dX10_readFront_90 rfl ?_
        refine v_getR (p' := 126) (q := 94) dX10_readFront_91 fl_X10_38 kd_116 rfl (rfc_10_15 kd_116) rfl ?_
        refine v_iload_n (j := 2) (q := 95) rfl dX10_readFront_94 rfl ?_
        refine v_iald (q := 96) dX10_readFront_95 kd_126 (by omega) (by omega) rfl ?_
        first | rw [e26, ← hR] | skip
        refine v_iast (q := 97) dX10_readFront_96 kd_126 (by omega) (by omega) rfl ?_
        rw [um_sm9]
        refine v_iinc3 (q := 100) rfl dX10_readFront_97 (by decide) rfl ?_
        refine v_goto (q := 18) dX10_readFront_100 (by decide) ?_
        first
          | exact fin R h4 (Int.le_refl _) (fun g1 g2 => by omega) (Or.inl rfl) _
          | exact fin (B + A) (by omega) (by omega) (fun g1 g2 => by omega) (Or.inr ⟨rfl, by omega, by omega⟩) _
      · refine v_iload (j := 4) (q := 55) rfl dX10_readFront_53 rfl ?_
        refine v_ldc (n := 2000000000) (q := 57) klX10_163 rfl dX10_readFront_55 rfl ?_
        refine v_icmp_ge (tgt := 90) (q := 60) dX10_readFront_57 (by decide) rfl (by omega) (by omega) (fun h57 => ?_) (fun h57 => ?_)
        · refine v_aload_n (j := 0) (q := 91) rfl dX10_readFront_90 rfl ?_
          refine v_getR (p' := 126) (q := 94) dX10_readFront_91 fl_X10_38 kd_116 rfl (rfc_10_15 kd_116) rfl ?_
          refine v_iload_n (j := 2) (q := 95) rfl dX10_readFront_94 rfl ?_
          refine v_iald (q := 96) dX10_readFront_95 kd_126 (by omega) (by omega) rfl ?_
          first | rw [e26, ← hR] | skip
          refine v_iast (q := 97) dX10_readFront_96 kd_126 (by omega) (by omega) rfl ?_
          rw [um_sm9]
          refine v_iinc3 (q := 100) rfl dX10_readFront_97 (by decide) rfl ?_
          refine v_goto (q := 18) dX10_readFront_100 (by decide) ?_
          first
            | exact fin R h4 (Int.le_refl _) (fun g1 g2 => by omega) (Or.inl rfl) _
            | exact fin (B + A) (by omega) (by omega) (fun g1 g2 => by omega) (Or.inr ⟨rfl, by omega, by omega⟩) _
        · refine v_aload_n (j := 0) (q := 61) rfl dX10_readFront_60 rfl ?_
          refine v_getR (p' := 125) (q := 64) dX10_readFront_61 fl_X10_35 kd_116 rfl (rfc_10_14 kd_116) rfl ?_
          refine v_iload_n (j := 3) (q := 65) rfl dX10_readFront_64 rfl ?_
          refine v_iald (q := 66) dX10_readFront_65 kd_125 (by omega) (by omega) rfl ?_
          rw [e25, ← hB]
          refine v_iload (j := 4) (q := 68) rfl dX10_readFront_66 rfl ?_
          refine v_iadd (q := 69) dX10_readFront_68 rfl ?_
          refine v_aload_n (j := 0) (q := 70) rfl dX10_readFront_69 rfl ?_
          refine v_getR (p' := 126) (q := 73) dX10_readFront_70 fl_X10_38 kd_116 rfl (rfc_10_15 kd_116) rfl ?_
          refine v_iload_n (j := 2) (q := 74) rfl dX10_readFront_73 rfl ?_
          refine v_iald (q := 75) dX10_readFront_74 kd_126 (by omega) (by omega) rfl ?_
          rw [e26, ← hR]
          refine v_icmp_ge (tgt := 90) (q := 78) dX10_readFront_75 (by decide) rfl (by omega) (by omega) (fun h75 => ?_) (fun h75 => ?_)
          · refine v_aload_n (j := 0) (q := 91) rfl dX10_readFront_90 rfl ?_
            refine v_getR (p' := 126) (q := 94) dX10_readFront_91 fl_X10_38 kd_116 rfl (rfc_10_15 kd_116) rfl ?_
            refine v_iload_n (j := 2) (q := 95) rfl dX10_readFront_94 rfl ?_
            refine v_iald (q := 96) dX10_readFront_95 kd_126 (by omega) (by omega) rfl ?_
            first | rw [e26, ← hR] | skip
            refine v_iast (q := 97) dX10_readFront_96 kd_126 (by omega) (by omega) rfl ?_
            rw [um_sm9]
            refine v_iinc3 (q := 100) rfl dX10_readFront_97 (by decide) rfl ?_
            refine v_goto (q := 18) dX10_readFront_100 (by decide) ?_
            first
              | exact fin R h4 (Int.le_refl _) (fun g1 g2 => by omega) (Or.inl rfl) _
              | exact fin (B + A) (by omega) (by omega) (fun g1 g2 => by omega) (Or.inr ⟨rfl, by omega, by omega⟩) _
          · refine v_aload_n (j := 0) (q := 79) rfl dX10_readFront_78 rfl ?_
            refine v_getR (p' := 125) (q := 82) dX10_readFront_79 fl_X10_35 kd_116 rfl (rfc_10_14 kd_116) rfl ?_
            refine v_iload_n (j := 3) (q := 83) rfl dX10_readFront_82 rfl ?_
            refine v_iald (q := 84) dX10_readFront_83 kd_125 (by omega) (by omega) rfl ?_
            rw [e25, ← hB]
            refine v_iload (j := 4) (q := 86) rfl dX10_readFront_84 rfl ?_
            refine v_iadd (q := 87) dX10_readFront_86 rfl ?_
            refine v_goto (q := 96) dX10_readFront_87 (by decide) ?_
            first | rw [e26, ← hR] | skip
            refine v_iast (q := 97) dX10_readFront_96 kd_126 (by omega) (by omega) rfl ?_
            rw [um_sm9]
            refine v_iinc3 (q := 100) rfl dX10_readFront_97 (by decide) rfl ?_
            refine v_goto (q := 18) dX10_readFront_100 (by decide) ?_
            first
              | exact fin R h4 (Int.le_refl _) (fun g1 g2 => by omega) (Or.inl rfl) _
              | exact fin (B + A) (by omega) (by omega) (fun g1 g2 => by omega) (Or.inr ⟨rfl, by omega, by omega⟩) _
theorem l_X10_rf1 (mem : Mem) (y : Sy) (ok : okS y) (hL : LOK (mem 123) y) (p x l : Int) (pre : List Int) (hg : FRok y p x pre (mem 125)) (hl : pre.length ≤ 6) (hl5 : 1 ≤ l ∧ l ≤ 5) :
    ∀ (j : Nat) (s : Int) (h : Int → Int) (u3 u4 : AV), s + j = 35 → 0 ≤ s → (∀ i, 0 ≤ i → i < s → TMn FAR (FPx y p x (pre ++ [l]) i) (h i)) → V cX10_readFront RX10 5 none (rmk 1 22) (mE (fun r m => r = aU ∧ ∃ h, sm mem 126 h = m ∧ FRok y p x (pre ++ [l]) h)) 2 [aR 116, aI l, aI s, u3, u4] [] (sm mem 126 h) := by
  have hF := FAR_def
  intro j
  induction j with
  | zero =>
    intro s h u3 u4 h1 h2 h3
    have hs : s = 35 := by omega
    subst hs
    refine v_iload_n (j := 2) (q := 3) rfl dX10_readFront_2 rfl ?_
    refine v_bipush (q := 5) (by decide) dX10_readFront_3 rfl ?_
    refine v_icmp_ge (tgt := 109) (q := 8) dX10_readFront_5 (by decide) rfl (by omega) (by omega) (fun h5 => ?_) (fun h5 => ?_)
    · refine v_vret dX10_readFront_109 ?_
      exact ⟨rfl, h, rfl, h3⟩
    · exact absurd h5 (by omega)
  | succ j ih =>
    intro s h u3 u4 h1 h2 h3
    obtain ⟨N, hN⟩ : ∃ N, N = sm mem 126 (ui h s 2000000000) := ⟨_, rfl⟩
    have n23 : N 123 = mem 123 := by rw [hN, sm_ne _ _ (by decide)]
    have n25 : N 125 = mem 125 := by rw [hN, sm_ne _ _ (by decide)]
    have n26 : N 126 = ui h s 2000000000 := by rw [hN, sm_same]
    refine v_iload_n (j := 2) (q := 3) rfl dX10_readFront_2 rfl ?_
    refine v_bipush (q := 5) (by decide) dX10_readFront_3 rfl ?_
    refine v_icmp_ge (tgt := 109) (q := 8) dX10_readFront_5 (by decide) rfl (by omega) (by omega) (fun h5 => ?_) (fun h5 => ?_)
    · exact absurd h5 (by omega)
    · refine v_aload_n (j := 0) (q := 9) rfl dX10_readFront_8 rfl ?_
      refine v_getR (p' := 126) (q := 12) dX10_readFront_9 fl_X10_38 kd_116 rfl (rfc_10_15 kd_116) rfl ?_
      refine v_iload_n (j := 2) (q := 13) rfl dX10_readFront_12 rfl ?_
      refine v_ldc (n := 2000000000) (q := 15) klX10_163 rfl dX10_readFront_13 rfl ?_
      refine v_iast (q := 16) dX10_readFront_15 kd_126 (by omega) (by omega) rfl ?_
      rw [um_sm9, ← hN]
      refine v_iconst (q := 17) dX10_readFront_16 rfl ?_
      refine v_ist3 (q := 18) rfl dX10_readFront_17 (by decide) rfl ?_
      have hk := l_X10_rf2 (Post := (fun r m => r = aU ∧ ∃ h, sm mem 126 h = m ∧ FRok y p x (pre ++ [l]) h)) N y ok (by rw [n23]; exact hL) p x l pre (by rw [n25]; exact hg) hl hl5 s (by omega) (fun h9 u4 k1 k2 => ?_) 35 0 (N 126) u4 (by omega) (by omega) (fun _ _ => rfl) (by rw [n26, ui_same]; omega) (fun h9 => by rw [n26, ui_same] at h9; omega) (fun t' t0 t1 => by omega)
      · rw [sm_id N 126 (fun _ => rfl)] at hk
        exact hk
      · have eN : sm N 126 h9 = sm mem 126 h9 := by rw [hN, sm_sm]
        rw [eN]
        refine v_iinc2 (q := 106) rfl dX10_readFront_103 (by decide) rfl ?_
        refine v_goto (q := 2) dX10_readFront_106 (by decide) ?_
        refine ih (s + 1) h9 _ _ (by omega) (by omega) (fun i i0 i1 => ?_)
        by_cases e : i = s
        · rw [e]; exact k2
        · rw [k1 i e, n26, ui_ne _ _ e]
          exact h3 i i0 (by omega)
theorem c_X10_readFront (mem : Mem) (y : Sy) (ok : okS y) (hL : LOK (mem 123) y) (p x l : Int) (pre : List Int) (hg : FRok y p x pre (mem 125)) (hl : pre.length ≤ 6) (hl5 : 1 ≤ l ∧ l ≤ 5) : CtrV mX10_readFront [aR 116, aI l] mem (fun m => ∃ h, sm mem 126 h = m ∧ FRok y p x (pre ++ [l]) h) := by
  refine Ctr.ofV (ls := [aR 116, aI l, aU, aU, aU]) rfl (by decide) rfl (Nat.le_of_ble_eq_true rfl) ?_
  refine v_iconst (q := 1) dX10_readFront_0 rfl ?_
  refine v_ist2 (q := 2) rfl dX10_readFront_1 (by decide) rfl ?_
  have hk := l_X10_rf1 mem y ok hL p x l pre hg hl hl5 35 0 (mem 126) aU aU (by omega) (by omega) (fun i i0 i1 => by omega)
  rw [sm_id mem 126 (fun _ => rfl)] at hk
  exact hk
theorem meet_eq {y : Sy} (ok : okS y) {p x : Int} {pre : List Int} {g r : Int → Int} {n : Nat} (hg : FRok y p x pre g) (hr : ∀ s, 0 ≤ s → s < 35 → (0 ≤ r s ∧ r s ≤ FAR) ∧ (10 ≤ s → TMn FAR (PX y n s) (r s))) {R : Int} (h : meetR g r R) (hd : hdw y p x < 1000001) : R = hdw y p x ↔ ∃ v, v.length = n ∧ DSt y p x (pre ++ v) (hdw y p x) := by
  have hF := FAR_def
  have hh := hdw_ok ok p x
  have hb := hdw_rng ok p x
  have snd : R < FAR → ∃ v, v.length = n ∧ DSt y p x (pre ++ v) R := fun hl => by
    obtain ⟨s, hs, g1, g2, g3⟩ := h.2.1 hl
    have fp := (hg s hs.1 hs.2).2.1 g1
    have sn := isN_rng ok (fp.rng ok).2.2
    obtain ⟨u, hu, hp⟩ := ((hr s hs.1 hs.2).2 sn.1).2.1 g2
    obtain ⟨s0, d, W1, a, b, c, e⟩ := fp
    exact ⟨u, hu, s0, d, _, a, PTH.app hp c, by omega⟩
  constructor
  · intro e
    have := snd (by omega)
    rw [e] at this
    exact this
  · rintro ⟨v, hv, s0, d, W, a, b, e⟩
    obtain ⟨s, W1, W2, b1, b2, b3⟩ := PTH.cut b
    have n0 := a.nn ok
    have k := PTH.mid ok n0.2 b1
    have sn := isN_rng ok k.1
    have k2 := PTH.len ok k.1 b2
    have a1 := (hg s (by omega) (by omega)).2.2 (d + W1) ⟨s0, d, W1, a, by omega, b1, rfl⟩ (by omega)
    have a2 := ((hr s (by omega) (by omega)).2 sn.1).2.2 W2 ⟨v, hv, b2⟩ (by omega)
    have up := h.2.2 s (by omega) (by omega) (by omega) (by omega)
    obtain ⟨v2, -, hv2⟩ := snd (by omega)
    have lo := hh.2.2 R ⟨_, hv2⟩ (by omega)
    omega
theorem l_X10_nsCopy {Post : AV → Mem → Prop} (N : Mem) (p x du sz w lf l : Int) (K : ∀ g, (∀ i, 0 ≤ i → i < 35 → g i = N 126 i) → V cX10_nearestStack RX10 9 (some .int) (rmk 4 99) (mE Post) 151 [aR 116, aI p, aI x, aI du, aI sz, aI w, aI lf, aI l, aI 35] [] (sm N 125 g)) :
    ∀ (j : Nat) (s : Int) (g : Int → Int), s + j = 35 → 0 ≤ s → (∀ i, 0 ≤ i → i < s → g i = N 126 i) → V cX10_nearestStack RX10 9 (some .int) (rmk 4 99) (mE Post) 124 [aR 116, aI p, aI x, aI du, aI sz, aI w, aI lf, aI l, aI s] [] (sm N 125 g) := by
  intro j
  induction j with
  | zero =>
    intro s g h1 h2 h3
    have hs : s = 35 := by omega
    subst hs
    refine v_iload (j := 8) (q := 126) rfl dX10_nearestStack_124 rfl ?_
    refine v_bipush (q := 128) (by decide) dX10_nearestStack_126 rfl ?_
    refine v_icmp_ge (tgt := 151) (q := 131) dX10_nearestStack_128 (by decide) rfl (by omega) (by omega) (fun h128 => ?_) (fun h128 => ?_)
    · exact K g h3
    · exact absurd h128 (by omega)
  | succ j ih =>
    intro s g h1 h2 h3
    have e26 : sm N 125 g 126 = N 126 := sm_ne _ _ (by decide)
    refine v_iload (j := 8) (q := 126) rfl dX10_nearestStack_124 rfl ?_
    refine v_bipush (q := 128) (by decide) dX10_nearestStack_126 rfl ?_
    refine v_icmp_ge (tgt := 151) (q := 131) dX10_nearestStack_128 (by decide) rfl (by omega) (by omega) (fun h128 => ?_) (fun h128 => ?_)
    · exact absurd h128 (by omega)
    · refine v_aload_n (j := 0) (q := 132) rfl dX10_nearestStack_131 rfl ?_
      refine v_getR (p' := 125) (q := 135) dX10_nearestStack_132 fl_X10_35 kd_116 rfl (rfc_10_14 kd_116) rfl ?_
      refine v_iload (j := 8) (q := 137) rfl dX10_nearestStack_135 rfl ?_
      refine v_aload_n (j := 0) (q := 138) rfl dX10_nearestStack_137 rfl ?_
      refine v_getR (p' := 126) (q := 141) dX10_nearestStack_138 fl_X10_38 kd_116 rfl (rfc_10_15 kd_116) rfl ?_
      refine v_iload (j := 8) (q := 143) rfl dX10_nearestStack_141 rfl ?_
      refine v_iald (q := 144) dX10_nearestStack_143 kd_126 (by omega) (by omega) rfl ?_
      rw [e26]
      refine v_iast (q := 145) dX10_nearestStack_144 kd_125 (by omega) (by omega) rfl ?_
      rw [um_sm9]
      refine v_iinc8 (q := 148) rfl dX10_nearestStack_145 (by decide) rfl ?_
      refine v_goto (q := 124) dX10_nearestStack_148 (by decide) ?_
      refine ih (s + 1) _ (by omega) (by omega) (fun i i0 i1 => ?_)
      by_cases e : i = s
      · rw [e, ui_same]
      · rw [ui_ne _ _ e]; exact h3 i i0 (by omega)
/-- a label is looked for -/
theorem l_X10_nsLab {Post : AV → Mem → Prop} (mem0 : Mem) (y : Sy) (ok : okS y) (p x sz w : Int) (pre : List Int) (lf : Nat) (hlf : pre.length + lf + 1 ≤ 5) (hd : hdw y p x < 1000001) (l0 : Int) (v0 : List Int) (hv0 : v0.length = lf) (hD : DSt y p x (pre ++ l0 :: v0) (hdw y p x)) (hl0 : 1 ≤ l0 ∧ l0 ≤ 5)
    (K : ∀ M l u8, LR y mem0 M → (1 ≤ l ∧ l ≤ 5) → FRok y p x (pre ++ [l]) (M 126) → (∃ v, v.length = lf ∧ DSt y p x ((pre ++ [l]) ++ v) (hdw y p x)) → (∀ l', 1 ≤ l' → l' < l → ¬ ∃ v, v.length = lf ∧ DSt y p x ((pre ++ [l']) ++ v) (hdw y p x)) → V cX10_nearestStack RX10 9 (some .int) (rmk 4 99) (mE Post) 121 [aR 116, aI p, aI x, aI (hdw y p x), aI sz, aI w, aI (lf : Int), aI l, u8] [] M) :
    ∀ (j : Nat) (l : Int) (M : Mem) (u8 : AV), l + j = l0 → 1 ≤ l → LR y mem0 M → FRok y p x pre (M 125) → FRok y p x (pre ++ [l]) (M 126) → (∀ l', 1 ≤ l' → l' < l → ¬ ∃ v, v.length = lf ∧ DSt y p x ((pre ++ [l']) ++ v) (hdw y p x)) → V cX10_nearestStack RX10 9 (some .int) (rmk 4 99) (mE Post) 95 [aR 116, aI p, aI x, aI (hdw y p x), aI sz, aI w, aI (lf : Int), aI l, u8] [] M := by
  have hF := FAR_def
  have hb := hdw_rng ok p x
  intro j
  induction j with
  | zero =>
    intro l M u8 h1 h2 h3 h4 h5 h6
    have el : l = l0 := by omega
    subst el
    have rr := h3.2.2.2.2.1 lf (by omega)
    have hex : ∃ v, v.length = lf ∧ DSt y p x ((pre ++ [l]) ++ v) (hdw y p x) := ⟨v0, hv0, by rw [show (pre ++ [l]) ++ v0 = pre ++ l :: v0 by simp]; exact hD⟩
    refine v_aload_n (j := 0) (q := 96) rfl dX10_nearestStack_95 rfl ?_
    refine v_aload_n (j := 0) (q := 97) rfl dX10_nearestStack_96 rfl ?_
    refine v_getR (p' := 126) (q := 100) dX10_nearestStack_97 fl_X10_38 kd_116 rfl (rfc_10_15 kd_116) rfl ?_
    refine v_iload (j := 6) (q := 102) rfl dX10_nearestStack_100 rfl ?_
    refine v_cVI2 (q := 105) dX10_nearestStack_102 mlX10_186 mdX10_meet (by decide) kd_116 rfl rfl ⟨Nat.le_refl 0, Nat.le_refl 0⟩ (by exact Nat.le_of_ble_eq_true rfl) rfl (c_X10_meet 126 kd_126 lf M (by omega) (h5.rng ok (by rw [List.length_append]; show pre.length + 1 ≤ 7; omega)) (fun t t0 t1 => (rr t t0 t1).1)) ?_
    rintro R _ ⟨rfl, hm⟩
    have hm1 := hm.1
    have me := meet_eq ok h5 (fun s s0 s1 => rr s s0 s1) hm hd
    refine v_iload_n (j := 3) (q := 106) rfl dX10_nearestStack_105 rfl ?_
    refine v_icmp_eq (tgt := 121) (q := 109) dX10_nearestStack_106 (by decide) rfl (by omega) (by omega) (fun h106 => ?_) (fun h106 => ?_)
    · exact K M l _ h3 (by omega) h5 (me.mp h106) h6
    · exact absurd (me.mpr hex) h106
  | succ j ih =>
    intro l M u8 h1 h2 h3 h4 h5 h6
    have rr := h3.2.2.2.2.1 lf (by omega)
    refine v_aload_n (j := 0) (q := 96) rfl dX10_nearestStack_95 rfl ?_
    refine v_aload_n (j := 0) (q := 97) rfl dX10_nearestStack_96 rfl ?_
    refine v_getR (p' := 126) (q := 100) dX10_nearestStack_97 fl_X10_38 kd_116 rfl (rfc_10_15 kd_116) rfl ?_
    refine v_iload (j := 6) (q := 102) rfl dX10_nearestStack_100 rfl ?_
    refine v_cVI2 (q := 105) dX10_nearestStack_102 mlX10_186 mdX10_meet (by decide) kd_116 rfl rfl ⟨Nat.le_refl 0, Nat.le_refl 0⟩ (by exact Nat.le_of_ble_eq_true rfl) rfl (c_X10_meet 126 kd_126 lf M (by omega) (h5.rng ok (by rw [List.length_append]; show pre.length + 1 ≤ 7; omega)) (fun t t0 t1 => (rr t t0 t1).1)) ?_
    rintro R _ ⟨rfl, hm⟩
    have hm1 := hm.1
    have me := meet_eq ok h5 (fun s s0 s1 => rr s s0 s1) hm hd
    refine v_iload_n (j := 3) (q := 106) rfl dX10_nearestStack_105 rfl ?_
    refine v_icmp_eq (tgt := 121) (q := 109) dX10_nearestStack_106 (by decide) rfl (by omega) (by omega) (fun h106 => ?_) (fun h106 => ?_)
    · exact K M l _ h3 (by omega) h5 (me.mp h106) h6
    · refine v_iinc7 (q := 112) rfl dX10_nearestStack_109 (by decide) rfl ?_
      refine v_aload_n (j := 0) (q := 113) rfl dX10_nearestStack_112 rfl ?_
      refine v_iload (j := 7) (q := 115) rfl dX10_nearestStack_113 rfl ?_
      refine v_cVV1 (q := 118) dX10_nearestStack_115 mlX10_202 mdX10_readFront (by decide) kd_116 rfl rfl ⟨Nat.le_refl 0, Nat.le_refl 0⟩ (by exact Nat.le_of_ble_eq_true rfl) rfl (c_X10_readFront M y ok h3.2.2.2.1 p x (l + 1) pre h4 (by omega) (by omega)) ?_
      rintro m1 ⟨h, rfl, hh⟩
      refine v_goto (q := 95) dX10_nearestStack_118 (by decide) ?_
      refine ih (l + 1) _ _ (by omega) (by omega) (h3.fr (fun q h1 h2 => sm_ne _ _ h2)) (by rw [sm_ne _ _ (by decide)]; exact h4) (by rw [sm_same]; exact hh) (fun l' a b => ?_)
      by_cases e : l' = l
      · rw [e]; exact fun hx => h106 (me.mpr hx)
      · exact h6 l' a (by omega)
theorem l_X10_nsWord (mem0 : Mem) (A : AS) (hJ : RJ LOK mem0 A) (p x : Int) (N : Nat) (hv : hval A.1 p x) (hd : hdw A.1 p x < 1000001) (hN : N ≤ 5) (hmin : ∀ u', DSt A.1 p x u' (hdw A.1 p x) → N ≤ u'.length) :
    ∀ (j : Nat) (pre : List Int) (M : Mem) (u7 u8 : AV), pre.length + j = N → LR A.1 mem0 M → FRok A.1 p x pre (M 125) → (∃ v, v.length = j ∧ DSt A.1 p x (pre ++ v) (hdw A.1 p x)) → (∀ u', DSt A.1 p x u' (hdw A.1 p x) → u'.length = N → (∃ v', u' = pre ++ v') ∨ num x pre < num x (u'.take pre.length)) →
    V cX10_nearestStack RX10 9 (some .int) (rmk 4 99) (mE (fun r m => ∃ z, r = aI z ∧ sNs A.1 p x z ∧ RK LOK mem0 A m)) 81 [aR 116, aI p, aI x, aI (hdw A.1 p x), aI (N : Int), aI (num x pre), aI ((j : Int) - 1), u7, u8] [] M := by
  have ok := hJ.1.1.2.2.1
  intro j
  induction j with
  | zero =>
    intro pre M u7 u8 h1 h2 h3 h4 h5
    refine v_iload (j := 6) (q := 83) rfl dX10_nearestStack_81 rfl ?_
    refine v_if_lt (tgt := 167) (q := 86) dX10_nearestStack_83 (by decide) rfl (by omega) (fun h83 => ?_) (fun h83 => ?_)
    · refine v_iload (j := 5) (q := 169) rfl dX10_nearestStack_167 rfl ?_
      refine v_iret dX10_nearestStack_169 ?_
      obtain ⟨v, v1, v2⟩ := h4
      rw [List.length_eq_zero_iff.mp v1, List.append_nil] at v2
      refine ⟨_, rfl, Or.inr ⟨hv, Or.inr ⟨hd, Or.inr ⟨pre, by omega, v2, fun u' hu' => by have := hmin u' hu'; omega, fun u' hu' hlen => ?_, rfl⟩⟩⟩, RK.LR hJ h2⟩
      rcases h5 u' hu' (by omega) with ⟨v', e9⟩ | g
      · have : v'.length = 0 := by rw [e9, List.length_append] at hlen; omega
        rw [e9, List.length_eq_zero_iff.mp this, List.append_nil]
        exact Int.le_refl _
      · rw [← hlen, List.take_length] at g
        omega
    · exact absurd h83 (by omega)
  | succ j ih =>
    intro pre M u7 u8 h1 h2 h3 h4 h5
    obtain ⟨v, v1, v2⟩ := h4
    have labs : ∀ u', DSt A.1 p x u' (hdw A.1 p x) → ∀ l ∈ u', 1 ≤ l ∧ l ≤ 5 := fun u' ⟨s, d, W, a, b, _⟩ => PTH.labs ok (a.nn ok).2 b
    obtain ⟨l0, v0, rfl⟩ : ∃ l0 v0, v = l0 :: v0 := by
      match v, v1 with
      | l0 :: v0, _ => exact ⟨l0, v0, rfl⟩
    rw [List.length_cons] at v1
    have hl0 := labs _ v2 l0 (List.mem_append_right _ List.mem_cons_self)
    refine v_iload (j := 6) (q := 83) rfl dX10_nearestStack_81 rfl ?_
    refine v_if_lt (tgt := 167) (q := 86) dX10_nearestStack_83 (by decide) rfl (by omega) (fun h83 => ?_) (fun h83 => ?_)
    · exact absurd h83 (by omega)
    · refine v_iconst (q := 87) dX10_nearestStack_86 rfl ?_
      refine v_ist7 (q := 89) rfl dX10_nearestStack_87 (by decide) rfl ?_
      refine v_aload_n (j := 0) (q := 90) rfl dX10_nearestStack_89 rfl ?_
      refine v_iload (j := 7) (q := 92) rfl dX10_nearestStack_90 rfl ?_
      refine v_cVV1 (q := 95) dX10_nearestStack_92 mlX10_202 mdX10_readFront (by decide) kd_116 rfl rfl ⟨Nat.le_refl 0, Nat.le_refl 0⟩ (by exact Nat.le_of_ble_eq_true rfl) rfl (c_X10_readFront M A.1 ok h2.2.2.2.1 p x 1 pre h3 (by omega) (by omega)) ?_
      rintro m1 ⟨h, rfl, hh⟩
      rw [show (((j + 1 : Nat) : Int) - 1) = (j : Int) by omega]
      refine l_X10_nsLab (Post := (fun r m => ∃ z, r = aI z ∧ sNs A.1 p x z ∧ RK LOK mem0 A m)) mem0 A.1 ok p x N (num x pre) pre j (by omega) hd l0 v0 (by omega) v2 hl0 (fun M2 l u8 k1 k2 k3 k4 k5 => ?_) (l0 - 1).toNat 1 _ _ (by omega) (by omega) (h2.fr (fun q h1 h2 => sm_ne _ _ h2)) (by rw [sm_ne _ _ (by decide)]; exact h3) (by rw [sm_same]; exact hh) (fun l' a b => by omega)
      refine v_iconst (q := 122) dX10_nearestStack_121 rfl ?_
      refine v_ist8 (q := 124) rfl dX10_nearestStack_122 (by decide) rfl ?_
      have hk := l_X10_nsCopy (Post := (fun r m => ∃ z, r = aI z ∧ sNs A.1 p x z ∧ RK LOK mem0 A m)) M2 p x (hdw A.1 p x) N (num x pre) j l (fun g hg => ?_) 35 0 (M2 125) (by omega) (by omega) (fun i i0 i1 => by omega)
      · rw [sm_id M2 125 (fun _ => rfl)] at hk
        exact hk
      · have hk2 := ih (pre ++ [l]) (sm M2 125 g) (aI l) (aI 35) (by rw [List.length_append]; show pre.length + 1 + j = N; omega) (k1.fr (fun q h1 h2 => sm_ne _ _ h1)) (by rw [sm_same]; exact fun s s0 s1 => by rw [hg s s0 s1]; exact k3 s s0 s1) k4 (fun u' hu' hlen => ?_)
        · rw [num_app, show num x pre * 10 + l = 10 * num x pre + l by omega] at hk2
          refine v_bipush (q := 153) (by decide) dX10_nearestStack_151 rfl ?_
          refine v_iload (j := 5) (q := 155) rfl dX10_nearestStack_153 rfl ?_
          refine v_imul (q := 156) dX10_nearestStack_155 rfl ?_
          refine v_iload (j := 7) (q := 158) rfl dX10_nearestStack_156 rfl ?_
          refine v_iadd (q := 159) dX10_nearestStack_158 rfl ?_
          refine v_ist5 (q := 161) rfl dX10_nearestStack_159 (by decide) rfl ?_
          refine v_iinc6 (q := 164) rfl dX10_nearestStack_161 (by decide) rfl ?_
          refine v_goto (q := 81) dX10_nearestStack_164 (by decide) ?_
          rw [show (j : Int) + -1 = (j : Int) - 1 by omega]
          exact hk2
        · have hlt : pre.length < u'.length := by omega
          have lab : 1 ≤ u'.getD pre.length 0 ∧ u'.getD pre.length 0 ≤ 5 := by
            rw [List.getD_eq_getElem?_getD, List.getElem?_eq_getElem hlt]
            exact labs u' hu' _ (List.getElem_mem hlt)
          rw [show u'.take (pre ++ [l]).length = u'.take pre.length ++ [u'.getD pre.length 0] by rw [List.length_append, show pre.length + [l].length = pre.length + 1 from rfl, take_s hlt], num_app, num_app]
          rcases h5 u' hu' hlen with ⟨v', e9⟩ | g9
          · have e8 : u'.take pre.length = pre := by rw [e9]; exact List.take_left
            cases v' with
            | nil => rw [List.append_nil] at e9; rw [e9] at hlt; omega
            | cons l9 v9 =>
              have el : u'.getD pre.length 0 = l9 := by
                rw [e9, List.getD_eq_getElem?_getD, List.getElem?_append_right (Nat.le_refl _), Nat.sub_self]
                rfl
              rw [e8, el]
              rw [el] at lab
              by_cases gl : l9 = l
              · exact Or.inl ⟨v9, by rw [e9, gl]; simp⟩
              · refine Or.inr ?_
                rcases Int.lt_or_le l9 l with g8 | g8
                · refine absurd ⟨v9, ?_, ?_⟩ (k5 l9 lab.1 g8)
                  · rw [e9, List.length_append, List.length_cons] at hlen; omega
                  · rw [show (pre ++ [l9]) ++ v9 = pre ++ l9 :: v9 by simp, ← e9]; exact hu'
                · omega
          · exact Or.inr (by omega)
theorem l_X10_nsSize (mem0 : Mem) (A : AS) (hJ : RJ LOK mem0 A) (p x : Int) (hv : hval A.1 p x) (M : Mem) (hLR : LR A.1 mem0 M) (hg : FRok A.1 p x [] (M 125)) (du : Int) (hdu : (hdw A.1 p x = 1000001 ∧ du = -6) ∨ (hdw A.1 p x < 1000001 ∧ du = hdw A.1 p x)) :
    ∀ (j k : Nat) (u5 u6 u7 u8 : AV), k + j = 6 → (hdw A.1 p x < 1000001 → ∀ u', DSt A.1 p x u' (hdw A.1 p x) → k ≤ u'.length) → V cX10_nearestStack RX10 9 (some .int) (rmk 4 99) (mE (fun r m => ∃ z, r = aI z ∧ sNs A.1 p x z ∧ RK LOK mem0 A m)) 29 [aR 116, aI p, aI x, aI du, aI (k : Int), u5, u6, u7, u8] [] M := by
  have ok := hJ.1.1.2.2.1
  have hF := FAR_def
  have hb := hdw_rng ok p x
  intro j
  induction j with
  | zero =>
    intro k u5 u6 u7 u8 h1 h2
    have hk : k = 6 := by omega
    subst hk
    refine v_iload (j := 4) (q := 31) rfl dX10_nearestStack_29 rfl ?_
    refine v_bipush (q := 33) (by decide) dX10_nearestStack_31 rfl ?_
    refine v_icmp_ge (tgt := 62) (q := 36) dX10_nearestStack_33 (by decide) rfl (by omega) (by omega) (fun h33 => ?_) (fun h33 => ?_)
    · refine v_iload (j := 4) (q := 64) rfl dX10_nearestStack_62 rfl ?_
      refine v_bipush (q := 66) (by decide) dX10_nearestStack_64 rfl ?_
      refine v_icmp_ne (tgt := 72) (q := 69) dX10_nearestStack_66 (by decide) rfl (by omega) (by omega) (fun h66 => ?_) (fun h66 => ?_)
      · exact absurd h66 (by omega)
      · refine v_bipush (q := 71) (by decide) dX10_nearestStack_69 rfl ?_
        refine v_iret dX10_nearestStack_71 ?_
        refine ⟨_, rfl, Or.inr ⟨hv, ?_⟩, RK.LR hJ hLR⟩
        rcases hdu with g | g
        · exact Or.inl ⟨g.1, rfl⟩
        · exact Or.inr ⟨g.1, Or.inl ⟨fun u hu => by have := h2 g.1 u hu; omega, rfl⟩⟩
    · exact absurd h33 (by omega)
  | succ j ih =>
    intro k u5 u6 u7 u8 h1 h2
    have rr := hLR.2.2.2.2.1 k (by omega)
    refine v_iload (j := 4) (q := 31) rfl dX10_nearestStack_29 rfl ?_
    refine v_bipush (q := 33) (by decide) dX10_nearestStack_31 rfl ?_
    refine v_icmp_ge (tgt := 62) (q := 36) dX10_nearestStack_33 (by decide) rfl (by omega) (by omega) (fun h33 => ?_) (fun h33 => ?_)
    · exact absurd h33 (by omega)
    · refine v_iload_n (j := 3) (q := 37) rfl dX10_nearestStack_36 rfl ?_
      refine v_bipush (q := 39) (by decide) dX10_nearestStack_37 rfl ?_
      refine v_icmp_eq (tgt := 56) (q := 42) dX10_nearestStack_39 (by decide) rfl (by omega) (by omega) (fun h39 => ?_) (fun h39 => ?_)
      · refine v_iinc4 (q := 59) rfl dX10_nearestStack_56 (by decide) rfl ?_
        refine v_goto (q := 29) dX10_nearestStack_59 (by decide) ?_
        first
          | (have hno : du = -6 := by omega
             exact ih (k + 1) _ _ _ _ (by omega) (fun h9 => by omega))
          | (have hne : ¬ R = du := by omega
             refine ih (k + 1) _ _ _ _ (by omega) (fun h9 u' hu' => ?_)
             have := h2 h9 u' hu'
             by_cases e : u'.length = k
             · exact absurd (me.mpr ⟨u', e, hu'⟩) (by rw [← hd9.2]; exact hne)
             · omega)
      · refine v_aload_n (j := 0) (q := 43) rfl dX10_nearestStack_42 rfl ?_
        refine v_aload_n (j := 0) (q := 44) rfl dX10_nearestStack_43 rfl ?_
        refine v_getR (p' := 125) (q := 47) dX10_nearestStack_44 fl_X10_35 kd_116 rfl (rfc_10_14 kd_116) rfl ?_
        refine v_iload (j := 4) (q := 49) rfl dX10_nearestStack_47 rfl ?_
        refine v_cVI2 (q := 52) dX10_nearestStack_49 mlX10_186 mdX10_meet (by decide) kd_116 rfl rfl ⟨Nat.le_refl 0, Nat.le_refl 0⟩ (by exact Nat.le_of_ble_eq_true rfl) rfl (c_X10_meet 125 kd_125 k M (by omega) (hg.rng ok (by decide)) (fun t t0 t1 => (rr t t0 t1).1)) ?_
        rintro R _ ⟨rfl, hm⟩
        have hm1 := hm.1
        have hd9 : hdw A.1 p x < 1000001 ∧ du = hdw A.1 p x := (hdu.resolve_left (fun g => by omega))
        have me := meet_eq ok hg (fun s s0 s1 => rr s s0 s1) hm hd9.1
        refine v_iload_n (j := 3) (q := 53) rfl dX10_nearestStack_52 rfl ?_
        refine v_icmp_eq (tgt := 62) (q := 56) dX10_nearestStack_53 (by decide) rfl (by omega) (by omega) (fun h53 => ?_) (fun h53 => ?_)
        · refine v_iload (j := 4) (q := 64) rfl dX10_nearestStack_62 rfl ?_
          refine v_bipush (q := 66) (by decide) dX10_nearestStack_64 rfl ?_
          refine v_icmp_ne (tgt := 72) (q := 69) dX10_nearestStack_66 (by decide) rfl (by omega) (by omega) (fun h66 => ?_) (fun h66 => ?_)
          · refine v_iload_n (j := 2) (q := 73) rfl dX10_nearestStack_72 rfl ?_
            refine v_ist5 (q := 75) rfl dX10_nearestStack_73 (by decide) rfl ?_
            refine v_iload (j := 4) (q := 77) rfl dX10_nearestStack_75 rfl ?_
            refine v_iconst (q := 78) dX10_nearestStack_77 rfl ?_
            refine v_isub (q := 79) dX10_nearestStack_78 rfl ?_
            refine v_ist6 (q := 81) rfl dX10_nearestStack_79 (by decide) rfl ?_
            have ex := me.mp (by rw [← hd9.2]; exact h53)
            rw [hd9.2]
            exact l_X10_nsWord mem0 A hJ p x k hv hd9.1 (by omega) (h2 hd9.1) k [] M _ _ (by show 0 + k = k; omega) hLR hg ex (fun u' _ _ => Or.inl ⟨u', rfl⟩)
          · exact absurd h66 (by omega)
        · refine v_iinc4 (q := 59) rfl dX10_nearestStack_56 (by decide) rfl ?_
          refine v_goto (q := 29) dX10_nearestStack_59 (by decide) ?_
          first
            | (have hno : du = -6 := by omega
               exact ih (k + 1) _ _ _ _ (by omega) (fun h9 => by omega))
            | (have hne : ¬ R = du := by omega
               refine ih (k + 1) _ _ _ _ (by omega) (fun h9 u' hu' => ?_)
               have := h2 h9 u' hu'
               by_cases e : u'.length = k
               · exact absurd (me.mpr ⟨u', e, hu'⟩) (by rw [← hd9.2]; exact hne)
               · omega)
theorem c_X10_nearestStack (p x : Int) (mem : Mem) (A : AS) (h : RJ LOK mem A) (hp : R32 p) (hx : R32 x) : CtrI mX10_nearestStack [aR 116, aI p, aI x] mem (fun z m => sNs A.1 p x z ∧ RK LOK mem A m) := by
  have ok := h.1.1.2.2.1
  refine Ctr.ofV (ls := [aR 116, aI p, aI x, aU, aU, aU, aU, aU, aU]) rfl (by decide) rfl (Nat.le_of_ble_eq_true rfl) ?_
  refine v_aload_n (j := 0) (q := 1) rfl dX10_nearestStack_0 rfl ?_
  refine v_iload_n (j := 1) (q := 2) rfl dX10_nearestStack_1 rfl ?_
  refine v_iload_n (j := 2) (q := 3) rfl dX10_nearestStack_2 rfl ?_
  refine v_cVI2 (q := 6) dX10_nearestStack_3 mlX10_190 mdX10_isHead (by decide) kd_116 rfl rfl ⟨Nat.le_refl 0, Nat.le_refl 0⟩ (by exact Nat.le_of_ble_eq_true rfl) rfl (c_X10_isHead p x mem A.1 h.1.1 hp hx) ?_
  rintro _ _ ⟨rfl, rfl⟩
  refine v_if_neB (tgt := 11) (q := 9) dX10_nearestStack_6 (by decide) rfl (fun h6 => ?_) (fun h6 => ?_)
  · refine v_aload_n (j := 0) (q := 12) rfl dX10_nearestStack_11 rfl ?_
    refine v_cVV0 (q := 15) dX10_nearestStack_12 mlX10_193 mdX10_layMachine (by decide) kd_116 rfl rfl ⟨Nat.le_refl 0, Nat.le_refl 0⟩ (by exact Nat.le_of_ble_eq_true rfl) rfl (c_X10_layMachine mem A.1 h.1.1 h.2) ?_
    rintro m1 hq
    refine v_aload_n (j := 0) (q := 16) rfl dX10_nearestStack_15 rfl ?_
    refine v_cVV0 (q := 19) dX10_nearestStack_16 mlX10_196 mdX10_layRests (by decide) kd_116 rfl rfl ⟨Nat.le_refl 0, Nat.le_refl 0⟩ (by exact Nat.le_of_ble_eq_true rfl) rfl (c_X10_layRests m1 A.1 (by rw [hq.1 117 (by decide) (by decide)]; exact h.1.1) hq.2.2.2) ?_
    rintro m2 ⟨r, rfl, hr⟩
    have lr := LR.of hq hr
    refine v_aload_n (j := 0) (q := 20) rfl dX10_nearestStack_19 rfl ?_
    refine v_iload_n (j := 1) (q := 21) rfl dX10_nearestStack_20 rfl ?_
    refine v_iload_n (j := 2) (q := 22) rfl dX10_nearestStack_21 rfl ?_
    refine v_cVI2 (q := 25) dX10_nearestStack_22 mlX10_199 mdX10_headOf (by decide) kd_116 rfl rfl ⟨Nat.le_refl 0, Nat.le_refl 0⟩ (by exact Nat.le_of_ble_eq_true rfl) rfl (c_X10_headOf _ A.1 ok lr.2.2.2.1 lr.2.2.2.2 p x h6) ?_
    rintro z m3 ⟨g, rfl, hg, hz⟩
    have hz2 : (hdw A.1 p x = 1000001 ∧ z = -6) ∨ (hdw A.1 p x < 1000001 ∧ z = hdw A.1 p x) := (by have hb := hdw_rng ok p x; by_cases g9 : hdw A.1 p x = 1000001; (rw [if_pos g9] at hz; exact Or.inl ⟨g9, hz.symm⟩); (rw [if_neg g9] at hz; exact Or.inr ⟨by omega, hz.symm⟩))
    refine v_ist3 (q := 26) rfl dX10_nearestStack_25 (by decide) rfl ?_
    refine v_iconst (q := 27) dX10_nearestStack_26 rfl ?_
    refine v_ist4 (q := 29) rfl dX10_nearestStack_27 (by decide) rfl ?_
    exact l_X10_nsSize mem A h p x h6 _ (lr.fr (fun p h1 h2 => sm_ne _ _ h1)) (by rw [sm_same]; exact hg) z hz2 6 0 _ _ _ _ (by omega) (fun _ u' _ => by omega)
  · refine v_iconst (q := 10) dX10_nearestStack_9 rfl ?_
    refine v_iret dX10_nearestStack_10 ?_
    exact ⟨_, rfl, Or.inl ⟨h6, rfl⟩, RK.of h (frR.refl _)⟩
