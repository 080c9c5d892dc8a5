/-! ===== the reference: layRests, its loops ===== -/
def RSTr (y : Sy) (r : Int → Int) (k : Nat) : Prop := ∀ s, 0 ≤ s → s < 35 → (0 ≤ r (rx k s) ∧ r (rx k s) ≤ FAR) ∧ (10 ≤ s → TMn FAR (PX y k s) (r (rx k s)))
def RST7 (y : Sy) (r : Int → Int) : Prop := ∀ s, 0 ≤ s → s < 35 → (0 ≤ r (rx 7 s) ∧ r (rx 7 s) ≤ FAR) ∧ (10 ≤ s → r (rx 7 s) < FAR → PA y s (r (rx 7 s)))
def RSTok (y : Sy) (r : Int → Int) : Prop := (∀ k : Nat, k ≤ 6 → RSTr y r k) ∧ ∀ s, 0 ≤ s → s < 35 → (0 ≤ r (rx 7 s) ∧ r (rx 7 s) ≤ FAR) ∧ (10 ≤ s → TMn FAR (PA y s) (r (rx 7 s)))
theorem um_sm9 (N : Mem) (p : Nat) (r : Int → Int) (i z : Int) : um (sm N p r) p i z = sm N p (ui r i z) := eq_sm (fun q hq => by rw [um_ne _ _ _ hq, sm_ne _ _ hq]) (fun j => by rw [um_same, sm_same])
theorem l_X10_rest1 {Post : AV → Mem → Prop} (N : Mem) (y : Sy) (ok : okS y) (u3 u4 : AV) (K : ∀ r, RSTr y r 0 → RST7 y r → r (rx 7 (finN y)) ≤ 0 → V cX10_layRests RX10 5 none (rmk 2 49) (mE Post) 60 [aR 116, aI (finN y), aI 35, u3, u4] [] (sm N 124 r)) :
    ∀ (j : Nat) (s : Int) (r : Int → Int), s + j = 35 → 0 ≤ s → (∀ i, 0 ≤ i → i < s → r i = (if i = finN y then 0 else FAR) ∧ r (245 + i) = (if i = finN y then 0 else FAR)) → V cX10_layRests RX10 5 none (rmk 2 49) (mE Post) 15 [aR 116, aI (finN y), aI s, u3, u4] [] (sm N 124 r) := by
  have hF := FAR_def
  have h1 := ok.2.2.2.1.2.1
  have h2 := dgs_len y.2.2.2.1
  have h3 := ok.st.2
  have hfin : 31 ≤ finN y ∧ finN y ≤ 34 := by unfold finN; omega
  intro j
  induction j with
  | zero =>
    intro s r g1 g2 g3
    have hs : s = 35 := by omega
    subst hs
    have t0 : ∀ i, 0 ≤ i → i < 35 → r (rx ((0 : Nat) : Int) i) = (if i = finN y then 0 else FAR) ∧ r (rx 7 i) = (if i = finN y then 0 else FAR) := fun i i0 i1 => by
      have := g3 i i0 i1
      rw [show rx ((0 : Nat) : Int) i = i by unfold rx; omega, show rx 7 i = 245 + i by unfold rx; omega]
      exact this
    have rng : ∀ i : Int, 0 ≤ (if i = finN y then (0 : Int) else FAR) ∧ (if i = finN y then (0 : Int) else FAR) ≤ FAR := fun i => by split <;> omega
    refine v_iload_n (j := 2) (q := 16) rfl dX10_layRests_15 rfl ?_
    refine v_bipush (q := 18) (by decide) dX10_layRests_16 rfl ?_
    refine v_icmp_ge (tgt := 60) (q := 21) dX10_layRests_18 (by decide) rfl (by omega) (by omega) (fun h18 => ?_) (fun h18 => ?_)
    · refine K r (fun i i0 i1 => ?_) (fun i i0 i1 => ?_) (by rw [(t0 (finN y) (by omega) (by omega)).2, if_pos rfl]; omega)
      · rw [(t0 i i0 i1).1]
        refine ⟨rng i, fun _ => ⟨(rng i).2, fun hl => ?_, fun W ⟨u, hu, hp⟩ hl => ?_⟩⟩
        · by_cases e : i = finN y
          · rw [if_pos e]; exact ⟨[], rfl, e, rfl⟩
          · rw [if_neg e] at hl; omega
        · rw [List.length_eq_zero_iff.mp hu] at hp
          rw [if_pos hp.1]
          have := hp.2
          omega
      · rw [(t0 i i0 i1).2]
        refine ⟨rng i, fun _ hl => ?_⟩
        by_cases e : i = finN y
        · rw [if_pos e]; exact ⟨[], e, rfl⟩
        · rw [if_neg e] at hl; omega
    · exact absurd h18 (by omega)
  | succ j ih =>
    intro s r g1 g2 g3
    have e1 : ∀ c, um (sm N 124 r) 124 s c = sm N 124 (ui r s c) := fun c => um_sm9 N 124 r s c
    have e2 : ∀ c, sm N 124 (ui r s c) 124 s = c := fun c => by rw [sm_same, ui_same]
    have fin : ∀ c, c = (if s = finN y then 0 else FAR) → V cX10_layRests RX10 5 none (rmk 2 49) (mE Post) 15 [aR 116, aI (finN y), aI (s + 1), u3, u4] [] (sm N 124 (ui (ui r s c) (245 + s) c)) := fun c hc => by
      refine ih (s + 1) _ (by omega) (by omega) (fun i i0 i1 => ?_)
      by_cases e : i = s
      · rw [e, ui_ne _ _ (by omega), ui_same, ui_same]
        exact ⟨hc, hc⟩
      · rw [ui_ne _ _ (by omega), ui_ne _ _ e, ui_ne _ _ (by omega), ui_ne _ _ (by omega)]
        exact g3 i i0 (by omega)
    refine v_iload_n (j := 2) (q := 16) rfl dX10_layRests_15 rfl ?_
    refine v_bipush (q := 18) (by decide) dX10_layRests_16 rfl ?_
    refine v_icmp_ge (tgt := 60) (q := 21) dX10_layRests_18 (by decide) rfl (by omega) (by omega) (fun h18 => ?_) (fun h18 => ?_)
    · exact absurd h18 (by omega)
    · refine v_aload_n (j := 0) (q := 22) rfl dX10_layRests_21 rfl ?_
      refine v_getR (p' := 124) (q := 25) dX10_layRests_22 fl_X10_32 kd_116 rfl (rfc_10_13 kd_116) rfl ?_
      refine v_iload_n (j := 2) (q := 26) rfl dX10_layRests_25 rfl ?_
      refine v_iload_n (j := 2) (q := 27) rfl dX10_layRests_26 rfl ?_
      refine v_iload_n (j := 1) (q := 28) rfl dX10_layRests_27 rfl ?_
      refine v_icmp_ne (tgt := 35) (q := 31) dX10_layRests_28 (by decide) rfl (by omega) (by omega) (fun h28 => ?_) (fun h28 => ?_)
      · refine v_ldc (n := 2000000000) (q := 37) klX10_163 rfl dX10_layRests_35 rfl ?_
        refine v_iast (q := 38) dX10_layRests_37 kd_124 (by omega) (by omega) rfl ?_
        rw [e1]
        refine v_aload_n (j := 0) (q := 39) rfl dX10_layRests_38 rfl ?_
        refine v_getR (p' := 124) (q := 42) dX10_layRests_39 fl_X10_32 kd_116 rfl (rfc_10_13 kd_116) rfl ?_
        refine v_sipush (q := 45) (by decide) dX10_layRests_42 rfl ?_
        refine v_iload_n (j := 2) (q := 46) rfl dX10_layRests_45 rfl ?_
        refine v_iadd (q := 47) dX10_layRests_46 rfl ?_
        refine v_aload_n (j := 0) (q := 48) rfl dX10_layRests_47 rfl ?_
        refine v_getR (p' := 124) (q := 51) dX10_layRests_48 fl_X10_32 kd_116 rfl (rfc_10_13 kd_116) rfl ?_
        refine v_iload_n (j := 2) (q := 52) rfl dX10_layRests_51 rfl ?_
        refine v_iald (q := 53) dX10_layRests_52 kd_124 (by omega) (by omega) rfl ?_
        rw [e2]
        refine v_iast (q := 54) dX10_layRests_53 kd_124 (by omega) (by omega) rfl ?_
        rw [um_sm9]
        refine v_iinc2 (q := 57) rfl dX10_layRests_54 (by decide) rfl ?_
        refine v_goto (q := 15) dX10_layRests_57 (by decide) ?_
        first
          | exact fin _ (by rw [if_pos (by omega)])
          | exact fin _ (by rw [if_neg (by omega)]; rfl)
      · refine v_iconst (q := 32) dX10_layRests_31 rfl ?_
        refine v_goto (q := 37) dX10_layRests_32 (by decide) ?_
        refine v_iast (q := 38) dX10_layRests_37 kd_124 (by omega) (by omega) rfl ?_
        rw [e1]
        refine v_aload_n (j := 0) (q := 39) rfl dX10_layRests_38 rfl ?_
        refine v_getR (p' := 124) (q := 42) dX10_layRests_39 fl_X10_32 kd_116 rfl (rfc_10_13 kd_116) rfl ?_
        refine v_sipush (q := 45) (by decide) dX10_layRests_42 rfl ?_
        refine v_iload_n (j := 2) (q := 46) rfl dX10_layRests_45 rfl ?_
        refine v_iadd (q := 47) dX10_layRests_46 rfl ?_
        refine v_aload_n (j := 0) (q := 48) rfl dX10_layRests_47 rfl ?_
        refine v_getR (p' := 124) (q := 51) dX10_layRests_48 fl_X10_32 kd_116 rfl (rfc_10_13 kd_116) rfl ?_
        refine v_iload_n (j := 2) (q := 52) rfl dX10_layRests_51 rfl ?_
        refine v_iald (q := 53) dX10_layRests_52 kd_124 (by omega) (by omega) rfl ?_
        rw [e2]
        refine v_iast (q := 54) dX10_layRests_53 kd_124 (by omega) (by omega) rfl ?_
        rw [um_sm9]
        refine v_iinc2 (q := 57) rfl dX10_layRests_54 (by decide) rfl ?_
        refine v_goto (q := 15) dX10_layRests_57 (by decide) ?_
        first
          | exact fin _ (by rw [if_pos (by omega)])
          | exact fin _ (by rw [if_neg (by omega)]; rfl)
theorem l_X10_rest2 {Post : AV → Mem → Prop} (N : Mem) (y : Sy) (ok : okS y) (hG : N 117 1 = y.2.1) (hL : LOK (N 123) y) (n : Nat) (hn : n + 1 < 7) (u4 : AV) (K : ∀ r, (∀ k : Nat, k ≤ n + 1 → RSTr y r k) → RST7 y r → r (rx 7 (finN y)) ≤ 0 → V cX10_layRests RX10 5 none (rmk 2 49) (mE Post) 101 [aR 116, aI (finN y), aI ((n : Int) + 1), aI 35, u4] [] (sm N 124 r)) :
    ∀ (j : Nat) (s : Int) (r : Int → Int), s + j = 35 → 0 ≤ s → (∀ k : Nat, k ≤ n → RSTr y r k) → RST7 y r → r (rx 7 (finN y)) ≤ 0 → (∀ i, 0 ≤ i → i < s → (0 ≤ r (rx ((n + 1 : Nat) : Int) i) ∧ r (rx ((n + 1 : Nat) : Int) i) ≤ FAR) ∧ (10 ≤ i → TMn FAR (PX y (n + 1) i) (r (rx ((n + 1 : Nat) : Int) i)))) → V cX10_layRests RX10 5 none (rmk 2 49) (mE Post) 70 [aR 116, aI (finN y), aI ((n : Int) + 1), aI s, u4] [] (sm N 124 r) := by
  have hF := FAR_def
  have hGr := ok.2.1
  have h2 := dgs_len y.2.2.2.1
  have h1 := ok.2.2.2.1.2.1
  have h3 := ok.st.2
  have hfin : 31 ≤ finN y ∧ finN y ≤ 34 := by unfold finN; omega
  intro j
  induction j with
  | zero =>
    intro s r g1 g2 g3 g4 g5 g6
    have hs : s = 35 := by omega
    subst hs
    refine v_iload_n (j := 3) (q := 71) rfl dX10_layRests_70 rfl ?_
    refine v_bipush (q := 73) (by decide) dX10_layRests_71 rfl ?_
    refine v_icmp_ge (tgt := 101) (q := 76) dX10_layRests_73 (by decide) rfl (by omega) (by omega) (fun h73 => ?_) (fun h73 => ?_)
    · refine K r (fun k hk => ?_) g4 g5
      by_cases e : k = n + 1
      · rw [e]; exact fun i i0 i1 => g6 i i0 i1
      · exact g3 k (by omega)
    · exact absurd h73 (by omega)
  | succ j ih =>
    intro s r g1 g2 g3 g4 g5 g6
    have e23 : sm N 124 r 123 = N 123 := sm_ne _ _ (by decide)
    have e24 : sm N 124 r 124 = r := sm_same _ _ _
    have e17 : sm N 124 r 117 1 = y.2.1 := by rw [sm_ne _ _ (by decide)]; exact hG
    have gn := g3 n (Nat.le_refl _)
    refine v_iload_n (j := 3) (q := 71) rfl dX10_layRests_70 rfl ?_
    refine v_bipush (q := 73) (by decide) dX10_layRests_71 rfl ?_
    refine v_icmp_ge (tgt := 101) (q := 76) dX10_layRests_73 (by decide) rfl (by omega) (by omega) (fun h73 => ?_) (fun h73 => ?_)
    · exact absurd h73 (by omega)
    · refine v_aload_n (j := 0) (q := 77) rfl dX10_layRests_76 rfl ?_
      refine v_getR (p' := 124) (q := 80) dX10_layRests_77 fl_X10_32 kd_116 rfl (rfc_10_13 kd_116) rfl ?_
      refine v_bipush (q := 82) (by decide) dX10_layRests_80 rfl ?_
      refine v_iload_n (j := 2) (q := 83) rfl dX10_layRests_82 rfl ?_
      refine v_imul (q := 84) dX10_layRests_83 rfl ?_
      refine v_iload_n (j := 3) (q := 85) rfl dX10_layRests_84 rfl ?_
      refine v_iadd (q := 86) dX10_layRests_85 rfl ?_
      refine v_aload_n (j := 0) (q := 87) rfl dX10_layRests_86 rfl ?_
      refine v_iload_n (j := 3) (q := 88) rfl dX10_layRests_87 rfl ?_
      refine v_iload_n (j := 2) (q := 89) rfl dX10_layRests_88 rfl ?_
      refine v_iconst (q := 90) dX10_layRests_89 rfl ?_
      refine v_isub (q := 91) dX10_layRests_90 rfl ?_
      rw [show (n : Int) + 1 - 1 = n by omega]
      refine v_cVI2 (q := 94) dX10_layRests_91 mlX10_176 mdX10_throughOne (by decide) kd_116 rfl rfl ⟨Nat.le_refl 0, Nat.le_refl 0⟩ (by exact Nat.le_of_ble_eq_true rfl) rfl (c_X10_throughOne _ y.2.1 s n ⟨e17, hGr⟩ (by omega) (by omega) (by rw [e23]; exact (hL.arc ok).1) (by rw [e24]; exact fun t t0 t1 => (gn t t0 t1).1)) ?_
      rw [e23, e24]
      rintro R _ ⟨rfl, hR⟩
      refine v_iast (q := 95) dX10_layRests_94 kd_124 (by omega) (by omega) rfl ?_
      rw [um_sm9]
      refine v_iinc3 (q := 98) rfl dX10_layRests_95 (by decide) rfl ?_
      refine v_goto (q := 70) dX10_layRests_98 (by decide) ?_
      have ei : (35 : Int) * ((n : Int) + 1) + s = rx ((n + 1 : Nat) : Int) s := by unfold rx; omega
      rw [ei]
      have ne : ∀ (k i : Int), 0 ≤ i → i < 35 → k ≠ ((n + 1 : Nat) : Int) → ui r (rx ((n + 1 : Nat) : Int) s) R (rx k i) = r (rx k i) := fun k i i0 i1 hk => ui_ne _ _ (by unfold rx; omega)
      refine ih (s + 1) _ (by omega) (by omega) (fun k hk i i0 i1 => ?_) (fun i i0 i1 => ?_) (by rw [ne 7 _ (by omega) (by omega) (by omega)]; exact g5) (fun i i0 i1 => ?_)
      · rw [ne k i i0 i1 (by omega)]
        exact g3 k hk i i0 i1
      · rw [ne 7 i i0 i1 (by omega)]
        exact g4 i i0 i1
      · by_cases e : i = s
        · rw [e, ui_same]
          exact ⟨hR.1, fun h10 => thr_PX ok hL (fun t t0 t1 => (gn t (by omega) t1).2 t0) ⟨h10, by omega⟩ hR⟩
        · rw [ui_ne _ _ (by unfold rx; omega)]
          exact g6 i i0 (by omega)
theorem l_X10_rest3 {Post : AV → Mem → Prop} (N : Mem) (y : Sy) (ok : okS y) (hG : N 117 1 = y.2.1) (hL : LOK (N 123) y) (u4 : AV) (K : ∀ r u3, (∀ k : Nat, k ≤ 6 → RSTr y r k) → RST7 y r → r (rx 7 (finN y)) ≤ 0 → V cX10_layRests RX10 5 none (rmk 2 49) (mE Post) 107 [aR 116, aI (finN y), aI 7, u3, u4] [] (sm N 124 r)) :
    ∀ (j n : Nat) (r : Int → Int) (u3 : AV), n + j = 6 → (∀ k : Nat, k ≤ n → RSTr y r k) → RST7 y r → r (rx 7 (finN y)) ≤ 0 → V cX10_layRests RX10 5 none (rmk 2 49) (mE Post) 62 [aR 116, aI (finN y), aI ((n : Int) + 1), u3, u4] [] (sm N 124 r) := by
  intro j
  induction j with
  | zero =>
    intro n r u3 g1 g2 g3 g4
    have hn : n = 6 := by omega
    subst hn
    refine v_iload_n (j := 2) (q := 63) rfl dX10_layRests_62 rfl ?_
    refine v_bipush (q := 65) (by decide) dX10_layRests_63 rfl ?_
    refine v_icmp_ge (tgt := 107) (q := 68) dX10_layRests_65 (by decide) rfl (by omega) (by omega) (fun h65 => ?_) (fun h65 => ?_)
    · exact K r _ g2 g3 g4
    · exact absurd h65 (by omega)
  | succ j ih =>
    intro n r u3 g1 g2 g3 g4
    refine v_iload_n (j := 2) (q := 63) rfl dX10_layRests_62 rfl ?_
    refine v_bipush (q := 65) (by decide) dX10_layRests_63 rfl ?_
    refine v_icmp_ge (tgt := 107) (q := 68) dX10_layRests_65 (by decide) rfl (by omega) (by omega) (fun h65 => ?_) (fun h65 => ?_)
    · exact absurd h65 (by omega)
    · refine v_iconst (q := 69) dX10_layRests_68 rfl ?_
      refine v_ist3 (q := 70) rfl dX10_layRests_69 (by decide) rfl ?_
      refine l_X10_rest2 N y ok hG hL n (by omega) u4 (fun r2 k1 k2 k3 => ?_) 35 0 r (by omega) (by omega) g2 g3 g4 (fun i i0 i1 => by omega)
      refine v_iinc2 (q := 104) rfl dX10_layRests_101 (by decide) rfl ?_
      refine v_goto (q := 62) dX10_layRests_104 (by decide) ?_
      exact ih (n + 1) r2 _ (by omega) k1 k2 k3
/-- nothing changes the rests of any length -/
def fix7 (y : Sy) (v r : Int → Int) (n : Int) : Prop := ∀ s, 0 ≤ s → s < n → ∃ R, thrR v (fun t => r (rx 7 t)) y.2.1 s R ∧ r (rx 7 s) ≤ R
def same6 (r r' : Int → Int) : Prop := ∀ (k : Nat), k ≤ 6 → ∀ s, 0 ≤ s → s < 35 → r' (rx k s) = r (rx k s)
theorem l_X10_rest7 {Post : AV → Mem → Prop} (N : Mem) (y : Sy) (ok : okS y) (hG : N 117 1 = y.2.1) (hL : LOK (N 123) y) (r0 : Int → Int) (K : ∀ r C u3 u4, RST7 y r → (∀ i, r i ≤ r0 i) → same6 r0 r → (C → ∃ s, 0 ≤ s ∧ s < 35 ∧ r (rx 7 s) < r0 (rx 7 s)) → (¬ C → (∀ i, r i = r0 i) ∧ fix7 y (N 123) r0 35) → V cX10_layRests RX10 5 none (rmk 2 49) (mE Post) 192 [aR 116, aI (finN y), aI (bI C), u3, u4] [] (sm N 124 r)) :
    ∀ (j : Nat) (s : Int) (r : Int → Int) (C : Prop) (u4 : AV), s + j = 35 → 0 ≤ s → RST7 y r → (∀ i, r i ≤ r0 i) → same6 r0 r → (C → ∃ s, 0 ≤ s ∧ s < 35 ∧ r (rx 7 s) < r0 (rx 7 s)) → (¬ C → (∀ i, r i = r0 i) ∧ fix7 y (N 123) r0 s) → V cX10_layRests RX10 5 none (rmk 2 49) (mE Post) 117 [aR 116, aI (finN y), aI (bI C), aI s, u4] [] (sm N 124 r) := by
  have hF := FAR_def
  have hGr := ok.2.1
  intro j
  induction j with
  | zero =>
    intro s r C u4 g1 g2 g3 g4 g5 g6 g7
    have hs : s = 35 := by omega
    subst hs
    refine v_iload_n (j := 3) (q := 118) rfl dX10_layRests_117 rfl ?_
    refine v_bipush (q := 120) (by decide) dX10_layRests_118 rfl ?_
    refine v_icmp_ge (tgt := 192) (q := 123) dX10_layRests_120 (by decide) rfl (by omega) (by omega) (fun h120 => ?_) (fun h120 => ?_)
    · exact K r C _ _ g3 g4 g5 g6 g7
    · exact absurd h120 (by omega)
  | succ j ih =>
    intro s r C u4 g1 g2 g3 g4 g5 g6 g7
    have e23 : sm N 124 r 123 = N 123 := sm_ne _ _ (by decide)
    have e24 : sm N 124 r 124 = r := sm_same _ _ _
    have e17 : sm N 124 r 117 1 = y.2.1 := by rw [sm_ne _ _ (by decide)]; exact hG
    have rs := (g3 s g2 (by omega)).1
    have e7 : (245 : Int) + s = rx 7 s := by unfold rx; omega
    obtain ⟨B, hB⟩ : ∃ B, B = r (rx 7 s) := ⟨_, rfl⟩
    rw [← hB] at rs
    refine v_iload_n (j := 3) (q := 118) rfl dX10_layRests_117 rfl ?_
    refine v_bipush (q := 120) (by decide) dX10_layRests_118 rfl ?_
    refine v_icmp_ge (tgt := 192) (q := 123) dX10_layRests_120 (by decide) rfl (by omega) (by omega) (fun h120 => ?_) (fun h120 => ?_)
    · exact absurd h120 (by omega)
    · refine v_aload_n (j := 0) (q := 124) rfl dX10_layRests_123 rfl ?_
      refine v_iload_n (j := 3) (q := 125) rfl dX10_layRests_124 rfl ?_
      refine v_bipush (q := 127) (by decide) dX10_layRests_125 rfl ?_
      refine v_cVI2 (q := 130) dX10_layRests_127 mlX10_176 mdX10_throughOne (by decide) kd_116 rfl rfl ⟨Nat.le_refl 0, Nat.le_refl 0⟩ (by exact Nat.le_of_ble_eq_true rfl) rfl (c_X10_throughOne _ y.2.1 s 7 ⟨e17, hGr⟩ (by omega) (by omega) (by rw [e23]; exact (hL.arc ok).1) (by rw [e24]; exact fun t t0 t1 => (g3 t t0 t1).1)) ?_
      rw [e23, e24]
      rintro R _ ⟨rfl, hR⟩
      have hR1 := hR.1
      refine v_ist4 (q := 132) rfl dX10_layRests_130 (by decide) rfl ?_
      refine v_iload_n (j := 2) (q := 133) rfl dX10_layRests_132 rfl ?_
      refine v_iload (j := 4) (q := 135) rfl dX10_layRests_133 rfl ?_
      refine v_aload_n (j := 0) (q := 136) rfl dX10_layRests_135 rfl ?_
      refine v_iload_n (j := 3) (q := 137) rfl dX10_layRests_136 rfl ?_
      refine v_bipush (q := 139) (by decide) dX10_layRests_137 rfl ?_
      refine v_cVI2 (q := 142) dX10_layRests_139 mlX10_179 mdX10_restOf (by decide) kd_116 rfl rfl ⟨Nat.le_refl 0, Nat.le_refl 0⟩ (by exact Nat.le_of_ble_eq_true rfl) rfl (c_X10_restOf s 7 _ (by omega) (by omega)) ?_
      rw [e24, ← hB]
      rintro _ _ ⟨rfl, rfl⟩
      refine v_icmp_ge (tgt := 149) (q := 145) dX10_layRests_142 (by decide) rfl (by omega) (by omega) (fun h142 => ?_) (fun h142 => ?_)
      · refine v_iconst (q := 150) dX10_layRests_149 rfl ?_
        refine v_ior (q := 151) (by first | exact bIor1 C | exact bIor0 C) dX10_layRests_150 rfl ?_
        refine v_ist2 (q := 152) rfl dX10_layRests_151 (by decide) rfl ?_
        refine v_aload_n (j := 0) (q := 153) rfl dX10_layRests_152 rfl ?_
        refine v_getR (p' := 124) (q := 156) dX10_layRests_153 fl_X10_32 kd_116 rfl (rfc_10_13 kd_116) rfl ?_
        refine v_sipush (q := 159) (by decide) dX10_layRests_156 rfl ?_
        refine v_iload_n (j := 3) (q := 160) rfl dX10_layRests_159 rfl ?_
        refine v_iadd (q := 161) dX10_layRests_160 rfl ?_
        refine v_iload (j := 4) (q := 163) rfl dX10_layRests_161 rfl ?_
        refine v_aload_n (j := 0) (q := 164) rfl dX10_layRests_163 rfl ?_
        refine v_iload_n (j := 3) (q := 165) rfl dX10_layRests_164 rfl ?_
        refine v_bipush (q := 167) (by decide) dX10_layRests_165 rfl ?_
        refine v_cVI2 (q := 170) dX10_layRests_167 mlX10_179 mdX10_restOf (by decide) kd_116 rfl rfl ⟨Nat.le_refl 0, Nat.le_refl 0⟩ (by exact Nat.le_of_ble_eq_true rfl) rfl (c_X10_restOf s 7 _ (by omega) (by omega)) ?_
        rw [e24, ← hB]
        rintro _ _ ⟨rfl, rfl⟩
        refine v_icmp_ge (tgt := 178) (q := 173) dX10_layRests_170 (by decide) rfl (by omega) (by omega) (fun h170 => ?_) (fun h170 => ?_)
        · refine v_aload_n (j := 0) (q := 179) rfl dX10_layRests_178 rfl ?_
          refine v_iload_n (j := 3) (q := 180) rfl dX10_layRests_179 rfl ?_
          refine v_bipush (q := 182) (by decide) dX10_layRests_180 rfl ?_
          refine v_cVI2 (q := 185) dX10_layRests_182 mlX10_179 mdX10_restOf (by decide) kd_116 rfl rfl ⟨Nat.le_refl 0, Nat.le_refl 0⟩ (by exact Nat.le_of_ble_eq_true rfl) rfl (c_X10_restOf s 7 _ (by omega) (by omega)) ?_
          rw [e24, ← hB]
          rintro _ _ ⟨rfl, rfl⟩
          refine v_iast (q := 186) dX10_layRests_185 kd_124 (by omega) (by omega) rfl ?_
          rw [e7, um_sm9]
          refine v_iinc3 (q := 189) rfl dX10_layRests_186 (by decide) rfl ?_
          refine v_goto (q := 117) dX10_layRests_189 (by decide) ?_
          first
            | (have hge : B ≤ R := by omega
               have es : ui r (rx 7 s) B = r := by
                 rw [hB]
                 funext i
                 unfold ui
                 split
                 · rename_i e; rw [e]
                 · rfl
               rw [es]
               refine ih (s + 1) r C _ (by omega) (by omega) g3 g4 g5 g6 (fun hc => ⟨(g7 hc).1, fun i i0 i1 => ?_⟩)
               by_cases e : i = s
               · have ev : r = r0 := funext (g7 hc).1
                 rw [e, ← ev]
                 exact ⟨R, hR, by rw [← hB]; exact hge⟩
               · exact (g7 hc).2 i i0 (by omega))
            | (have hlt : R < B := by omega
               have ne : ∀ (i : Int), i ≠ rx 7 s → ui r (rx 7 s) R i = r i := fun i hi => ui_ne _ _ hi
               refine ih (s + 1) _ True _ (by omega) (by omega) (fun i i0 i1 => ?_) (fun i => Int.le_trans (ui_le (by rw [← hB]; exact hlt) i) (g4 i)) (fun k hk i i0 i1 => ?_) (fun _ => ⟨s, by omega, by omega, by rw [ui_same]; have := g4 (rx 7 s); omega⟩) (fun h => absurd trivial h)
               · by_cases e : i = s
                 · rw [e, ui_same]
                   refine ⟨by omega, fun h10 hl => ?_⟩
                   obtain ⟨x, t, hx, ht, k1, k2, k3⟩ := hR.2.1 hl
                   have ad := (hL.arc ok).2.1 s x t ⟨by omega, by omega, ht⟩ k1
                   have tn := isN_rng ok (ad.1.ok ok).2.1
                   obtain ⟨u, hu⟩ := (g3 t ht.1 ht.2).2 tn.1 k2
                   exact ⟨x :: u, t, _, ad.1, by rw [k3, show N 123 (ax s x t) + r (rx 7 t) - N 123 (ax s x t) = r (rx 7 t) by omega]; exact hu⟩
                 · rw [ne _ (by unfold rx; omega)]
                   exact g3 i i0 i1
               · rw [ne _ (by unfold rx; omega)]
                 exact g5 k hk i i0 i1)
        · exact absurd h170 (by omega)
      · refine v_iconst (q := 146) dX10_layRests_145 rfl ?_
        refine v_goto (q := 150) dX10_layRests_146 (by decide) ?_
        refine v_ior (q := 151) (by first | exact bIor1 C | exact bIor0 C) dX10_layRests_150 rfl ?_
        refine v_ist2 (q := 152) rfl dX10_layRests_151 (by decide) rfl ?_
        refine v_aload_n (j := 0) (q := 153) rfl dX10_layRests_152 rfl ?_
        refine v_getR (p' := 124) (q := 156) dX10_layRests_153 fl_X10_32 kd_116 rfl (rfc_10_13 kd_116) rfl ?_
        refine v_sipush (q := 159) (by decide) dX10_layRests_156 rfl ?_
        refine v_iload_n (j := 3) (q := 160) rfl dX10_layRests_159 rfl ?_
        refine v_iadd (q := 161) dX10_layRests_160 rfl ?_
        refine v_iload (j := 4) (q := 163) rfl dX10_layRests_161 rfl ?_
        refine v_aload_n (j := 0) (q := 164) rfl dX10_layRests_163 rfl ?_
        refine v_iload_n (j := 3) (q := 165) rfl dX10_layRests_164 rfl ?_
        refine v_bipush (q := 167) (by decide) dX10_layRests_165 rfl ?_
        refine v_cVI2 (q := 170) dX10_layRests_167 mlX10_179 mdX10_restOf (by decide) kd_116 rfl rfl ⟨Nat.le_refl 0, Nat.le_refl 0⟩ (by exact Nat.le_of_ble_eq_true rfl) rfl (c_X10_restOf s 7 _ (by omega) (by omega)) ?_
        rw [e24, ← hB]
        rintro _ _ ⟨rfl, rfl⟩
        refine v_icmp_ge (tgt := 178) (q := 173) dX10_layRests_170 (by decide) rfl (by omega) (by omega) (fun h170 => ?_) (fun h170 => ?_)
        · exact absurd h170 (by omega)
        · refine v_iload (j := 4) (q := 175) rfl dX10_layRests_173 rfl ?_
          refine v_goto (q := 185) dX10_layRests_175 (by decide) ?_
          refine v_iast (q := 186) dX10_layRests_185 kd_124 (by omega) (by omega) rfl ?_
          rw [e7, um_sm9]
          refine v_iinc3 (q := 189) rfl dX10_layRests_186 (by decide) rfl ?_
          refine v_goto (q := 117) dX10_layRests_189 (by decide) ?_
          first
            | (have hge : B ≤ R := by omega
               have es : ui r (rx 7 s) B = r := by
                 rw [hB]
                 funext i
                 unfold ui
                 split
                 · rename_i e; rw [e]
                 · rfl
               rw [es]
               refine ih (s + 1) r C _ (by omega) (by omega) g3 g4 g5 g6 (fun hc => ⟨(g7 hc).1, fun i i0 i1 => ?_⟩)
               by_cases e : i = s
               · have ev : r = r0 := funext (g7 hc).1
                 rw [e, ← ev]
                 exact ⟨R, hR, by rw [← hB]; exact hge⟩
               · exact (g7 hc).2 i i0 (by omega))
            | (have hlt : R < B := by omega
               have ne : ∀ (i : Int), i ≠ rx 7 s → ui r (rx 7 s) R i = r i := fun i hi => ui_ne _ _ hi
               refine ih (s + 1) _ True _ (by omega) (by omega) (fun i i0 i1 => ?_) (fun i => Int.le_trans (ui_le (by rw [← hB]; exact hlt) i) (g4 i)) (fun k hk i i0 i1 => ?_) (fun _ => ⟨s, by omega, by omega, by rw [ui_same]; have := g4 (rx 7 s); omega⟩) (fun h => absurd trivial h)
               · by_cases e : i = s
                 · rw [e, ui_same]
                   refine ⟨by omega, fun h10 hl => ?_⟩
                   obtain ⟨x, t, hx, ht, k1, k2, k3⟩ := hR.2.1 hl
                   have ad := (hL.arc ok).2.1 s x t ⟨by omega, by omega, ht⟩ k1
                   have tn := isN_rng ok (ad.1.ok ok).2.1
                   obtain ⟨u, hu⟩ := (g3 t ht.1 ht.2).2 tn.1 k2
                   exact ⟨x :: u, t, _, ad.1, by rw [k3, show N 123 (ax s x t) + r (rx 7 t) - N 123 (ax s x t) = r (rx 7 t) by omega]; exact hu⟩
                 · rw [ne _ (by unfold rx; omega)]
                   exact g3 i i0 i1
               · rw [ne _ (by unfold rx; omega)]
                 exact g5 k hk i i0 i1)
theorem compl7 {v r : Int → Int} {y : Sy} (ok : okS y) (hL : LOK v y) (h7 : RST7 y r) (hf : r (rx 7 (finN y)) ≤ 0) (hfix : fix7 y v r 35) : ∀ {u : List Int} {s W : Int}, (isHn y s ∨ isCh y s) → PTH y u s (finN y) W → W < FAR → r (rx 7 s) ≤ W
  | [], s, W, hs, ⟨a, b⟩, hl => by rw [a]; omega
  | l :: u, s, W, hs, ⟨t, w, ad, pt⟩, hl => by
    have hF := FAR_def
    have hG := ok.2.1
    have k := ad.ok ok
    have sn := isN_rng ok hs
    have tn := isN_rng ok k.2.1
    have wr := k.1
    have ih := compl7 ok hL h7 hf hfix k.2.1 pt (by omega)
    have kl := PTH.len ok k.2.1 pt
    have lb := AD.lab ok hs ad
    have lb2 : l ≤ y.2.1 := by
      rcases k.2.2 with ⟨g, -⟩ | ⟨-, g, -⟩ | ⟨-, -, -, -, g, -⟩
      · have := ok.1; omega
      · exact g.2
      · exact g.2
    have a3 := (hL.arc ok).2.2 s l t w ⟨by omega, by omega, by omega⟩ ad
    obtain ⟨R, hR, hle⟩ := hfix s (by omega) (by omega)
    have := hR.2.2 l t lb.1 lb2 (by omega) (by omega) (by omega) (by show r (rx 7 t) < FAR; omega)
    have this : R ≤ v (ax s l t) + r (rx 7 t) := this
    omega
def mu7 (r : Int → Int) : Nat := muW (fun i => r (rx 7 i)) 35
theorem l_X10_rest7w {Post : AV → Mem → Prop} (N : Mem) (y : Sy) (ok : okS y) (hG : N 117 1 = y.2.1) (hL : LOK (N 123) y) (K : ∀ r, RSTok y r → Post aU (sm N 124 r)) :
    ∀ (n : Nat) (r : Int → Int) (C : Prop) (u3 u4 : AV), mu7 r < n → (∀ k : Nat, k ≤ 6 → RSTr y r k) → RST7 y r → r (rx 7 (finN y)) ≤ 0 → (¬ C → fix7 y (N 123) r 35) → V cX10_layRests RX10 5 none (rmk 2 49) (mE Post) 109 [aR 116, aI (finN y), aI (bI C), u3, u4] [] (sm N 124 r) := by
  have hF := FAR_def
  have fin : ∀ r, (∀ k : Nat, k ≤ 6 → RSTr y r k) → RST7 y r → r (rx 7 (finN y)) ≤ 0 → fix7 y (N 123) r 35 → RSTok y r := fun r k1 k2 k3 k4 => by
    refine ⟨k1, fun s s0 s1 => ⟨(k2 s s0 s1).1, fun h10 => ⟨(k2 s s0 s1).1.2, fun hl => (k2 s s0 s1).2 h10 hl, fun W ⟨u, hp⟩ hl => ?_⟩⟩⟩
    exact compl7 ok hL k2 k3 k4 (PTH.node ok h10 hp) hp hl
  intro n
  induction n with
  | zero => exact fun r C u3 u4 h => absurd h (by omega)
  | succ n ih =>
    intro r C u3 u4 hn k1 k2 k3 k4
    refine v_iload_n (j := 2) (q := 110) rfl dX10_layRests_109 rfl ?_
    refine v_if_eqB (tgt := 195) (q := 113) dX10_layRests_110 (by decide) rfl (fun h110 => ?_) (fun h110 => ?_)
    · refine v_vret dX10_layRests_195 ?_
      exact K r (fin r k1 k2 k3 (k4 h110))
    · refine v_iconst (q := 114) dX10_layRests_113 rfl ?_
      refine v_ist2 (q := 115) rfl dX10_layRests_114 (by decide) rfl ?_
      refine v_iconst (q := 116) dX10_layRests_115 rfl ?_
      refine v_ist3 (q := 117) rfl dX10_layRests_116 (by decide) rfl ?_
      have hk := l_X10_rest7 (Post := Post) N y ok hG hL r (fun r2 C2 u3 u4 g1 g2 g3 g4 g5 => ?_) 35 0 r False u4 (by omega) (by omega) k2 (fun _ => Int.le_refl _) (fun _ _ _ _ _ => rfl) (fun h => h.elim) (fun _ => ⟨fun _ => rfl, fun s s0 s1 => by omega⟩)
      · rw [← bI_0] at hk
        exact hk
      · have rows : ∀ k : Nat, k ≤ 6 → RSTr y r2 k := fun k hk s s0 s1 => by rw [g3 k hk s s0 s1]; exact k1 k hk s s0 s1
        by_cases hc : C2
        · obtain ⟨s, s0, s1, s2⟩ := g4 hc
          have hm : mu7 r2 < mu7 r := muN_lt (N := 35) (fun i => g2 (rx 7 i)) (fun i i0 i1 => (g1 i i0 (by omega)).1.1) s0 (by omega) s2 35 (Nat.le_refl _) (by omega)
          refine v_goto (q := 109) dX10_layRests_192 (by decide) ?_
          exact ih r2 C2 _ _ (by omega) rows g1 (Int.le_trans (g2 _) k3) (fun h => absurd hc h)
        · have ev : r2 = r := funext (g5 hc).1
          subst ev
          refine v_goto (q := 109) dX10_layRests_192 (by decide) ?_
          refine v_iload_n (j := 2) (q := 110) rfl dX10_layRests_109 rfl ?_
          refine v_if_eqB (tgt := 195) (q := 113) dX10_layRests_110 (by decide) rfl (fun h110 => ?_) (fun h110 => ?_)
          · refine v_vret dX10_layRests_195 ?_
            exact K r2 (fin r2 k1 k2 k3 (g5 hc).2)
          · exact absurd h110 hc
theorem c_X10_layRests (mem : Mem) (y : Sy) (hS : SM (mem 117) 0 y) (hL : LOK (mem 123) y) : CtrV mX10_layRests [aR 116] mem (fun m => ∃ r, sm mem 124 r = m ∧ RSTok y r) := by
  have ok := hS.2.2.1
  have f := hS.facts
  have hdl := dgs_len y.2.2.2.1
  have e4 : mem 117 4 = y.2.2.2.1 := f.2.2.2.2.2.2.2.2.2.1.symm
  have e1 : mem 117 1 = y.2.1 := f.2.2.2.2.2.2.2.1.symm
  have hw : R32 y.2.2.2.1 := by rw [← e4]; omega
  refine Ctr.ofV (ls := [aR 116, aU, aU, aU, aU]) rfl (by decide) rfl (Nat.le_of_ble_eq_true rfl) ?_
  refine v_bipush (q := 2) (by decide) dX10_layRests_0 rfl ?_
  refine v_aload_n (j := 0) (q := 3) rfl dX10_layRests_2 rfl ?_
  refine v_getR (p' := 117) (q := 6) dX10_layRests_3 fl_X10_7 kd_116 rfl (rfc_10_0 kd_116) rfl ?_
  refine v_iconst (q := 7) dX10_layRests_6 rfl ?_
  refine v_iald (q := 8) dX10_layRests_7 kd_117 (by omega) (by omega) rfl ?_
  rw [e4]
  refine v_cSI1 (q := 11) dX10_layRests_8 mlX10_48 mdX10_sizeOf (by decide) ⟨Nat.le_refl 0, Nat.le_refl 0⟩ (by exact Nat.le_of_ble_eq_true rfl) rfl (c_X10_sizeOf y.2.2.2.1 _ hw) ?_
  rw [← hdl]
  rintro _ _ ⟨rfl, rfl⟩
  refine v_iadd (q := 12) dX10_layRests_11 rfl ?_
  rw [show (30 : Int) + ((dgs y.2.2.2.1).length : Int) = finN y from rfl]
  refine v_ist1 (q := 13) rfl dX10_layRests_12 (by decide) rfl ?_
  refine v_iconst (q := 14) dX10_layRests_13 rfl ?_
  refine v_ist2 (q := 15) rfl dX10_layRests_14 (by decide) rfl ?_
  have hk := l_X10_rest1 (Post := (fun r m => r = aU ∧ ∃ r, sm mem 124 r = m ∧ RSTok y r)) mem y ok aU aU (fun r k1 k2 k3 => ?_) 35 0 (mem 124) (by omega) (by omega) (fun i i0 i1 => by omega)
  · rw [sm_id mem 124 (fun _ => rfl)] at hk
    exact hk
  · skip
    refine v_iconst (q := 61) dX10_layRests_60 rfl ?_
    refine v_ist2 (q := 62) rfl dX10_layRests_61 (by decide) rfl ?_
    refine l_X10_rest3 (Post := (fun r m => r = aU ∧ ∃ r, sm mem 124 r = m ∧ RSTok y r)) mem y ok e1 hL aU (fun r2 u3 g1 g2 g3 => ?_) 6 0 r aU (by omega) (fun k hk => by rw [show k = 0 by omega]; exact k1) k2 k3
    refine v_iconst (q := 108) dX10_layRests_107 rfl ?_
    refine v_ist2 (q := 109) rfl dX10_layRests_108 (by decide) rfl ?_
    have hk := l_X10_rest7w (Post := (fun r m => r = aU ∧ ∃ r, sm mem 124 r = m ∧ RSTok y r)) mem y ok e1 hL (fun r3 h3 => ⟨rfl, r3, rfl, h3⟩) (mu7 r2 + 1) r2 True u3 aU (by omega) g1 g2 g3 (fun h => absurd trivial h)
    rw [← bI_1] at hk
    exact hk
