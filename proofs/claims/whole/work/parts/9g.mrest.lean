/-! ===== the reference: layRests ===== -/
def PX (y : Sy) (n : Nat) (s W : Int) : Prop := ∃ u, u.length = n ∧ PTH y u s (finN y) W
def PA (y : Sy) (s W : Int) : Prop := ∃ u, PTH y u s (finN y) W
def rx (n s : Int) : Int := 35 * n + s
theorem c_X10_restOf (s n : Int) (mem : Mem) (hs : 0 ≤ s ∧ s < 35) (hn : 0 ≤ n ∧ n < 8) : CtrI mX10_restOf [aR 116, aI s, aI n] mem (fun z m => mem = m ∧ mem 124 (rx n s) = z) := by
  refine Ctr.ofV (ls := [aR 116, aI s, aI n]) rfl (by decide) rfl (Nat.le_of_ble_eq_true rfl) ?_
  refine v_aload_n (j := 0) (q := 1) rfl dX10_restOf_0 rfl ?_
  refine v_getR (p' := 124) (q := 4) dX10_restOf_1 fl_X10_32 kd_116 rfl (rfc_10_13 kd_116) rfl ?_
  refine v_bipush (q := 6) (by decide) dX10_restOf_4 rfl ?_
  refine v_iload_n (j := 2) (q := 7) rfl dX10_restOf_6 rfl ?_
  refine v_imul (q := 8) dX10_restOf_7 rfl ?_
  refine v_iload_n (j := 1) (q := 9) rfl dX10_restOf_8 rfl ?_
  refine v_iadd (q := 10) dX10_restOf_9 rfl ?_
  refine v_iald (q := 11) dX10_restOf_10 kd_124 (by omega) (by omega) rfl ?_
  refine v_iret dX10_restOf_11 ?_
  exact ⟨_, rfl, rfl, rfl⟩
/-- the least over one arc and then a row of rests -/
def thrR (v r : Int → Int) (G s R : Int) : Prop := (0 ≤ R ∧ R ≤ FAR) ∧ (R < FAR → ∃ x t, (1 ≤ x ∧ x ≤ G) ∧ (0 ≤ t ∧ t < 35) ∧ v (ax s x t) < FAR ∧ r t < FAR ∧ R = v (ax s x t) + r t) ∧ ∀ x t, 1 ≤ x → x ≤ G → 0 ≤ t → t < 35 → v (ax s x t) < FAR → r t < FAR → R ≤ v (ax s x t) + r t
def thrW (v r : Int → Int) (G s R : Int) : Prop := ∃ x t, (1 ≤ x ∧ x ≤ G) ∧ (0 ≤ t ∧ t < 35) ∧ v (ax s x t) < FAR ∧ r t < FAR ∧ R = v (ax s x t) + r t
theorem l_X10_thr2 {Post : AV → Mem → Prop} (mem : Mem) (G s n x : Int) (hG : mem 117 1 = G ∧ (1 ≤ G ∧ G ≤ 5)) (hs : 0 ≤ s ∧ s < 35) (hn : 0 ≤ n ∧ n < 8) (hx : 1 ≤ x ∧ x ≤ G) (ha : ATr (mem 123)) (hr : ∀ t, 0 ≤ t → t < 35 → 0 ≤ mem 124 (rx n t) ∧ mem 124 (rx n t) ≤ FAR)
    (K : ∀ R u6 u7, (0 ≤ R ∧ R ≤ FAR) → (R < FAR → thrW (mem 123) (fun t => mem 124 (rx n t)) G s R) → (∀ x' t, 1 ≤ x' → x' ≤ x → 0 ≤ t → t < 35 → mem 123 (ax s x' t) < FAR → mem 124 (rx n t) < FAR → R ≤ mem 123 (ax s x' t) + mem 124 (rx n t)) → V cX10_throughOne RX10 8 (some .int) (rmk 1 22) (mE Post) 90 [aR 116, aI s, aI n, aI R, aI x, aI 35, u6, u7] [] mem) :
    ∀ (j : Nat) (t R : Int) (u6 u7 : AV), t + j = 35 → 0 ≤ t → (0 ≤ R ∧ R ≤ FAR) → (R < FAR → thrW (mem 123) (fun t => mem 124 (rx n t)) G s R) → (∀ x' t', 1 ≤ x' → x' ≤ x → 0 ≤ t' → t' < 35 → (x' < x ∨ t' < t) → mem 123 (ax s x' t') < FAR → mem 124 (rx n t') < FAR → R ≤ mem 123 (ax s x' t') + mem 124 (rx n t')) →
    V cX10_throughOne RX10 8 (some .int) (rmk 1 22) (mE Post) 20 [aR 116, aI s, aI n, aI R, aI x, aI t, u6, u7] [] mem := by
  have hF := FAR_def
  intro j
  induction j with
  | zero =>
    intro t R u6 u7 h1 h2 h3 h4 h5
    have ht : t = 35 := by omega
    subst ht
    refine v_iload (j := 5) (q := 22) rfl dX10_throughOne_20 rfl ?_
    refine v_bipush (q := 24) (by decide) dX10_throughOne_22 rfl ?_
    refine v_icmp_ge (tgt := 90) (q := 27) dX10_throughOne_24 (by decide) rfl (by omega) (by omega) (fun h24 => ?_) (fun h24 => ?_)
    · exact K R _ _ h3 h4 (fun x' t' a b c d => h5 x' t' a b c d (Or.inr d))
    · exact absurd h24 (by omega)
  | succ j ih =>
    intro t R u6 u7 h1 h2 h3 h4 h5
    have x1 : inX s x t := ⟨hs, by omega, by omega⟩
    have r1 := ax_rng x1
    have a1 := ha.at x1
    have a2 := hr t h2 (by omega)
    obtain ⟨A, hA⟩ : ∃ A, A = mem 123 (ax s x t) := ⟨_, rfl⟩
    obtain ⟨B, hB⟩ : ∃ B, B = mem 124 (rx n t) := ⟨_, rfl⟩
    rw [← hA] at a1
    rw [← hB] at a2
    have fin : ∀ R' u6 u7, (0 ≤ R' ∧ R' ≤ FAR) → R' ≤ R → (A < FAR → B < FAR → R' ≤ A + B) → (R' = R ∨ (R' = A + B ∧ A < FAR ∧ B < FAR)) → V cX10_throughOne RX10 8 (some .int) (rmk 1 22) (mE Post) 20 [aR 116, aI s, aI n, aI R', aI x, aI (t + 1), u6, u7] [] mem := fun R' u6 u7 g1 g2 g3 g4 => by
      refine ih (t + 1) R' u6 u7 (by omega) (by omega) g1 (fun hl => ?_) (fun x' t' b1 b2 b3 b4 b5 l1 l2 => ?_)
      · rcases g4 with g4 | ⟨g4, g5, g6⟩
        · rw [g4]; exact h4 (by omega)
        · exact ⟨x, t, hx, ⟨h2, by omega⟩, by omega, by show mem 124 (rx n t) < FAR; omega, by show R' = mem 123 (ax s x t) + mem 124 (rx n t); omega⟩
      · by_cases e : x' = x ∧ t' = t
        · rw [e.1, e.2, ← hA] at l1 ⊢
          rw [e.2, ← hB] at l2
          rw [← hB]
          exact g3 l1 l2
        · have := h5 x' t' b1 b2 b3 b4 (by omega) l1 l2
          omega
    refine v_iload (j := 5) (q := 22) rfl dX10_throughOne_20 rfl ?_
    refine v_bipush (q := 24) (by decide) dX10_throughOne_22 rfl ?_
    refine v_icmp_ge (tgt := 90) (q := 27) dX10_throughOne_24 (by decide) rfl (by omega) (by omega) (fun h24 => ?_) (fun h24 => ?_)
    · exact absurd h24 (by omega)
    · refine v_aload_n (j := 0) (q := 28) rfl dX10_throughOne_27 rfl ?_
      refine v_getR (p' := 123) (q := 31) dX10_throughOne_28 fl_X10_29 kd_116 rfl (rfc_10_12 kd_116) rfl ?_
      refine v_iload_n (j := 1) (q := 32) rfl dX10_throughOne_31 rfl ?_
      refine v_iload (j := 4) (q := 34) rfl dX10_throughOne_32 rfl ?_
      refine v_iload (j := 5) (q := 36) rfl dX10_throughOne_34 rfl ?_
      refine v_cSI3 (q := 39) dX10_throughOne_36 mlX10_160 mdX10_arcAt (by decide) ⟨Nat.le_refl 0, Nat.le_refl 0⟩ (by exact Nat.le_of_ble_eq_true rfl) rfl (c_X10_arcAt s x t mem) ?_
      rintro _ _ ⟨rfl, rfl⟩
      refine v_iald (q := 40) dX10_throughOne_39 kd_123 (by omega) (by omega) rfl ?_
      rw [← hA]
      refine v_ist6 (q := 42) rfl dX10_throughOne_40 (by decide) rfl ?_
      refine v_aload_n (j := 0) (q := 43) rfl dX10_throughOne_42 rfl ?_
      refine v_iload (j := 5) (q := 45) rfl dX10_throughOne_43 rfl ?_
      refine v_iload_n (j := 2) (q := 46) rfl dX10_throughOne_45 rfl ?_
      refine v_cVI2 (q := 49) dX10_throughOne_46 mlX10_179 mdX10_restOf (by decide) kd_116 rfl rfl ⟨Nat.le_refl 0, Nat.le_refl 0⟩ (by exact Nat.le_of_ble_eq_true rfl) rfl (c_X10_restOf t n mem (by omega) hn) ?_
      rw [← hB]
      rintro _ _ ⟨rfl, rfl⟩
      refine v_ist7 (q := 51) rfl dX10_throughOne_49 (by decide) rfl ?_
      refine v_iload (j := 6) (q := 53) rfl dX10_throughOne_51 rfl ?_
      refine v_ldc (n := 2000000000) (q := 55) klX10_163 rfl dX10_throughOne_53 rfl ?_
      refine v_icmp_ge (tgt := 82) (q := 58) dX10_throughOne_55 (by decide) rfl (by omega) (by omega) (fun h55 => ?_) (fun h55 => ?_)
      · refine v_iload_n (j := 3) (q := 83) rfl dX10_throughOne_82 rfl ?_
        refine v_ist3 (q := 84) rfl dX10_throughOne_83 (by decide) rfl ?_
        refine v_iinc5 (q := 87) rfl dX10_throughOne_84 (by decide) rfl ?_
        refine v_goto (q := 20) dX10_throughOne_87 (by decide) ?_
        first
          | exact fin R _ _ h3 (Int.le_refl _) (fun g1 g2 => by omega) (Or.inl rfl)
          | exact fin (A + B) _ _ (by omega) (by omega) (fun g1 g2 => by omega) (Or.inr ⟨rfl, by omega, by omega⟩)
      · refine v_iload (j := 7) (q := 60) rfl dX10_throughOne_58 rfl ?_
        refine v_ldc (n := 2000000000) (q := 62) klX10_163 rfl dX10_throughOne_60 rfl ?_
        refine v_icmp_ge (tgt := 82) (q := 65) dX10_throughOne_62 (by decide) rfl (by omega) (by omega) (fun h62 => ?_) (fun h62 => ?_)
        · refine v_iload_n (j := 3) (q := 83) rfl dX10_throughOne_82 rfl ?_
          refine v_ist3 (q := 84) rfl dX10_throughOne_83 (by decide) rfl ?_
          refine v_iinc5 (q := 87) rfl dX10_throughOne_84 (by decide) rfl ?_
          refine v_goto (q := 20) dX10_throughOne_87 (by decide) ?_
          first
            | exact fin R _ _ h3 (Int.le_refl _) (fun g1 g2 => by omega) (Or.inl rfl)
            | exact fin (A + B) _ _ (by omega) (by omega) (fun g1 g2 => by omega) (Or.inr ⟨rfl, by omega, by omega⟩)
        · refine v_iload (j := 6) (q := 67) rfl dX10_throughOne_65 rfl ?_
          refine v_iload (j := 7) (q := 69) rfl dX10_throughOne_67 rfl ?_
          refine v_iadd (q := 70) dX10_throughOne_69 rfl ?_
          refine v_iload_n (j := 3) (q := 71) rfl dX10_throughOne_70 rfl ?_
          refine v_icmp_ge (tgt := 82) (q := 74) dX10_throughOne_71 (by decide) rfl (by omega) (by omega) (fun h71 => ?_) (fun h71 => ?_)
          · refine v_iload_n (j := 3) (q := 83) rfl dX10_throughOne_82 rfl ?_
            refine v_ist3 (q := 84) rfl dX10_throughOne_83 (by decide) rfl ?_
            refine v_iinc5 (q := 87) rfl dX10_throughOne_84 (by decide) rfl ?_
            refine v_goto (q := 20) dX10_throughOne_87 (by decide) ?_
            first
              | exact fin R _ _ h3 (Int.le_refl _) (fun g1 g2 => by omega) (Or.inl rfl)
              | exact fin (A + B) _ _ (by omega) (by omega) (fun g1 g2 => by omega) (Or.inr ⟨rfl, by omega, by omega⟩)
          · refine v_iload (j := 6) (q := 76) rfl dX10_throughOne_74 rfl ?_
            refine v_iload (j := 7) (q := 78) rfl dX10_throughOne_76 rfl ?_
            refine v_iadd (q := 79) dX10_throughOne_78 rfl ?_
            refine v_goto (q := 83) dX10_throughOne_79 (by decide) ?_
            refine v_ist3 (q := 84) rfl dX10_throughOne_83 (by decide) rfl ?_
            refine v_iinc5 (q := 87) rfl dX10_throughOne_84 (by decide) rfl ?_
            refine v_goto (q := 20) dX10_throughOne_87 (by decide) ?_
            first
              | exact fin R _ _ h3 (Int.le_refl _) (fun g1 g2 => by omega) (Or.inl rfl)
              | exact fin (A + B) _ _ (by omega) (by omega) (fun g1 g2 => by omega) (Or.inr ⟨rfl, by omega, by omega⟩)
theorem l_X10_thr1 (mem : Mem) (G s n : Int) (hG : mem 117 1 = G ∧ (1 ≤ G ∧ G ≤ 5)) (hs : 0 ≤ s ∧ s < 35) (hn : 0 ≤ n ∧ n < 8) (ha : ATr (mem 123)) (hr : ∀ t, 0 ≤ t → t < 35 → 0 ≤ mem 124 (rx n t) ∧ mem 124 (rx n t) ≤ FAR) :
    ∀ (j : Nat) (x R : Int) (u5 u6 u7 : AV), x + j = G + 1 → 1 ≤ x → (0 ≤ R ∧ R ≤ FAR) → (R < FAR → thrW (mem 123) (fun t => mem 124 (rx n t)) G s R) → (∀ x' t, 1 ≤ x' → x' < x → 0 ≤ t → t < 35 → mem 123 (ax s x' t) < FAR → mem 124 (rx n t) < FAR → R ≤ mem 123 (ax s x' t) + mem 124 (rx n t)) →
    V cX10_throughOne RX10 8 (some .int) (rmk 1 22) (mE (fun r m => ∃ z, r = aI z ∧ mem = m ∧ thrR (mem 123) (fun t => mem 124 (rx n t)) G s z)) 6 [aR 116, aI s, aI n, aI R, aI x, u5, u6, u7] [] mem := by
  have hF := FAR_def
  intro j
  induction j with
  | zero =>
    intro x R u5 u6 u7 h1 h2 h3 h4 h5
    have hg := hG.1
    refine v_iload (j := 4) (q := 8) rfl dX10_throughOne_6 rfl ?_
    refine v_aload_n (j := 0) (q := 9) rfl dX10_throughOne_8 rfl ?_
    refine v_getR (p' := 117) (q := 12) dX10_throughOne_9 fl_X10_7 kd_116 rfl (rfc_10_0 kd_116) rfl ?_
    refine v_iconst (q := 13) dX10_throughOne_12 rfl ?_
    refine v_iald (q := 14) dX10_throughOne_13 kd_117 (by omega) (by omega) rfl ?_
    rw [hg]
    refine v_icmp_gt (tgt := 96) (q := 17) dX10_throughOne_14 (by decide) rfl (by omega) (by omega) (fun h14 => ?_) (fun h14 => ?_)
    · refine v_iload_n (j := 3) (q := 97) rfl dX10_throughOne_96 rfl ?_
      refine v_iret dX10_throughOne_97 ?_
      exact ⟨_, rfl, rfl, h3, h4, fun x' t a b c d => h5 x' t a (by omega) c d⟩
    · exact absurd h14 (by omega)
  | succ j ih =>
    intro x R u5 u6 u7 h1 h2 h3 h4 h5
    have hg := hG.1
    refine v_iload (j := 4) (q := 8) rfl dX10_throughOne_6 rfl ?_
    refine v_aload_n (j := 0) (q := 9) rfl dX10_throughOne_8 rfl ?_
    refine v_getR (p' := 117) (q := 12) dX10_throughOne_9 fl_X10_7 kd_116 rfl (rfc_10_0 kd_116) rfl ?_
    refine v_iconst (q := 13) dX10_throughOne_12 rfl ?_
    refine v_iald (q := 14) dX10_throughOne_13 kd_117 (by omega) (by omega) rfl ?_
    rw [hg]
    refine v_icmp_gt (tgt := 96) (q := 17) dX10_throughOne_14 (by decide) rfl (by omega) (by omega) (fun h14 => ?_) (fun h14 => ?_)
    · exact absurd h14 (by omega)
    · refine v_iconst (q := 18) dX10_throughOne_17 rfl ?_
      refine v_ist5 (q := 20) rfl dX10_throughOne_18 (by decide) rfl ?_
      refine l_X10_thr2 mem G s n x hG hs hn (by omega) ha hr (fun R2 u6 u7 g1 g2 g3 => ?_) 35 0 R _ _ (by omega) (by omega) h3 h4 (fun x' t' a b c d e => h5 x' t' a (by omega) c d)
      refine v_iinc4 (q := 93) rfl dX10_throughOne_90 (by decide) rfl ?_
      refine v_goto (q := 6) dX10_throughOne_93 (by decide) ?_
      exact ih (x + 1) R2 _ _ _ (by omega) (by omega) g1 g2 (fun x' t a b c d => g3 x' t a (by omega) c d)
theorem c_X10_throughOne (mem : Mem) (G s n : Int) (hG : mem 117 1 = G ∧ (1 ≤ G ∧ G ≤ 5)) (hs : 0 ≤ s ∧ s < 35) (hn : 0 ≤ n ∧ n < 8) (ha : ATr (mem 123)) (hr : ∀ t, 0 ≤ t → t < 35 → 0 ≤ mem 124 (rx n t) ∧ mem 124 (rx n t) ≤ FAR) : CtrI mX10_throughOne [aR 116, aI s, aI n] mem (fun z m => mem = m ∧ thrR (mem 123) (fun t => mem 124 (rx n t)) G s z) := by
  have hF := FAR_def
  refine Ctr.ofV (ls := [aR 116, aI s, aI n, aU, aU, aU, aU, aU]) rfl (by decide) rfl (Nat.le_of_ble_eq_true rfl) ?_
  refine v_ldc (n := 2000000000) (q := 2) klX10_163 rfl dX10_throughOne_0 rfl ?_
  refine v_ist3 (q := 3) rfl dX10_throughOne_2 (by decide) rfl ?_
  refine v_iconst (q := 4) dX10_throughOne_3 rfl ?_
  refine v_ist4 (q := 6) rfl dX10_throughOne_4 (by decide) rfl ?_
  exact l_X10_thr1 mem G s n hG hs hn ha hr G.toNat 1 2000000000 _ _ _ (by omega) (by omega) (by omega) (fun h => by omega) (fun x' t a b => by omega)
theorem LOK.arc {v : Int → Int} {y : Sy} (ok : okS y) (h : LOK v y) : ATr v ∧ (∀ f l s, inX f l s → v (ax f l s) < FAR → AD y f l s (v (ax f l s)) ∧ v (ax f l s) ≤ 1000000) ∧ ∀ f l s w, inX f l s → AD y f l s w → v (ax f l s) ≤ w ∧ w ≤ 1000000 := by
  have hF := FAR_def
  refine ⟨fun i i0 i1 => ?_, fun f l s hx hl => ?_, fun f l s w hx ha => ?_⟩
  · have e := h (i / 210) (i / 35 % 6) (i % 35) ⟨by omega, by omega, by omega⟩
    rw [show ax (i / 210) (i / 35 % 6) (i % 35) = i by unfold ax; omega] at e
    have r := arw_rng ok (i / 210) (i / 35 % 6) (i % 35)
    by_cases g : arw y (i / 210) (i / 35 % 6) (i % 35) = 1000001
    · rw [if_pos g] at e; exact Or.inl e
    · rw [if_neg g] at e; exact Or.inr (by omega)
  · have e := h f l s hx
    have aw := arw_ok ok f l s
    by_cases g : arw y f l s = 1000001
    · rw [if_pos g] at e; omega
    · rw [if_neg g] at e
      have := aw.1
      rw [e]
      exact ⟨aw.2.1 (by omega), by omega⟩
  · have e := h f l s hx
    have aw := arw_ok ok f l s
    have w1 := (ha.ok ok).1
    have := aw.2.2 w ha (by omega)
    rw [if_neg (by omega)] at e
    omega
/-- one arc more -/
theorem thr_PX {v r : Int → Int} {y : Sy} (ok : okS y) (hL : LOK v y) {n : Nat} (hr : ∀ t, 10 ≤ t → t < 35 → TMn FAR (PX y n t) (r t)) {s R : Int} (hs : 10 ≤ s ∧ s < 35) (h : thrR v r y.2.1 s R) : TMn FAR (PX y (n + 1) s) R := by
  have hF := FAR_def
  obtain ⟨l1, l2, l3⟩ := hL.arc ok
  have hG := ok.2.1
  refine ⟨h.1.2, fun hl => ?_, fun W ⟨u, hu, hp⟩ hl => ?_⟩
  · obtain ⟨x, t, hx, ht, g1, g2, g3⟩ := h.2.1 hl
    have ad := l2 s x t ⟨by omega, by omega, ht⟩ g1
    have tn := isN_rng ok (ad.1.ok ok).2.1
    obtain ⟨u, hu, hp⟩ := (hr t tn.1 ht.2).2.1 g2
    exact ⟨x :: u, by rw [List.length_cons, hu], t, _, ad.1, by rw [g3, show v (ax s x t) + r t - v (ax s x t) = r t by omega]; exact hp⟩
  · cases u with
    | nil => cases hu
    | cons l u =>
      obtain ⟨t, w, ad, pt⟩ := hp
      have hk := (ad.ok ok).2.1
      have tn := isN_rng ok hk
      have k2 := PTH.len ok hk pt
      have lb : 1 ≤ l ∧ l ≤ y.2.1 := by
        rcases (ad.ok ok).2.2 with ⟨g, -⟩ | ⟨-, g, -⟩ | ⟨-, -, -, -, g, -⟩
        · have := ok.1; omega
        · exact g
        · exact g
      have a3 := l3 s l t w ⟨by omega, by omega, by omega⟩ ad
      have a4 := (hr t tn.1 (by omega)).2.2 (W - w) ⟨u, by rw [List.length_cons] at hu; omega, pt⟩ (by have := (ad.ok ok).1; omega)
      have := h.2.2 l t lb.1 lb.2 (by omega) (by omega) (by omega) (by have := (ad.ok ok).1; omega)
      omega
