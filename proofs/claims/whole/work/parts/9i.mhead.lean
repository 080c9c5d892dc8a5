/-! ===== the reference: meet, headOf, headDistance, heads ===== -/
def meetR (g r : Int → Int) (R : Int) : Prop := (0 ≤ R ∧ R ≤ FAR) ∧ (R < FAR → ∃ s, (0 ≤ s ∧ s < 35) ∧ g s < FAR ∧ r s < FAR ∧ R = g s + r s) ∧ ∀ s, 0 ≤ s → s < 35 → g s < FAR → r s < FAR → R ≤ g s + r s
def meetW (g r : Int → Int) (R : Int) : Prop := ∃ s, (0 ≤ s ∧ s < 35) ∧ g s < FAR ∧ r s < FAR ∧ R = g s + r s
theorem l_X10_meet (b : Nat) (hb : kd b = (0, 35)) (n : Int) (mem : Mem) (hn : 0 ≤ n ∧ n < 8) (hg : ∀ t, 0 ≤ t → t < 35 → mem b t = FAR ∨ (0 ≤ mem b t ∧ mem b t ≤ 8000000)) (hr : ∀ t, 0 ≤ t → t < 35 → 0 ≤ mem 124 (rx n t) ∧ mem 124 (rx n t) ≤ FAR) :
    ∀ (j : Nat) (t R : Int) (u5 : AV), t + j = 35 → 0 ≤ t → (0 ≤ R ∧ R ≤ FAR) → (R < FAR → meetW (mem b) (fun t => mem 124 (rx n t)) R) → (∀ s, 0 ≤ s → s < t → mem b s < FAR → mem 124 (rx n s) < FAR → R ≤ mem b s + mem 124 (rx n s)) →
    V cX10_meet RX10 6 (some .int) (rmk 1 22) (mE (fun r m => ∃ z, r = aI z ∧ mem = m ∧ meetR (mem b) (fun t => mem 124 (rx n t)) z)) 6 [aR 116, aR b, aI n, aI R, aI t, u5] [] mem := by
  have hF := FAR_def
  intro j
  induction j with
  | zero =>
    intro t R u5 h1 h2 h3 h4 h5
    refine v_iload (j := 4) (q := 8) rfl dX10_meet_6 rfl ?_
    refine v_bipush (q := 10) (by decide) dX10_meet_8 rfl ?_
    refine v_icmp_ge (tgt := 67) (q := 13) dX10_meet_10 (by decide) rfl (by omega) (by omega) (fun h10 => ?_) (fun h10 => ?_)
    · refine v_iload_n (j := 3) (q := 68) rfl dX10_meet_67 rfl ?_
      refine v_iret dX10_meet_68 ?_
      exact ⟨_, rfl, rfl, h3, h4, fun s s0 s1 => h5 s s0 (by omega)⟩
    · exact absurd h10 (by omega)
  | succ j ih =>
    intro t R u5 h1 h2 h3 h4 h5
    have a1 := hg t h2 (by omega)
    have a2 := hr t h2 (by omega)
    obtain ⟨A, hA⟩ : ∃ A, A = mem b t := ⟨_, rfl⟩
    obtain ⟨B, hB⟩ : ∃ B, B = mem 124 (rx n t) := ⟨_, rfl⟩
    rw [← hA] at a1
    rw [← hB] at a2
    have fin : ∀ R' u5, (0 ≤ R' ∧ R' ≤ FAR) → R' ≤ R → (A < FAR → B < FAR → R' ≤ A + B) → (R' = R ∨ (R' = A + B ∧ A < FAR ∧ B < FAR)) → V cX10_meet RX10 6 (some .int) (rmk 1 22) (mE (fun r m => ∃ z, r = aI z ∧ mem = m ∧ meetR (mem b) (fun t => mem 124 (rx n t)) z)) 6 [aR 116, aR b, aI n, aI R', aI (t + 1), u5] [] mem := fun R' u5 g1 g2 g3 g4 => by
      refine ih (t + 1) R' u5 (by omega) (by omega) g1 (fun hl => ?_) (fun s s0 s1 l1 l2 => ?_)
      · rcases g4 with g4 | ⟨g4, g5, g6⟩
        · rw [g4]; exact h4 (by omega)
        · exact ⟨t, ⟨h2, by omega⟩, by omega, by show mem 124 (rx n t) < FAR; omega, by show R' = mem b t + mem 124 (rx n t); omega⟩
      · by_cases e : s = t
        · rw [e, ← hA] at l1 ⊢
          rw [e, ← hB] at l2
          rw [← hB]
          exact g3 l1 l2
        · have := h5 s s0 (by omega) l1 l2
          omega
    refine v_iload (j := 4) (q := 8) rfl dX10_meet_6 rfl ?_
    refine v_bipush (q := 10) (by decide) dX10_meet_8 rfl ?_
    refine v_icmp_ge (tgt := 67) (q := 13) dX10_meet_10 (by decide) rfl (by omega) (by omega) (fun h10 => ?_) (fun h10 => ?_)
    · exact absurd h10 (by omega)
    · refine v_aload_n (j := 0) (q := 14) rfl dX10_meet_13 rfl ?_
      refine v_iload (j := 4) (q := 16) rfl dX10_meet_14 rfl ?_
      refine v_iload_n (j := 2) (q := 17) rfl dX10_meet_16 rfl ?_
      refine v_cVI2 (q := 20) dX10_meet_17 mlX10_179 mdX10_restOf (by decide) kd_116 rfl rfl ⟨Nat.le_refl 0, Nat.le_refl 0⟩ (by exact Nat.le_of_ble_eq_true rfl) rfl (c_X10_restOf t n mem (by omega) hn) ?_
      rw [← hB]
      rintro _ _ ⟨rfl, rfl⟩
      refine v_ist5 (q := 22) rfl dX10_meet_20 (by decide) rfl ?_
      refine v_aload_n (j := 1) (q := 23) rfl dX10_meet_22 rfl ?_
      refine v_iload (j := 4) (q := 25) rfl dX10_meet_23 rfl ?_
      refine v_iald (q := 26) dX10_meet_25 hb (by omega) (by omega) rfl ?_
      rw [← hA]
      refine v_ldc (n := 2000000000) (q := 28) klX10_163 rfl dX10_meet_26 rfl ?_
      refine v_icmp_ge (tgt := 59) (q := 31) dX10_meet_28 (by decide) rfl (by omega) (by omega) (fun h28 => ?_) (fun h28 => ?_)
      · refine v_iload_n (j := 3) (q := 60) rfl dX10_meet_59 rfl ?_
        refine v_ist3 (q := 61) rfl dX10_meet_60 (by decide) rfl ?_
        refine v_iinc4 (q := 64) rfl dX10_meet_61 (by decide) rfl ?_
        refine v_goto (q := 6) dX10_meet_64 (by decide) ?_
        first
          | exact fin R _ h3 (Int.le_refl _) (fun g1 g2 => by omega) (Or.inl rfl)
          | exact fin (A + B) _ (by omega) (by omega) (fun g1 g2 => by omega) (Or.inr ⟨rfl, by omega, by omega⟩)
      · refine v_iload (j := 5) (q := 33) rfl dX10_meet_31 rfl ?_
        refine v_ldc (n := 2000000000) (q := 35) klX10_163 rfl dX10_meet_33 rfl ?_
        refine v_icmp_ge (tgt := 59) (q := 38) dX10_meet_35 (by decide) rfl (by omega) (by omega) (fun h35 => ?_) (fun h35 => ?_)
        · refine v_iload_n (j := 3) (q := 60) rfl dX10_meet_59 rfl ?_
          refine v_ist3 (q := 61) rfl dX10_meet_60 (by decide) rfl ?_
          refine v_iinc4 (q := 64) rfl dX10_meet_61 (by decide) rfl ?_
          refine v_goto (q := 6) dX10_meet_64 (by decide) ?_
          first
            | exact fin R _ h3 (Int.le_refl _) (fun g1 g2 => by omega) (Or.inl rfl)
            | exact fin (A + B) _ (by omega) (by omega) (fun g1 g2 => by omega) (Or.inr ⟨rfl, by omega, by omega⟩)
        · refine v_aload_n (j := 1) (q := 39) rfl dX10_meet_38 rfl ?_
          refine v_iload (j := 4) (q := 41) rfl dX10_meet_39 rfl ?_
          refine v_iald (q := 42) dX10_meet_41 hb (by omega) (by omega) rfl ?_
          rw [← hA]
          refine v_iload (j := 5) (q := 44) rfl dX10_meet_42 rfl ?_
          refine v_iadd (q := 45) dX10_meet_44 rfl ?_
          refine v_iload_n (j := 3) (q := 46) rfl dX10_meet_45 rfl ?_
          refine v_icmp_ge (tgt := 59) (q := 49) dX10_meet_46 (by decide) rfl (by omega) (by omega) (fun h46 => ?_) (fun h46 => ?_)
          · refine v_iload_n (j := 3) (q := 60) rfl dX10_meet_59 rfl ?_
            refine v_ist3 (q := 61) rfl dX10_meet_60 (by decide) rfl ?_
            refine v_iinc4 (q := 64) rfl dX10_meet_61 (by decide) rfl ?_
            refine v_goto (q := 6) dX10_meet_64 (by decide) ?_
            first
              | exact fin R _ h3 (Int.le_refl _) (fun g1 g2 => by omega) (Or.inl rfl)
              | exact fin (A + B) _ (by omega) (by omega) (fun g1 g2 => by omega) (Or.inr ⟨rfl, by omega, by omega⟩)
          · refine v_aload_n (j := 1) (q := 50) rfl dX10_meet_49 rfl ?_
            refine v_iload (j := 4) (q := 52) rfl dX10_meet_50 rfl ?_
            refine v_iald (q := 53) dX10_meet_52 hb (by omega) (by omega) rfl ?_
            rw [← hA]
            refine v_iload (j := 5) (q := 55) rfl dX10_meet_53 rfl ?_
            refine v_iadd (q := 56) dX10_meet_55 rfl ?_
            refine v_goto (q := 60) dX10_meet_56 (by decide) ?_
            refine v_ist3 (q := 61) rfl dX10_meet_60 (by decide) rfl ?_
            refine v_iinc4 (q := 64) rfl dX10_meet_61 (by decide) rfl ?_
            refine v_goto (q := 6) dX10_meet_64 (by decide) ?_
            first
              | exact fin R _ h3 (Int.le_refl _) (fun g1 g2 => by omega) (Or.inl rfl)
              | exact fin (A + B) _ (by omega) (by omega) (fun g1 g2 => by omega) (Or.inr ⟨rfl, by omega, by omega⟩)
theorem c_X10_meet (b : Nat) (hb : kd b = (0, 35)) (n : Int) (mem : Mem) (hn : 0 ≤ n ∧ n < 8) (hg : ∀ t, 0 ≤ t → t < 35 → mem b t = FAR ∨ (0 ≤ mem b t ∧ mem b t ≤ 8000000)) (hr : ∀ t, 0 ≤ t → t < 35 → 0 ≤ mem 124 (rx n t) ∧ mem 124 (rx n t) ≤ FAR) : CtrI mX10_meet [aR 116, aR b, aI n] mem (fun z m => mem = m ∧ meetR (mem b) (fun t => mem 124 (rx n t)) z) := by
  have hF := FAR_def
  refine Ctr.ofV (ls := [aR 116, aR b, aI n, aU, aU, aU]) rfl (by decide) rfl (Nat.le_of_ble_eq_true rfl) ?_
  refine v_ldc (n := 2000000000) (q := 2) klX10_163 rfl dX10_meet_0 rfl ?_
  refine v_ist3 (q := 3) rfl dX10_meet_2 (by decide) rfl ?_
  refine v_iconst (q := 4) dX10_meet_3 rfl ?_
  refine v_ist4 (q := 6) rfl dX10_meet_4 (by decide) rfl ?_
  exact l_X10_meet b hb n mem hn hg hr 35 0 2000000000 _ (by omega) (by omega) (by omega) (fun h => by omega) (fun s s0 s1 => by omega)
/-- what is read up to a node, over the labels pre -/
def FPx (y : Sy) (p x : Int) (pre : List Int) (s w : Int) : Prop := ∃ s0 d W1, RDa (AD y) p x s0 d ∧ d ≤ 1000000 ∧ PTH y pre s0 s W1 ∧ w = d + W1
theorem PTH.wgt {y : Sy} (ok : okS y) : ∀ {u : List Int} {s t W : Int}, PTH y u s t W → 0 ≤ W ∧ W ≤ 1000000 * (u.length : Int)
  | [], _, _, _, ⟨_, b⟩ => by rw [b]; exact ⟨by omega, by rw [List.length_nil]; omega⟩
  | l :: u, _, _, _, ⟨t, w, a, b⟩ => by
    have ih := PTH.wgt ok b
    have k := (a.ok ok).1
    rw [List.length_cons]
    omega
theorem FPx.rng {y : Sy} (ok : okS y) {p x : Int} {pre : List Int} {s w : Int} (h : FPx y p x pre s w) : 0 ≤ w ∧ w ≤ 1000000 * ((pre.length : Int) + 1) ∧ (isHn y s ∨ isCh y s) := by
  obtain ⟨s0, d, W1, a, b, c, e⟩ := h
  have n := a.nn ok
  have k := PTH.wgt ok c
  exact ⟨by omega, by omega, (PTH.mid ok n.2 c).1⟩
def FRok (y : Sy) (p x : Int) (pre : List Int) (g : Int → Int) : Prop := ∀ s, 0 ≤ s → s < 35 → TMn FAR (FPx y p x pre s) (g s)
theorem FRok.rng {y : Sy} (ok : okS y) {p x : Int} {pre : List Int} {g : Int → Int} (h : FRok y p x pre g) (hl : pre.length ≤ 7) : ∀ t, 0 ≤ t → t < 35 → g t = FAR ∨ (0 ≤ g t ∧ g t ≤ 8000000) := fun t t0 t1 => by
  have := h t t0 t1
  rcases Int.lt_or_le (g t) FAR with g1 | g1
  · have k := (this.2.1 g1).rng ok
    exact Or.inr (by omega)
  · exact Or.inl (by have := this.1; omega)
theorem RDv_rdw {y : Sy} (ok : okS y) {v : Int → Int} (hL : LOK v y) {p x s R : Int} (hp : 0 ≤ p ∧ p < 35) (hx : 1 ≤ x ∧ x < 6) (hs : 0 ≤ s ∧ s < 35) (h : RDv v p x s R) : TMn FAR (FPx y p x [] s) R := by
  have hF := FAR_def
  obtain ⟨l1, l2, l3⟩ := hL.arc ok
  have sn : ASnd y v := ⟨l1, fun f l s hx hl => (l2 f l s hx hl).1⟩
  refine ⟨by have := h.1; omega, fun hl => ?_, fun w ⟨s0, d, W1, a, b, c, e⟩ hl => ?_⟩
  · obtain ⟨r1, r2⟩ := h.snd sn hp hx hs hl
    exact ⟨s, R, 0, r1, r2, ⟨rfl, rfl⟩, by omega⟩
  · obtain ⟨c1, c2⟩ := c
    subst c1
    rcases a with a | ⟨t, d1, d2, a1, a2, a3⟩
    · have := (l3 p x s0 d ⟨hp, by omega, hs⟩ a).1
      have := h.2.2.1
      omega
    · have t1 := isN_rng ok (a1.ok ok).2.1
      have b1 := l3 p 0 t d1 ⟨hp, by omega, by omega⟩ a1
      have b2 := l3 t x s0 d2 ⟨by omega, by omega, hs⟩ a2
      have := h.2.2.2 t (by omega) (by omega) (by omega) (by omega) (by omega)
      omega
theorem l_X10_layFront (mem : Mem) (y : Sy) (ok : okS y) (hL : LOK (mem 123) y) (p x : Int) (hp : 0 ≤ p ∧ p < 35) (hx : 1 ≤ x ∧ x < 6) :
    ∀ (j : Nat) (s : Int) (g : Int → Int), s + j = 35 → 0 ≤ s → (∀ i, 0 ≤ i → i < s → TMn FAR (FPx y p x [] i) (g i)) → V cX10_layFront RX10 4 none (rmk 2 49) (mE (fun r m => r = aU ∧ ∃ g, sm mem 125 g = m ∧ FRok y p x [] g)) 2 [aR 116, aI p, aI x, aI s] [] (sm mem 125 g) := by
  intro j
  induction j with
  | zero =>
    intro s g h1 h2 h3
    have hs : s = 35 := by omega
    subst hs
    refine v_iload_n (j := 3) (q := 3) rfl dX10_layFront_2 rfl ?_
    refine v_bipush (q := 5) (by decide) dX10_layFront_3 rfl ?_
    refine v_icmp_ge (tgt := 27) (q := 8) dX10_layFront_5 (by decide) rfl (by omega) (by omega) (fun h5 => ?_) (fun h5 => ?_)
    · refine v_vret dX10_layFront_27 ?_
      exact ⟨rfl, g, rfl, h3⟩
    · exact absurd h5 (by omega)
  | succ j ih =>
    intro s g h1 h2 h3
    have e23 : sm mem 125 g 123 = mem 123 := sm_ne _ _ (by decide)
    refine v_iload_n (j := 3) (q := 3) rfl dX10_layFront_2 rfl ?_
    refine v_bipush (q := 5) (by decide) dX10_layFront_3 rfl ?_
    refine v_icmp_ge (tgt := 27) (q := 8) dX10_layFront_5 (by decide) rfl (by omega) (by omega) (fun h5 => ?_) (fun h5 => ?_)
    · exact absurd h5 (by omega)
    · refine v_aload_n (j := 0) (q := 9) rfl dX10_layFront_8 rfl ?_
      refine v_getR (p' := 125) (q := 12) dX10_layFront_9 fl_X10_35 kd_116 rfl (rfc_10_14 kd_116) rfl ?_
      refine v_iload_n (j := 3) (q := 13) rfl dX10_layFront_12 rfl ?_
      refine v_aload_n (j := 0) (q := 14) rfl dX10_layFront_13 rfl ?_
      refine v_iload_n (j := 1) (q := 15) rfl dX10_layFront_14 rfl ?_
      refine v_iload_n (j := 2) (q := 16) rfl dX10_layFront_15 rfl ?_
      refine v_iload_n (j := 3) (q := 17) rfl dX10_layFront_16 rfl ?_
      refine v_cVI3 (q := 20) dX10_layFront_17 mlX10_164 mdX10_reads (by decide) kd_116 rfl rfl ⟨Nat.le_refl 0, Nat.le_refl 0⟩ (by exact Nat.le_of_ble_eq_true rfl) rfl (c_X10_reads p x s _ hp hx (by omega) (by rw [e23]; exact (hL.arc ok).1)) ?_
      rw [e23]
      rintro R _ ⟨rfl, hR⟩
      refine v_iast (q := 21) dX10_layFront_20 kd_125 (by omega) (by omega) rfl ?_
      rw [um_sm9]
      refine v_iinc3 (q := 24) rfl dX10_layFront_21 (by decide) rfl ?_
      refine v_goto (q := 2) dX10_layFront_24 (by decide) ?_
      refine ih (s + 1) _ (by omega) (by omega) (fun i i0 i1 => ?_)
      by_cases e : i = s
      · rw [e, ui_same]
        exact RDv_rdw ok hL hp hx (by omega) hR
      · rw [ui_ne _ _ e]
        exact h3 i i0 (by omega)
theorem c_X10_layFront (mem : Mem) (y : Sy) (ok : okS y) (hL : LOK (mem 123) y) (p x : Int) (hp : 0 ≤ p ∧ p < 35) (hx : 1 ≤ x ∧ x < 6) : CtrV mX10_layFront [aR 116, aI p, aI x] mem (fun m => ∃ g, sm mem 125 g = m ∧ FRok y p x [] g) := by
  refine Ctr.ofV (ls := [aR 116, aI p, aI x, aU]) rfl (by decide) rfl (Nat.le_of_ble_eq_true rfl) ?_
  refine v_iconst (q := 1) dX10_layFront_0 rfl ?_
  refine v_ist3 (q := 2) rfl dX10_layFront_1 (by decide) rfl ?_
  have hk := l_X10_layFront mem y ok hL p x hp hx 35 0 (mem 125) (by omega) (by omega) (fun i i0 i1 => by omega)
  rw [sm_id mem 125 (fun _ => rfl)] at hk
  exact hk
/-- what a row and the rests of any length meet in -/
theorem meet_hdw {y : Sy} (ok : okS y) {p x : Int} {g r : Int → Int} (hg : FRok y p x [] g) (hr : ∀ s, 0 ≤ s → s < 35 → (0 ≤ r s ∧ r s ≤ FAR) ∧ (10 ≤ s → TMn FAR (PA y s) (r s))) {R : Int} (h : meetR g r R) : (if 1000000 < R then -6 else R) = (if hdw y p x = 1000001 then -6 else hdw y p x) := by
  have hF := FAR_def
  have hh := hdw_ok ok p x
  have hb := hdw_rng ok p x
  have up : R ≤ 1000000 → hdw y p x ≤ R := fun hl => by
    obtain ⟨s, hs, g1, g2, g3⟩ := h.2.1 (by omega)
    have fp := (hg s hs.1 hs.2).2.1 g1
    have fr := fp.rng ok
    have sn := isN_rng ok fr.2.2
    obtain ⟨u, hu⟩ := ((hr s hs.1 hs.2).2 sn.1).2.1 g2
    obtain ⟨s0, d, W1, a, b, ⟨c1, c2⟩, e⟩ := fp
    subst c1
    exact hh.2.2 R ⟨u, s0, d, _, a, hu, by omega⟩ (by omega)
  have lo : hdw y p x < 1000001 → R ≤ hdw y p x := fun hl => by
    obtain ⟨u, s, d, W, a, b, e⟩ := hh.2.1 hl
    have n := a.nn ok
    have sn := isN_rng ok n.2
    have k := PTH.len ok n.2 b
    have a1 := (hg s (by omega) (by omega)).2.2 d ⟨s, d, 0, a, by omega, ⟨rfl, rfl⟩, by omega⟩ (by omega)
    have a2 := ((hr s (by omega) (by omega)).2 sn.1).2.2 W ⟨u, b⟩ (by omega)
    have := h.2.2 s (by omega) (by omega) (by omega) (by omega)
    omega
  by_cases g1 : 1000000 < R
  · rw [if_pos g1, if_pos]
    rcases Int.lt_or_le (hdw y p x) 1000001 with hl | hl
    · have := lo hl; omega
    · omega
  · have u1 := up (by omega)
    have l1 := lo (by omega)
    rw [if_neg g1, if_neg (by omega)]
    omega
theorem c_X10_headOf (mem : Mem) (y : Sy) (ok : okS y) (hL : LOK (mem 123) y) (hR : RSTok y (mem 124)) (p x : Int) (hv : hval y p x) : CtrI mX10_headOf [aR 116, aI p, aI x] mem (fun z m => ∃ g, sm mem 125 g = m ∧ FRok y p x [] g ∧ (if hdw y p x = 1000001 then -6 else hdw y p x) = z) := by
  have hF := FAR_def
  have hS := ok.1
  have hG := ok.2.1
  have hp := hv.1
  have hx := hv.2
  refine Ctr.ofV (ls := [aR 116, aI p, aI x, aU]) rfl (by decide) rfl (Nat.le_of_ble_eq_true rfl) ?_
  refine v_aload_n (j := 0) (q := 1) rfl dX10_headOf_0 rfl ?_
  refine v_iload_n (j := 1) (q := 2) rfl dX10_headOf_1 rfl ?_
  refine v_iload_n (j := 2) (q := 3) rfl dX10_headOf_2 rfl ?_
  refine v_cVV2 (q := 6) dX10_headOf_3 mlX10_182 mdX10_layFront (by decide) kd_116 rfl rfl ⟨Nat.le_refl 0, Nat.le_refl 0⟩ (by exact Nat.le_of_ble_eq_true rfl) rfl (c_X10_layFront mem y ok hL p x (by omega) (by omega)) ?_
  rintro m1 ⟨g, rfl, hg⟩
  have e24 : sm mem 125 g 124 = mem 124 := sm_ne _ _ (by decide)
  have e25 : sm mem 125 g 125 = g := sm_same _ _ _
  refine v_aload_n (j := 0) (q := 7) rfl dX10_headOf_6 rfl ?_
  refine v_aload_n (j := 0) (q := 8) rfl dX10_headOf_7 rfl ?_
  refine v_getR (p' := 125) (q := 11) dX10_headOf_8 fl_X10_35 kd_116 rfl (rfc_10_14 kd_116) rfl ?_
  refine v_bipush (q := 13) (by decide) dX10_headOf_11 rfl ?_
  refine v_cVI2 (q := 16) dX10_headOf_13 mlX10_186 mdX10_meet (by decide) kd_116 rfl rfl ⟨Nat.le_refl 0, Nat.le_refl 0⟩ (by exact Nat.le_of_ble_eq_true rfl) rfl (c_X10_meet 125 kd_125 7 _ (by omega) (by rw [e25]; exact hg.rng ok (by decide)) (by rw [e24]; exact fun t t0 t1 => (hR.2 t t0 t1).1)) ?_
  rw [e24, e25]
  rintro R _ ⟨rfl, hm⟩
  have hm1 := hm.1
  have hh := meet_hdw ok hg (fun s s0 s1 => hR.2 s s0 s1) hm
  refine v_ist3 (q := 17) rfl dX10_headOf_16 (by decide) rfl ?_
  refine v_iload_n (j := 3) (q := 18) rfl dX10_headOf_17 rfl ?_
  refine v_ldc (n := 1000000) (q := 20) klX10_159 rfl dX10_headOf_18 rfl ?_
  refine v_icmp_le (tgt := 28) (q := 23) dX10_headOf_20 (by decide) rfl (by omega) (by omega) (fun h20 => ?_) (fun h20 => ?_)
  · refine v_iload_n (j := 3) (q := 29) rfl dX10_headOf_28 rfl ?_
    refine v_iret dX10_headOf_29 ?_
    refine ⟨_, rfl, g, rfl, hg, ?_⟩
    rw [← hh]
    first
      | (rw [if_pos (by omega)]; done)
      | (rw [if_neg (by omega)]; done)
  · refine v_bipush (q := 25) (by decide) dX10_headOf_23 rfl ?_
    refine v_goto (q := 29) dX10_headOf_25 (by decide) ?_
    refine v_iret dX10_headOf_29 ?_
    refine ⟨_, rfl, g, rfl, hg, ?_⟩
    rw [← hh]
    first
      | (rw [if_pos (by omega)]; done)
      | (rw [if_neg (by omega)]; done)
theorem c_X10_isHead (p x : Int) (mem : Mem) (y : Sy) (hS : SM (mem 117) 0 y) (hp : R32 p) (hx : R32 x) : CtrI mX10_isHead [aR 116, aI p, aI x] mem (fun z m => mem = m ∧ bI (hval y p x) = z) := by
  have f := hS.facts
  have e1 := f.2.2.2.2.2.2.1
  have e2 := f.2.2.2.2.2.2.2.1
  refine Ctr.ofV (ls := [aR 116, aI p, aI x]) rfl (by decide) rfl (Nat.le_of_ble_eq_true rfl) ?_
  refine v_aload_n (j := 0) (q := 1) rfl dX10_isHead_0 rfl ?_
  refine v_iload_n (j := 1) (q := 2) rfl dX10_isHead_1 rfl ?_
  refine v_cVI1 (q := 5) dX10_isHead_2 mlX10_71 mdX10_isState (by decide) kd_116 rfl rfl ⟨Nat.le_refl 0, Nat.le_refl 0⟩ (by exact Nat.le_of_ble_eq_true rfl) rfl (c_X10_isState p mem hp (by omega)) ?_
  rw [← e1]
  rintro _ _ ⟨rfl, rfl⟩
  refine v_if_eqB (tgt := 20) (q := 8) dX10_isHead_5 (by decide) rfl (fun h5 => ?_) (fun h5 => ?_)
  · refine v_iconst (q := 21) dX10_isHead_20 rfl ?_
    refine v_zret (by first | exact Or.inl rfl | exact Or.inr rfl | exact bI_01 _ | omega) dX10_isHead_21 ?_
    refine ⟨_, rfl, rfl, ?_⟩
    first
      | exact bI_t ⟨h5, h13⟩
      | exact bI_f (fun h => h5 h.1)
      | exact bI_f (fun h => h13 h.2)
  · refine v_aload_n (j := 0) (q := 9) rfl dX10_isHead_8 rfl ?_
    refine v_iload_n (j := 2) (q := 10) rfl dX10_isHead_9 rfl ?_
    refine v_cVI1 (q := 13) dX10_isHead_10 mlX10_52 mdX10_isSymbol (by decide) kd_116 rfl rfl ⟨Nat.le_refl 0, Nat.le_refl 0⟩ (by exact Nat.le_of_ble_eq_true rfl) rfl (c_X10_isSymbol x mem hx (by omega)) ?_
    rw [← e2]
    rintro _ _ ⟨rfl, rfl⟩
    refine v_if_eqB (tgt := 20) (q := 16) dX10_isHead_13 (by decide) rfl (fun h13 => ?_) (fun h13 => ?_)
    · refine v_iconst (q := 21) dX10_isHead_20 rfl ?_
      refine v_zret (by first | exact Or.inl rfl | exact Or.inr rfl | exact bI_01 _ | omega) dX10_isHead_21 ?_
      refine ⟨_, rfl, rfl, ?_⟩
      first
        | exact bI_t ⟨h5, h13⟩
        | exact bI_f (fun h => h5 h.1)
        | exact bI_f (fun h => h13 h.2)
    · refine v_iconst (q := 17) dX10_isHead_16 rfl ?_
      refine v_goto (q := 21) dX10_isHead_17 (by decide) ?_
      refine v_zret (by first | exact Or.inl rfl | exact Or.inr rfl | exact bI_01 _ | omega) dX10_isHead_21 ?_
      refine ⟨_, rfl, rfl, ?_⟩
      first
        | exact bI_t ⟨h5, h13⟩
        | exact bI_f (fun h => h5 h.1)
        | exact bI_f (fun h => h13 h.2)
/-- the machine and the rests are laid -/
def LR (y : Sy) (mem m : Mem) : Prop := (∀ p, p < 116 ∨ (116 < p ∧ p < 123) ∨ 126 < p → m p = mem p) ∧ (∀ j, j ≠ 3 → m 116 j = mem 116 j) ∧ m 116 3 = 1 ∧ LOK (m 123) y ∧ RSTok y (m 124)
theorem LR.of {y : Sy} {mem m : Mem} {r : Int → Int} (h : layQ y mem m) (hr : RSTok y r) : LR y mem (sm m 124 r) := by
  obtain ⟨a, b, c, d⟩ := h
  refine ⟨fun p hp => by rw [sm_ne _ _ (by omega)]; exact a p (by omega) (by omega), fun j hj => by rw [sm_ne _ _ (by decide)]; exact b j hj, by rw [sm_ne _ _ (by decide)]; exact c, by rw [sm_ne _ _ (by decide)]; exact d, by rw [sm_same]; exact hr⟩
theorem LR.fr {y : Sy} {mem m m1 : Mem} (h : LR y mem m) (h1 : ∀ p, p ≠ 125 → p ≠ 126 → m1 p = m p) : LR y mem m1 := by
  obtain ⟨a, b, c, d, e⟩ := h
  refine ⟨fun p hp => by rw [h1 p (by omega) (by omega)]; exact a p hp, fun j hj => by rw [h1 116 (by decide) (by decide)]; exact b j hj, by rw [h1 116 (by decide) (by decide)]; exact c, by rw [h1 123 (by decide) (by decide)]; exact d, by rw [h1 124 (by decide) (by decide)]; exact e⟩
theorem RK.LR {mem m : Mem} {A : AS} (h : RJ LOK mem A) (h1 : LR A.1 mem m) : RK LOK mem A m := by
  obtain ⟨a, b, c, d, e⟩ := h1
  exact ⟨⟨h.1.lay (fun p h1 h2 => a p (by omega)) (b 2 (by omega)) (b 5 (by omega)), Or.inr ⟨c, d⟩⟩, fun q hq => a q (by omega)⟩
theorem c_X10_headDistance (p x : Int) (mem : Mem) (A : AS) (h : RJ LOK mem A) (hp : R32 p) (hx : R32 x) : CtrI mX10_headDistance [aR 116, aI p, aI x] mem (fun z m => sHd A.1 p x = z ∧ RK LOK mem A m) := by
  have ok := h.1.1.2.2.1
  refine Ctr.ofV (ls := [aR 116, aI p, aI x]) rfl (by decide) rfl (Nat.le_of_ble_eq_true rfl) ?_
  refine v_aload_n (j := 0) (q := 1) rfl dX10_headDistance_0 rfl ?_
  refine v_iload_n (j := 1) (q := 2) rfl dX10_headDistance_1 rfl ?_
  refine v_iload_n (j := 2) (q := 3) rfl dX10_headDistance_2 rfl ?_
  refine v_cVI2 (q := 6) dX10_headDistance_3 mlX10_190 mdX10_isHead (by decide) kd_116 rfl rfl ⟨Nat.le_refl 0, Nat.le_refl 0⟩ (by exact Nat.le_of_ble_eq_true rfl) rfl (c_X10_isHead p x mem A.1 h.1.1 hp hx) ?_
  rintro _ _ ⟨rfl, rfl⟩
  refine v_if_neB (tgt := 11) (q := 9) dX10_headDistance_6 (by decide) rfl (fun h6 => ?_) (fun h6 => ?_)
  · refine v_aload_n (j := 0) (q := 12) rfl dX10_headDistance_11 rfl ?_
    refine v_cVV0 (q := 15) dX10_headDistance_12 mlX10_193 mdX10_layMachine (by decide) kd_116 rfl rfl ⟨Nat.le_refl 0, Nat.le_refl 0⟩ (by exact Nat.le_of_ble_eq_true rfl) rfl (c_X10_layMachine mem A.1 h.1.1 h.2) ?_
    rintro m1 hq
    refine v_aload_n (j := 0) (q := 16) rfl dX10_headDistance_15 rfl ?_
    refine v_cVV0 (q := 19) dX10_headDistance_16 mlX10_196 mdX10_layRests (by decide) kd_116 rfl rfl ⟨Nat.le_refl 0, Nat.le_refl 0⟩ (by exact Nat.le_of_ble_eq_true rfl) rfl (c_X10_layRests m1 A.1 (by rw [hq.1 117 (by decide) (by decide)]; exact h.1.1) hq.2.2.2) ?_
    rintro m2 ⟨r, rfl, hr⟩
    have lr := LR.of hq hr
    refine v_aload_n (j := 0) (q := 20) rfl dX10_headDistance_19 rfl ?_
    refine v_iload_n (j := 1) (q := 21) rfl dX10_headDistance_20 rfl ?_
    refine v_iload_n (j := 2) (q := 22) rfl dX10_headDistance_21 rfl ?_
    refine v_cVI2 (q := 25) dX10_headDistance_22 mlX10_199 mdX10_headOf (by decide) kd_116 rfl rfl ⟨Nat.le_refl 0, Nat.le_refl 0⟩ (by exact Nat.le_of_ble_eq_true rfl) rfl (c_X10_headOf _ A.1 ok lr.2.2.2.1 lr.2.2.2.2 p x h6) ?_
    rintro _ m3 ⟨g, rfl, hg, rfl⟩
    refine v_iret dX10_headDistance_25 ?_
    exact ⟨_, rfl, by unfold sHd; rw [if_pos h6], RK.LR h (lr.fr (fun p h1 h2 => sm_ne _ _ h1))⟩
  · refine v_iconst (q := 10) dX10_headDistance_9 rfl ?_
    refine v_iret dX10_headDistance_10 ?_
    exact ⟨_, rfl, by unfold sHd; rw [if_neg h6], RK.of h (frR.refl _)⟩
theorem l_X10_heads2 {Post : AV → Mem → Prop} (mem0 : Mem) (y : Sy) (ok : okS y) (p : Nat) (hp : (p : Int) < y.1) (K : ∀ M, LR y mem0 M → M 117 = mem0 117 → V cX10_heads RX10 4 (some .int) (rmk 4 99) (mE Post) 59 [aR 116, aI (cP (fun h => hdw y (h / 5) (h % 5 + 1) < 1000001) (5 * p + 5)), aI (p : Int), aI (y.2.1 + 1)] [] M) (h1 : mem0 117 1 = y.2.1) :
    ∀ (j x : Nat) (M : Mem), (x : Int) + j = y.2.1 → LR y mem0 M → M 117 = mem0 117 → V cX10_heads RX10 4 (some .int) (rmk 4 99) (mE Post) 24 [aR 116, aI (cP (fun h => hdw y (h / 5) (h % 5 + 1) < 1000001) (5 * p + x)), aI (p : Int), aI ((x : Int) + 1)] [] M := by
  have hS := ok.1
  have hG := ok.2.1
  have bad : ∀ h : Nat, h < 20 → y.2.1 < (h : Int) % 5 + 1 → ¬ hdw y ((h : Int) / 5) ((h : Int) % 5 + 1) < 1000001 := fun h h9 hb hlt => by
    obtain ⟨u, s, d, W, a, -⟩ := (hdw_ok ok ((h : Int) / 5) ((h : Int) % 5 + 1)).2.1 hlt
    have := (rd_head ok (by omega) (by omega) a).2.2
    omega
  intro j
  induction j with
  | zero =>
    intro x M g1 g2 g3
    have e1 : M 117 1 = y.2.1 := by rw [g3]; exact h1
    have hx : (x : Int) = y.2.1 := by omega
    have eg : cP (fun h => hdw y (h / 5) (h % 5 + 1) < 1000001) (5 * p + 5) = cP (fun h => hdw y (h / 5) (h % 5 + 1) < 1000001) (5 * p + x) := cP_gap (by omega) (fun i i0 i1 => bad i (by omega) (by omega))
    have hk := K M g2 g3
    rw [eg, ← hx] at hk
    refine v_iload_n (j := 3) (q := 25) rfl dX10_heads_24 rfl ?_
    refine v_aload_n (j := 0) (q := 26) rfl dX10_heads_25 rfl ?_
    refine v_getR (p' := 117) (q := 29) dX10_heads_26 fl_X10_7 kd_116 rfl (rfc_10_0 kd_116) rfl ?_
    refine v_iconst (q := 30) dX10_heads_29 rfl ?_
    refine v_iald (q := 31) dX10_heads_30 kd_117 (by omega) (by omega) rfl ?_
    rw [e1]
    refine v_icmp_gt (tgt := 59) (q := 34) dX10_heads_31 (by decide) rfl (by omega) (by omega) (fun h31 => ?_) (fun h31 => ?_)
    · exact hk
    · exact absurd h31 (by omega)
  | succ j ih =>
    intro x M g1 g2 g3
    have e1 : M 117 1 = y.2.1 := by rw [g3]; exact h1
    have hb := hdw_rng ok (p : Int) ((x : Int) + 1)
    have e5 : ((5 * p + x : Nat) : Int) / 5 = p := by omega
    have e6 : ((5 * p + x : Nat) : Int) % 5 + 1 = (x : Int) + 1 := by omega
    refine v_iload_n (j := 3) (q := 25) rfl dX10_heads_24 rfl ?_
    refine v_aload_n (j := 0) (q := 26) rfl dX10_heads_25 rfl ?_
    refine v_getR (p' := 117) (q := 29) dX10_heads_26 fl_X10_7 kd_116 rfl (rfc_10_0 kd_116) rfl ?_
    refine v_iconst (q := 30) dX10_heads_29 rfl ?_
    refine v_iald (q := 31) dX10_heads_30 kd_117 (by omega) (by omega) rfl ?_
    rw [e1]
    refine v_icmp_gt (tgt := 59) (q := 34) dX10_heads_31 (by decide) rfl (by omega) (by omega) (fun h31 => ?_) (fun h31 => ?_)
    · exact absurd h31 (by omega)
    · refine v_iload_n (j := 1) (q := 35) rfl dX10_heads_34 rfl ?_
      refine v_aload_n (j := 0) (q := 36) rfl dX10_heads_35 rfl ?_
      refine v_iload_n (j := 2) (q := 37) rfl dX10_heads_36 rfl ?_
      refine v_iload_n (j := 3) (q := 38) rfl dX10_heads_37 rfl ?_
      refine v_cVI2 (q := 41) dX10_heads_38 mlX10_199 mdX10_headOf (by decide) kd_116 rfl rfl ⟨Nat.le_refl 0, Nat.le_refl 0⟩ (by exact Nat.le_of_ble_eq_true rfl) rfl (c_X10_headOf M y ok g2.2.2.2.1 g2.2.2.2.2 p ((x : Int) + 1) ⟨by omega, by omega⟩) ?_
      rintro z m3 ⟨g, rfl, hg, hz⟩
      have hz2 : (hdw y p ((x : Int) + 1) = 1000001 ∧ z = -6) ∨ (hdw y p ((x : Int) + 1) ≠ 1000001 ∧ z = hdw y p ((x : Int) + 1)) := (by by_cases g9 : hdw y p ((x : Int) + 1) = 1000001; (rw [if_pos g9] at hz; exact Or.inl ⟨g9, hz.symm⟩); (rw [if_neg g9] at hz; exact Or.inr ⟨g9, hz.symm⟩))
      have fr := g2.fr (m1 := sm M 125 g) (fun p h1 h2 => sm_ne _ _ h1)
      have f17 : sm M 125 g 117 = mem0 117 := (by rw [sm_ne _ _ (by decide)]; exact g3)
      have hk := ih (x + 1) (sm M 125 g) (by omega) fr f17
      rw [show 5 * p + (x + 1) = 5 * p + x + 1 by omega] at hk
      refine v_bipush (q := 43) (by decide) dX10_heads_41 rfl ?_
      refine v_icmp_eq (tgt := 50) (q := 46) dX10_heads_43 (by decide) rfl (by omega) (by omega) (fun h43 => ?_) (fun h43 => ?_)
      · refine v_iconst (q := 51) dX10_heads_50 rfl ?_
        refine v_iadd (q := 52) dX10_heads_51 rfl ?_
        refine v_ist1 (q := 53) rfl dX10_heads_52 (by decide) rfl ?_
        refine v_iinc3 (q := 56) rfl dX10_heads_53 (by decide) rfl ?_
        refine v_goto (q := 24) dX10_heads_56 (by decide) ?_
        first
          | (have hno : ¬ hdw y p ((x : Int) + 1) < 1000001 := by omega
             rw [cP_f (P := fun h => hdw y (h / 5) (h % 5 + 1) < 1000001) (n := 5 * p + x) (by rw [e5, e6]; exact hno)] at hk
             rw [Int.add_zero]
             exact hk)
          | (have hyes : hdw y p ((x : Int) + 1) < 1000001 := by omega
             rw [cP_t (P := fun h => hdw y (h / 5) (h % 5 + 1) < 1000001) (n := 5 * p + x) (by rw [e5, e6]; exact hyes)] at hk
             exact hk)
      · refine v_iconst (q := 47) dX10_heads_46 rfl ?_
        refine v_goto (q := 51) dX10_heads_47 (by decide) ?_
        refine v_iadd (q := 52) dX10_heads_51 rfl ?_
        refine v_ist1 (q := 53) rfl dX10_heads_52 (by decide) rfl ?_
        refine v_iinc3 (q := 56) rfl dX10_heads_53 (by decide) rfl ?_
        refine v_goto (q := 24) dX10_heads_56 (by decide) ?_
        first
          | (have hno : ¬ hdw y p ((x : Int) + 1) < 1000001 := by omega
             rw [cP_f (P := fun h => hdw y (h / 5) (h % 5 + 1) < 1000001) (n := 5 * p + x) (by rw [e5, e6]; exact hno)] at hk
             rw [Int.add_zero]
             exact hk)
          | (have hyes : hdw y p ((x : Int) + 1) < 1000001 := by omega
             rw [cP_t (P := fun h => hdw y (h / 5) (h % 5 + 1) < 1000001) (n := 5 * p + x) (by rw [e5, e6]; exact hyes)] at hk
             exact hk)
theorem l_X10_heads1 {Post : AV → Mem → Prop} (mem0 : Mem) (y : Sy) (ok : okS y) (h0 : mem0 117 0 = y.1) (h1 : mem0 117 1 = y.2.1) (K : ∀ M, LR y mem0 M → Post (aI (sHds y)) M) :
    ∀ (j p : Nat) (M : Mem) (u3 : AV), (p : Int) + j = y.1 → LR y mem0 M → M 117 = mem0 117 → V cX10_heads RX10 4 (some .int) (rmk 4 99) (mE Post) 12 [aR 116, aI (cP (fun h => hdw y (h / 5) (h % 5 + 1) < 1000001) (5 * p)), aI (p : Int), u3] [] M := by
  have hS := ok.1
  have hG := ok.2.1
  have bad : ∀ h : Nat, h < 20 → y.1 ≤ (h : Int) / 5 → ¬ hdw y ((h : Int) / 5) ((h : Int) % 5 + 1) < 1000001 := fun h h9 hb hlt => by
    obtain ⟨u, s, d, W, a, -⟩ := (hdw_ok ok ((h : Int) / 5) ((h : Int) % 5 + 1)).2.1 hlt
    have := (rd_head ok (by omega) (by omega) a).1.2
    omega
  intro j
  induction j with
  | zero =>
    intro p M u3 g1 g2 g3
    have e1 : M 117 0 = y.1 := by rw [g3]; exact h0
    have eg : sHds y = cP (fun h => hdw y (h / 5) (h % 5 + 1) < 1000001) (5 * p) := cP_gap (by omega) (fun i i0 i1 => bad i (by omega) (by omega))
    refine v_iload_n (j := 2) (q := 13) rfl dX10_heads_12 rfl ?_
    refine v_aload_n (j := 0) (q := 14) rfl dX10_heads_13 rfl ?_
    refine v_getR (p' := 117) (q := 17) dX10_heads_14 fl_X10_7 kd_116 rfl (rfc_10_0 kd_116) rfl ?_
    refine v_iconst (q := 18) dX10_heads_17 rfl ?_
    refine v_iald (q := 19) dX10_heads_18 kd_117 (by omega) (by omega) rfl ?_
    rw [e1]
    refine v_icmp_ge (tgt := 65) (q := 22) dX10_heads_19 (by decide) rfl (by omega) (by omega) (fun h19 => ?_) (fun h19 => ?_)
    · refine v_iload_n (j := 1) (q := 66) rfl dX10_heads_65 rfl ?_
      refine v_iret dX10_heads_66 ?_
      rw [← eg]
      exact K M g2
    · exact absurd h19 (by omega)
  | succ j ih =>
    intro p M u3 g1 g2 g3
    have e1 : M 117 0 = y.1 := by rw [g3]; exact h0
    refine v_iload_n (j := 2) (q := 13) rfl dX10_heads_12 rfl ?_
    refine v_aload_n (j := 0) (q := 14) rfl dX10_heads_13 rfl ?_
    refine v_getR (p' := 117) (q := 17) dX10_heads_14 fl_X10_7 kd_116 rfl (rfc_10_0 kd_116) rfl ?_
    refine v_iconst (q := 18) dX10_heads_17 rfl ?_
    refine v_iald (q := 19) dX10_heads_18 kd_117 (by omega) (by omega) rfl ?_
    rw [e1]
    refine v_icmp_ge (tgt := 65) (q := 22) dX10_heads_19 (by decide) rfl (by omega) (by omega) (fun h19 => ?_) (fun h19 => ?_)
    · exact absurd h19 (by omega)
    · refine v_iconst (q := 23) dX10_heads_22 rfl ?_
      refine v_ist3 (q := 24) rfl dX10_heads_23 (by decide) rfl ?_
      refine l_X10_heads2 mem0 y ok p (by omega) (fun M2 k1 k2 => ?_) h1 y.2.1.toNat 0 M (by omega) g2 g3
      have hk := ih (p + 1) M2 (aI (y.2.1 + 1)) (by omega) k1 k2
      rw [show 5 * (p + 1) = 5 * p + 5 by omega] at hk
      refine v_iinc2 (q := 62) rfl dX10_heads_59 (by decide) rfl ?_
      refine v_goto (q := 12) dX10_heads_62 (by decide) ?_
      exact hk
theorem c_X10_heads (mem : Mem) (A : AS) (h : RJ LOK mem A) : CtrI mX10_heads [aR 116] mem (fun z m => sHds A.1 = z ∧ RK LOK mem A m) := by
  have ok := h.1.1.2.2.1
  have f := h.1.1.facts
  refine Ctr.ofV (ls := [aR 116, aU, aU, aU]) rfl (by decide) rfl (Nat.le_of_ble_eq_true rfl) ?_
  refine v_aload_n (j := 0) (q := 1) rfl dX10_heads_0 rfl ?_
  refine v_cVV0 (q := 4) dX10_heads_1 mlX10_193 mdX10_layMachine (by decide) kd_116 rfl rfl ⟨Nat.le_refl 0, Nat.le_refl 0⟩ (by exact Nat.le_of_ble_eq_true rfl) rfl (c_X10_layMachine mem A.1 h.1.1 h.2) ?_
  rintro m1 hq
  refine v_aload_n (j := 0) (q := 5) rfl dX10_heads_4 rfl ?_
  refine v_cVV0 (q := 8) dX10_heads_5 mlX10_196 mdX10_layRests (by decide) kd_116 rfl rfl ⟨Nat.le_refl 0, Nat.le_refl 0⟩ (by exact Nat.le_of_ble_eq_true rfl) rfl (c_X10_layRests m1 A.1 (by rw [hq.1 117 (by decide) (by decide)]; exact h.1.1) hq.2.2.2) ?_
  rintro m2 ⟨r, rfl, hr⟩
  have lr := LR.of hq hr
  refine v_iconst (q := 9) dX10_heads_8 rfl ?_
  refine v_ist1 (q := 10) rfl dX10_heads_9 (by decide) rfl ?_
  refine v_iconst (q := 11) dX10_heads_10 rfl ?_
  refine v_ist2 (q := 12) rfl dX10_heads_11 (by decide) rfl ?_
  exact l_X10_heads1 mem A.1 ok f.2.2.2.2.2.2.1.symm f.2.2.2.2.2.2.2.1.symm (fun M k1 => ⟨_, rfl, rfl, RK.LR h k1⟩) A.1.1.toNat 0 _ _ (by have := ok.1; omega) lr (lr.1 117 (by omega))
