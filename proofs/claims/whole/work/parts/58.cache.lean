/-! ===== witnesses; what the class keeps from one question to the next ===== -/
/-- a configuration on the way, and the weight and the count of rules that are left -/
abbrev Cf : Type := Int × List Int × Int × Int
def wok (rs : List Rl) (q : Int) (t : List Int) (a : Cf) (k : Nat) (r : Rl) (s' : List Int) : Prop := rs[k]? = some r ∧ r.1 = a.1 ∧ a.2.1 = r.2.1 :: s' ∧ lm rs (-6) r.2.2.1 (dgs r.2.2.2.1 ++ s') q t = some (a.2.2.1 - r.2.2.2.2, a.2.2.2 - 1)
def wF (rs : List Rl) (q : Int) (t : List Int) (a : Cf) (k : Nat) (b : Cf) : Prop := (∃ r s', wok rs q t a k r s' ∧ b = (r.2.2.1, dgs r.2.2.2.1 ++ s', a.2.2.1 - r.2.2.2.2, a.2.2.2 - 1)) ∧ ∀ j, j < k → ∀ r s', ¬ wok rs q t a j r s'
def wAt (rs : List Rl) (q : Int) (t : List Int) : Nat → Cf → Cf → Prop
  | 0, a, b => a = b
  | i + 1, a, b => ∃ c k, wAt rs q t i a c ∧ wF rs q t c k b
theorem wF.det {rs : List Rl} {q : Int} {t : List Int} {a b b2 : Cf} {k k2 : Nat} (h : wF rs q t a k b) (h2 : wF rs q t a k2 b2) : k = k2 ∧ b = b2 := by
  obtain ⟨⟨r, s', w, e⟩, n⟩ := h
  obtain ⟨⟨r2, s2, w2, e2⟩, n2⟩ := h2
  rcases Nat.lt_trichotomy k k2 with g | g | g
  · exact absurd w (n2 k g r s')
  · subst g
    refine ⟨rfl, ?_⟩
    have x1 := w.1
    rw [w2.1] at x1
    cases x1
    have x2 := w.2.2.1
    rw [w2.2.2.1] at x2
    have x3 : s2 = s' := (List.cons.inj x2).2
    rw [e, e2, x3]
  · exact absurd w2 (n k2 g r2 s2)
theorem wAt.det {rs : List Rl} {q : Int} {t : List Int} : ∀ {i : Nat} {a b b2 : Cf}, wAt rs q t i a b → wAt rs q t i a b2 → b = b2
  | 0, _, _, _, h, h2 => by rw [← show _ = _ from h]; exact h2
  | i + 1, _, _, _, ⟨c, k, h1, h2⟩, ⟨c2, k2, g1, g2⟩ => by
    have := wAt.det h1 g1
    subst this
    exact (h2.det g2).2
/-- while rules are left, there is a first one -/
theorem wF.ex {y : Sy} (ok : okS y) {q : Int} {t : List Int} {a : Cf} (h : lm y.2.2.2.2 (-6) a.1 a.2.1 q t = some (a.2.2.1, a.2.2.2)) (hn : 0 < a.2.2.2) : ∃ k b, wF y.2.2.2.2 q t a k b ∧ lm y.2.2.2.2 (-6) b.1 b.2.1 q t = some (b.2.2.1, b.2.2.2) ∧ k < y.2.2.2.2.length ∧ b.2.2.2 = a.2.2.2 - 1 := by
  obtain ⟨p, s, W, n⟩ := a
  have hw := okRs.w (S := y.1) (G := y.2.1) ok.2.2.2.2.2
  obtain ⟨⟨m, e, hr⟩, hW, hmin⟩ := lm_some.mp h
  have e : (m : Int) = n := e
  have hn : 0 < n := hn
  match m, e, hr with
  | 0, e, _ => exact absurd e (by omega)
  | m + 1, e, ⟨k, r, s', g1, g2, g3, g4, g5⟩ =>
    have hp : wok y.2.2.2.2 q t (p, s, W, n) k r s' := by
      refine ⟨g1, g3, g4, lm_some.mpr ⟨⟨m, by show (m : Int) = n - 1; omega, g5⟩, ?_, fun W2 n2 h2 => ?_⟩⟩
      · have := hw r (List.mem_of_getElem? g1)
        have hW : W ≤ 1000000 := hW
        show W - r.2.2.2.2 ≤ 1000000
        omega
      · obtain ⟨m2, e2, r2⟩ := h2
        have := hmin (W2 + r.2.2.2.2) (n2 + 1) ⟨m2 + 1, by omega, k, r, s', g1, g2, g3, g4, by rw [show W2 + r.2.2.2.2 - r.2.2.2.2 = W2 by omega]; exact r2⟩
        have this : W < W2 + r.2.2.2.2 ∨ W = W2 + r.2.2.2.2 ∧ n ≤ n2 + 1 := this
        show W - r.2.2.2.2 < W2 ∨ W - r.2.2.2.2 = W2 ∧ n - 1 ≤ n2
        omega
    have key : ∀ N : Nat, ∀ k r s', k ≤ N → wok y.2.2.2.2 q t (p, s, W, n) k r s' → ∃ k b, wF y.2.2.2.2 q t (p, s, W, n) k b ∧ lm y.2.2.2.2 (-6) b.1 b.2.1 q t = some (b.2.2.1, b.2.2.2) ∧ k < y.2.2.2.2.length ∧ b.2.2.2 = n - 1 := by
      intro N
      induction N with
      | zero =>
        intro k r s' hk h9
        exact ⟨k, _, ⟨⟨r, s', h9, rfl⟩, fun j hj => by omega⟩, h9.2.2.2, (List.getElem?_eq_some_iff.mp h9.1).1, rfl⟩
      | succ N ih =>
        intro k r s' hk h9
        by_cases hx : ∃ j, j < k ∧ ∃ r s', wok y.2.2.2.2 q t (p, s, W, n) j r s'
        · obtain ⟨j, hj, r2, s2, h8⟩ := hx
          exact ih j r2 s2 (by omega) h8
        · exact ⟨k, _, ⟨⟨r, s', h9, rfl⟩, fun j hj r2 s2 h8 => hx ⟨j, hj, r2, s2, h8⟩⟩, h9.2.2.2, (List.getElem?_eq_some_iff.mp h9.1).1, rfl⟩
    exact key k k r s' (Nat.le_refl _) hp
/-- the plan is made -/
def PLN (m : Mem) (y : Sy) : Prop := PL m y ∧ m 38 0 = -6 ∧ PRok y.2.2.2.2 (-6) (m 39)
/-- the start configuration of a system, with what is left -/
def stC (y : Sy) (W n : Int) : Cf := (y.2.2.1, dgs y.2.2.2.1, W, n)
/-- the trace is that of the witness -/
def trR (m : Mem) (y : Sy) (q : Int) (t : List Int) (W n : Int) (i : Nat) : Prop := ∀ j : Nat, j < i → ∃ a k b, wAt y.2.2.2.2 q t j (stC y W n) a ∧ wF y.2.2.2.2 q t a k b ∧ m 79 j = (k : Nat) ∧ m 80 j = a.1 ∧ m 81 j = a.2.1.getD 0 0 ∧ m 82 j = a.2.1.length
def trB (m : Mem) (U i : Nat) : Prop := U < 1048576 ∧ ∀ k : Nat, k < 20 → (U.testBit k = true ↔ ∃ j : Nat, j < i ∧ m 79 j = k)
def TRC (m : Mem) (y : Sy) (q : Int) (t : List Int) : Prop := ∃ (W n : Int) (i U : Nat), lm y.2.2.2.2 (-6) y.2.2.1 (dgs y.2.2.2.1) q t = some (W, n) ∧ (i : Int) = min n 301 ∧ m 78 2 = i ∧ m 78 1 = bI (n ≤ 301) ∧ m 78 3 = U ∧ trB m U i ∧ trR m y q t W n i
def AIM (m : Mem) (y : Sy) (q : Int) (t : List Int) : Prop := SQ0 y (-6) q t 42 ∧ SQ y (-6) q t m 42 ∧ TMn NO (RC BB y.2.2.2.2 (-6) y.2.2.1 (dgs y.2.2.2.1) q t) (m 42 0) ∧ (m 78 0 = 0 ∨ (m 78 0 = 1 ∧ TRC m y q t))
def CA (MO : Mem → Sy → Prop) (m : Mem) (y : Sy) : Prop := (m 0 14 = 0 ∨ (m 0 14 = 1 ∧ PLN m y)) ∧ (m 42 2 = 0 ∨ (m 42 2 = 1 ∧ m 0 14 = 1 ∧ ∃ q t, AIM m y q t)) ∧ (m 83 0 = 0 ∨ (m 83 0 = 1 ∧ m 0 14 = 1 ∧ MO m y)) ∧ m 42 9 = 310 ∧ m 54 9 = 6 ∧ m 66 9 = 6 ∧ WdIs m 27 []
def MOc (MO : Mem → Sy → Prop) : Prop := ∀ m m1 y, MO m y → (∀ p, 83 ≤ p → p ≤ 115 → m1 p = m p) → MO m1 y
theorem PLN.congr {m m1 : Mem} {y : Sy} (h : PLN m y) (h1 : ∀ p, 29 ≤ p → p ≤ 39 → m1 p = m p) : PLN m1 y := ⟨h.1.congr (fun q a b => h1 q (by omega) (by omega)), by rw [h1 38 (by omega) (by omega)]; exact h.2.1, by rw [h1 39 (by omega) (by omega)]; exact h.2.2⟩
theorem TRC.congr {m m1 : Mem} {y : Sy} {q : Int} {t : List Int} (h : TRC m y q t) (h1 : ∀ p, 78 ≤ p → p ≤ 82 → m1 p = m p) : TRC m1 y q t := by
  unfold TRC trB trR
  rw [h1 78 (by omega) (by omega), h1 79 (by omega) (by omega), h1 80 (by omega) (by omega), h1 81 (by omega) (by omega), h1 82 (by omega) (by omega)]
  exact h
theorem AIM.congr {m m1 : Mem} {y : Sy} {q : Int} {t : List Int} (h : AIM m y q t) (h1 : ∀ p, (29 ≤ p ∧ p ≤ 39) ∨ (42 ≤ p ∧ p ≤ 50) → m1 p = m p) (h2 : ∀ p, 78 ≤ p → p ≤ 82 → m1 p = m p) : AIM m1 y q t := by
  obtain ⟨a, b, c, d⟩ := h
  refine ⟨a, ?_, by rw [h1 42 (by omega)]; exact c, ?_⟩
  · obtain ⟨b1, b2, b3, b4, b5, b6, b7⟩ := b
    have b2 : m 38 0 = -6 := b2
    have b3 : PRok y.2.2.2.2 (-6) (m 39) := b3
    refine ⟨b1.congr (fun q a b => h1 q (by omega)), ?_, ?_, by rw [h1 42 (by omega)]; exact b4, by rw [h1 42 (by omega)]; exact b5, by rw [h1 42 (by omega)]; exact b6, ?_⟩
    · show m1 38 0 = -6
      rw [h1 38 (by omega)]; exact b2
    · show PRok y.2.2.2.2 (-6) (m1 39)
      rw [h1 39 (by omega)]; exact b3
    · have hl := a.2.2.2.2.2
      exact b7.congr (fun i hi => by rw [h1 43 (by omega)]) (fun i hi => h1 _ (by omega))
  · rw [h2 78 (by omega) (by omega)]
    exact d.elim Or.inl (fun h => Or.inr ⟨h.1, h.2.congr h2⟩)
theorem CA.congr {MO : Mem → Sy → Prop} (hMO : MOc MO) {m m1 : Mem} {y : Sy} (h : CA MO m y) (h1 : ∀ p, p = 0 ∨ (27 ≤ p ∧ p ≤ 39) ∨ (42 ≤ p ∧ p ≤ 50) ∨ (78 ≤ p ∧ p ≤ 115) → m1 p = m p) (h2 : m1 54 9 = m 54 9) (h3 : m1 66 9 = m 66 9) : CA MO m1 y := by
  obtain ⟨a, b, c, d, e, f, g⟩ := h
  refine ⟨?_, ?_, ?_, by rw [h1 42 (by omega)]; exact d, by rw [h2]; exact e, by rw [h3]; exact f, g.congr (h1 27 (by omega)) (h1 28 (by omega))⟩
  · rw [h1 0 (by omega)]
    exact a.elim Or.inl (fun x => Or.inr ⟨x.1, x.2.congr (fun p _ _ => h1 p (by omega))⟩)
  · rw [h1 0 (by omega), h1 42 (by omega)]
    exact b.elim Or.inl (fun ⟨x1, x2, q, t, x3⟩ => Or.inr ⟨x1, x2, q, t, x3.congr (fun p _ => h1 p (by omega)) (fun p _ _ => h1 p (by omega))⟩)
  · rw [h1 0 (by omega), h1 83 (by omega)]
    exact c.elim Or.inl (fun ⟨x1, x2, x3⟩ => Or.inr ⟨x1, x2, hMO _ _ _ x3 (fun p _ _ => h1 p (by omega))⟩)
