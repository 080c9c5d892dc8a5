/-! ===== the reference: where no rule changes anything, the ways are the least ===== -/
theorem Run.nil {rs : List Rl} {ex : Int} {n : Nat} {p q : Int} {t : List Int} {W : Int} (h : Run rs ex n p [] q t W) : n = 0 ∧ p = q ∧ t = [] ∧ W = 0 := by
  match n, h with
  | 0, ⟨a, b, c⟩ => exact ⟨rfl, a, b.symm, c⟩
  | n + 1, ⟨_, _, _, _, _, _, h4, _⟩ => cases h4
theorem Run.state {rs : List Rl} {ex S G : Int} (hw : okRs S G rs) : ∀ {n : Nat} {p : Int} {s : List Int} {q : Int} {t : List Int} {W : Int}, Run rs ex n p s q t W → 0 ≤ p ∧ p < S → 0 ≤ q ∧ q < S
  | 0, _, _, _, _, _, ⟨a, _, _⟩, hp => by rw [← a]; exact hp
  | n + 1, _, _, _, _, _, ⟨_, r, _, h1, _, _, _, h5⟩, _ => Run.state hw h5 (hw r (List.mem_of_getElem? h1)).2.2.1
/-- runs of n rules to what a node stands for -/
def WN (rs : List Rl) (ex q : Int) (t : List Int) (n : Nat) (f : Int) (l : List Int) (s W : Int) : Prop := (s < 5 ∧ Run rs ex n f l s [] W) ∨ (5 ≤ s ∧ s < 5 + t.length ∧ Run rs ex n f l q (t.take (s - 4).toNat) W)
theorem complW {y : Sy} (ok : okS y) {ex q : Int} {t : List Int} {v : Int → Int} (hq : 0 ≤ q ∧ q < y.1) (ht : ∀ d ∈ t, 1 ≤ d ∧ d ≤ y.2.1) (hlt : t.length ≤ 6) (hv : SndW y ex q t v) (hrel : relW y ex v y.2.2.2.2.length) (h5 : 0 < t.length → v (ix q (t.getD 0 0) 5) ≤ 0) (hch : ∀ k : Nat, 1 ≤ k → k < t.length → v (ix (4 + k) (t.getD k 0) (5 + k)) ≤ 0) :
    ∀ (N n : Nat), n ≤ N → ∀ f x s W, 0 ≤ f → f < y.1 → 0 ≤ s → s < 11 → WN y.2.2.2.2 ex q t n f [x] s W → W * 2097152 + n < EN → v (ix f x s) ≤ W * 2097152 + n := by
  have hEN := EN_def
  have hS := ok.1
  have hG := ok.2.1
  have hw := okRs.w (S := y.1) (G := y.2.1) ok.2.2.2.2.2
  have htk : ∀ s : Int, 5 ≤ s → s < 5 + t.length → t.take (s - 4).toNat = t.take (s - 5).toNat ++ [t.getD (s - 5).toNat 0] := fun s a b => by
    rw [show (s - 4).toNat = (s - 5).toNat + 1 by omega]
    exact take_s (by omega)
  intro N
  induction N with
  | zero =>
    intro n hn f x s W f0 f1 s0 s1 hr hlt2
    have e : n = 0 := by omega
    subst e
    rcases hr with ⟨a, -, b, -⟩ | ⟨a, a2, b, c, d⟩
    · cases b
    · rw [htk s a a2] at c
      have e1 := congrArg List.length c
      rw [List.length_append, List.length_take] at e1
      have e9 : [x].length = 1 := rfl
      have e8 : [t.getD (s - 5).toNat 0].length = 1 := rfl
      have e2 : s = 5 := by omega
      subst e2
      have e3 : x = t.getD 0 0 := (List.cons.inj c).1
      have := h5 (by omega)
      rw [b, e3]
      omega
  | succ N ih =>
    intro n hn f x s W f0 f1 s0 s1 hr hlt2
    by_cases hz : n ≤ N
    · exact ih n hz f x s W f0 f1 s0 s1 hr hlt2
    have hn1 : n = N + 1 := by omega
    subst hn1
    -- the first rule
    have first : ∃ (k : Nat) (r : Rl), y.2.2.2.2[k]? = some r ∧ (k : Int) ≠ ex ∧ r.1 = f ∧ r.2.1 = x ∧ WN y.2.2.2.2 ex q t N r.2.2.1 (dgs r.2.2.2.1) s (W - r.2.2.2.2) := by
      rcases hr with ⟨a, k, r, s', g1, g2, g3, g4, g5⟩ | ⟨a, a2, k, r, s', g1, g2, g3, g4, g5⟩
      · obtain ⟨e1, e2⟩ := List.cons.inj g4
        subst e2
        rw [List.append_nil] at g5
        exact ⟨k, r, g1, g2, g3, e1.symm, Or.inl ⟨a, g5⟩⟩
      · obtain ⟨e1, e2⟩ := List.cons.inj g4
        subst e2
        rw [List.append_nil] at g5
        exact ⟨k, r, g1, g2, g3, e1.symm, Or.inr ⟨a, a2, g5⟩⟩
    obtain ⟨k, r, g1, g2, g3, g4, g5⟩ := first
    have okr := ok.2.2.2.2.2 r (List.mem_of_getElem? g1)
    have hk : k < y.2.2.2.2.length := (List.getElem?_eq_some_iff.mp g1).1
    have rl := hrel k hk g2 r g1 s s0 s1
    obtain ⟨b1, b2, b3⟩ := rl_cases okr hG.2 hS.2
    have q0 := okr.2.2.1
    have hcr : cr BR r = r.2.2.2.2 * 2097152 + 1 := rfl
    have hwr := okr.2.2.2.2
    subst g3; subst g4
    have lowb : ∀ f x s, 0 ≤ f → f < 11 → 1 ≤ x → x ≤ 5 → 0 ≤ s → s < 11 → 0 ≤ v (ix f x s) := fun f x s a1 a2 a3 a4 a5 a6 => (hv.1 _ (ix_rng ⟨a1, a2⟩ ⟨a3, a4⟩ ⟨a5, a6⟩).1 (ix_rng ⟨a1, a2⟩ ⟨a3, a4⟩ ⟨a5, a6⟩).2).1
    rcases b3 with ⟨n0, d0⟩ | ⟨n1, d1, d2, d3, d4⟩ | ⟨n2, d1, d2, d3, d4, d5, d6⟩
    · rw [d0] at g5
      rcases g5 with ⟨a, b⟩ | ⟨a, a2, b⟩
      · obtain ⟨e1, e2, -, e4⟩ := b.nil
        have := rl.1 n0 e2.symm
        omega
      · obtain ⟨-, -, e3, -⟩ := b.nil
        rw [htk s a a2] at e3
        exact absurd (congrArg List.length e3) (by rw [List.length_append]; show ¬ (_ + 1 = 0); omega)
    · rw [d1] at g5
      have h9 := ih N (Nat.le_refl _) r.2.2.1 r.2.2.2.1 s (W - r.2.2.2.2) q0.1 q0.2 s0 s1 g5 (by omega)
      have := rl.2.1 n1 (by omega)
      omega
    · have ebl : blR r = r.2.2.2.1 % 10 := by unfold blR; rw [if_pos n2]
      rw [ebl] at d1 d5 d6
      rw [d1] at g5
      have two : ∀ m c1 c2, 0 ≤ m → m < 11 → v (ix r.2.2.1 (r.2.2.2.1 / 10) m) ≤ c1 → v (ix m (r.2.2.2.1 % 10) s) ≤ c2 → c1 + c2 = (W - r.2.2.2.2) * 2097152 + N → 0 ≤ c1 → 0 ≤ c2 → v (ix r.1 r.2.1 s) ≤ W * 2097152 + (N + 1 : Nat) := fun m c1 c2 m0 m1 l1 l2 l3 l4 l5 => by
        have := rl.2.2 n2 m m0 m1 (by omega) (by omega) (by omega)
        omega
      rcases g5 with ⟨a, b⟩ | ⟨a, a2, b⟩
      · rcases (show Run y.2.2.2.2 ex N r.2.2.1 ([r.2.2.2.1 / 10] ++ [r.2.2.2.1 % 10]) s [] (W - r.2.2.2.2) from b).split with ⟨t', e1, -⟩ | ⟨n1, n2', m, W1, W2, e1, e2, e3, e4⟩
        · exact absurd (congrArg List.length e1) (by rw [List.length_append]; show ¬ (0 = _ + 1); omega)
        · have hm := Run.state (S := y.1) (G := y.2.1) ok.2.2.2.2.2 e3 q0
          have y1 := Run.le hw e3
          have y2 := Run.le hw e4
          have i1 := ih n1 (by omega) r.2.2.1 (r.2.2.2.1 / 10) m W1 q0.1 q0.2 hm.1 (by omega) (Or.inl ⟨by omega, e3⟩) (by omega)
          have i2 := ih n2' (by omega) m (r.2.2.2.1 % 10) s W2 hm.1 hm.2 s0 s1 (Or.inl ⟨a, e4⟩) (by omega)
          exact two m _ _ hm.1 (by omega) i1 i2 (by omega) (by omega) (by omega)
      · rcases (show Run y.2.2.2.2 ex N r.2.2.1 ([r.2.2.2.1 / 10] ++ [r.2.2.2.1 % 10]) q (t.take (s - 4).toNat) (W - r.2.2.2.2) from b).split with ⟨t', e1, e2⟩ | ⟨n1, n2', m, W1, W2, e1, e2, e3, e4⟩
        · rw [htk s a a2] at e1
          obtain ⟨z1, z2⟩ := List.append_inj' e1 rfl
          have z3 : t.getD (s - 5).toNat 0 = r.2.2.2.1 % 10 := (List.cons.inj z2).1
          have y1 := Run.le hw e2
          by_cases e5 : s = 5
          · subst e5
            have z4 : t' = [] := by rw [← z1]; rfl
            rw [z4] at e2
            have i1 := ih N (Nat.le_refl _) r.2.2.1 (r.2.2.2.1 / 10) q (W - r.2.2.2.2) q0.1 q0.2 hq.1 (by omega) (Or.inl ⟨by omega, e2⟩) (by omega)
            have i2 := h5 (by omega)
            have z3 : t.getD 0 0 = r.2.2.2.1 % 10 := z3
            rw [z3] at i2
            exact two q _ 0 hq.1 (by omega) i1 i2 (by omega) (by omega) (by omega)
          · have i1 := ih N (Nat.le_refl _) r.2.2.1 (r.2.2.2.1 / 10) (s - 1) (W - r.2.2.2.2) q0.1 q0.2 (by omega) (by omega) (Or.inr ⟨by omega, by omega, by rw [show (s - 1 - 4).toNat = (s - 5).toNat by omega, z1]; exact e2⟩) (by omega)
            have i2 := hch (s - 5).toNat (by omega) (by omega)
            rw [z3, show (4 : Int) + ((s - 5).toNat : Int) = s - 1 by omega, show (5 : Int) + ((s - 5).toNat : Int) = s by omega] at i2
            exact two (s - 1) _ 0 (by omega) (by omega) i1 i2 (by omega) (by omega) (by omega)
        · have hm := Run.state (S := y.1) (G := y.2.1) ok.2.2.2.2.2 e3 q0
          have y1 := Run.le hw e3
          have y2 := Run.le hw e4
          have i1 := ih n1 (by omega) r.2.2.1 (r.2.2.2.1 / 10) m W1 q0.1 q0.2 hm.1 (by omega) (Or.inl ⟨by omega, e3⟩) (by omega)
          have i2 := ih n2' (by omega) m (r.2.2.2.1 % 10) s W2 hm.1 hm.2 s0 s1 (Or.inr ⟨a, a2, e4⟩) (by omega)
          exact two m _ _ hm.1 (by omega) i1 i2 (by omega) (by omega) (by omega)
