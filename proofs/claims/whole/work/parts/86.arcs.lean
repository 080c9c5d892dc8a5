/-! ===== the machine: the arcs that follow ===== -/
def nodH (q x : Int) : Int := 10 + 5 * q + x - 1
abbrev Arc : Type := Int → Int → Int → Int → Prop
def A0 (y : Sy) : Arc := fun f l s w => ∃ i : Nat, i < (dgs y.2.2.2.1).length ∧ f = (if i = 0 then y.2.2.1 else 30 + (i : Int)) ∧ l = (dgs y.2.2.2.1).getD i 0 ∧ s = 31 + (i : Int) ∧ w = 0
/-- p reads x up to s with the weight d -/
def RDa (A : Arc) (p x s d : Int) : Prop := A p x s d ∨ ∃ t d1 d2, A p 0 t d1 ∧ A t x s d2 ∧ d = d1 + d2
/-- the arcs that a rule makes, where its state reads its symbol up to e with the weight d -/
def mkA (r : Rl) (e d f l s w : Int) : Prop := (nd r.2.2.2.1 = 0 ∧ f = r.2.2.1 ∧ l = 0 ∧ s = e ∧ w = d + r.2.2.2.2 ∧ w ≤ 1000000) ∨ (nd r.2.2.2.1 = 1 ∧ f = r.2.2.1 ∧ l = r.2.2.2.1 ∧ s = e ∧ w = d + r.2.2.2.2 ∧ w ≤ 1000000) ∨ (nd r.2.2.2.1 = 2 ∧ ((f = r.2.2.1 ∧ l = r.2.2.2.1 / 10 ∧ s = nodH r.2.2.1 (r.2.2.2.1 / 10) ∧ w = 0) ∨ (f = nodH r.2.2.1 (r.2.2.2.1 / 10) ∧ l = r.2.2.2.1 % 10 ∧ s = e ∧ w = d + r.2.2.2.2 ∧ w ≤ 1000000)))
def A1 (y : Sy) (A : Arc) : Arc := fun f l s w => ∃ (k : Nat) (r : Rl) (e d : Int), y.2.2.2.2[k]? = some r ∧ RDa A r.1 r.2.1 e d ∧ d ≤ 1000000 ∧ mkA r e d f l s w
def AR (y : Sy) : Nat → Arc
  | 0 => A0 y
  | n + 1 => fun f l s w => AR y n f l s w ∨ A1 y (AR y n) f l s w
def AD (y : Sy) : Arc := fun f l s w => ∃ n, AR y n f l s w
theorem AR.up {y : Sy} {n : Nat} {f l s w : Int} (h : AR y n f l s w) : ∀ m, n ≤ m → AR y m f l s w := by
  intro m hm
  obtain ⟨k, rfl⟩ : ∃ k, m = n + k := ⟨m - n, by omega⟩
  clear hm
  induction k with
  | zero => exact h
  | succ k ih => exact Or.inl ih
theorem RDa.mono {A B : Arc} (h : ∀ f l s w, A f l s w → B f l s w) {p x s d : Int} (hr : RDa A p x s d) : RDa B p x s d :=
  hr.imp (h _ _ _ _) (fun ⟨t, d1, d2, a, b, c⟩ => ⟨t, d1, d2, h _ _ _ _ a, h _ _ _ _ b, c⟩)
theorem AD.rd {y : Sy} {p x s d : Int} (h : RDa (AD y) p x s d) : ∃ n, RDa (AR y n) p x s d := by
  rcases h with ⟨n, h⟩ | ⟨t, d1, d2, ⟨n, a⟩, ⟨m, b⟩, c⟩
  · exact ⟨n, Or.inl h⟩
  · exact ⟨n + m, Or.inr ⟨t, d1, d2, a.up _ (by omega), b.up _ (by omega), c⟩⟩
theorem AD.base {y : Sy} {f l s w : Int} (h : A0 y f l s w) : AD y f l s w := ⟨0, h⟩
theorem AD.step {y : Sy} {k : Nat} {r : Rl} {e d f l s w : Int} (h1 : y.2.2.2.2[k]? = some r) (h2 : RDa (AD y) r.1 r.2.1 e d) (h3 : d ≤ 1000000) (h4 : mkA r e d f l s w) : AD y f l s w := by
  obtain ⟨n, hn⟩ := AD.rd h2
  exact ⟨n + 1, Or.inr ⟨k, r, e, d, h1, hn, h3, h4⟩⟩
theorem AD.least {y : Sy} (T : Int → Int → Int → Int) (h0 : ∀ f l s w, A0 y f l s w → T f l s ≤ w) (h1 : ∀ f l s w, A1 y (fun f l s w => T f l s ≤ w) f l s w → T f l s ≤ w) {f l s w : Int} (h : AD y f l s w) : T f l s ≤ w := by
  obtain ⟨n, h⟩ := h
  induction n generalizing f l s w with
  | zero => exact h0 _ _ _ _ h
  | succ n ih =>
    rcases h with h | ⟨k, r, e, d, g1, g2, g3, g4⟩
    · exact ih h
    · exact h1 _ _ _ _ ⟨k, r, e, d, g1, g2.mono (fun _ _ _ _ => ih), g3, g4⟩
/-- where arcs lead from and to -/
def isHn (y : Sy) (s : Int) : Prop := ∃ q x, (0 ≤ q ∧ q < y.1) ∧ (1 ≤ x ∧ x ≤ y.2.1) ∧ s = nodH q x
def isCh (y : Sy) (s : Int) : Prop := 31 ≤ s ∧ s ≤ 30 + (dgs y.2.2.2.1).length
def arcOK (y : Sy) (f l s w : Int) : Prop := (0 ≤ w ∧ w ≤ 1000000) ∧ (isHn y s ∨ isCh y s) ∧ (((0 ≤ f ∧ f < y.1) ∧ 0 ≤ l ∧ l ≤ y.2.1) ∨ (isHn y f ∧ (1 ≤ l ∧ l ≤ y.2.1) ∧ 1 ≤ w) ∨ (31 ≤ f ∧ s = f + 1 ∧ f + 1 ≤ 30 + (dgs y.2.2.2.1).length ∧ l = (dgs y.2.2.2.1).getD (f - 30).toNat 0 ∧ (1 ≤ l ∧ l ≤ y.2.1) ∧ w = 0))
theorem mkA.ok {y : Sy} (ok : okS y) {k : Nat} {r : Rl} (h1 : y.2.2.2.2[k]? = some r) {e d f l s w : Int} (hd : 0 ≤ d) (he : isHn y e ∨ isCh y e) (h : mkA r e d f l s w) : arcOK y f l s w := by
  have okr := ok.2.2.2.2.2 r (List.mem_of_getElem? h1)
  obtain ⟨o1, o2, o3, ⟨o4, o4b⟩, o5⟩ := okr
  have hdg := dgs_2 o4.1 o4b
  have hx := o4.2
  have hS := ok.1
  have hG := ok.2.1
  rcases h with ⟨n0, rfl, rfl, rfl, rfl, h6⟩ | ⟨n1, rfl, rfl, rfl, rfl, h6⟩ | ⟨n2, ⟨rfl, rfl, rfl, rfl⟩ | ⟨rfl, rfl, rfl, rfl, h6⟩⟩
  · exact ⟨by omega, he, Or.inl ⟨o3, by omega, by omega⟩⟩
  · obtain ⟨-, b1, b2, b3⟩ := (hdg.resolve_left (fun h => by have := h.1; omega)).resolve_right (fun h => by have := h.1; omega)
    have := hx r.2.2.2.1 (by rw [b3]; exact List.mem_cons_self)
    exact ⟨by omega, he, Or.inl ⟨o3, by omega, by omega⟩⟩
  · obtain ⟨-, b1, b2, b3⟩ := (hdg.resolve_left (fun h => by have := h.1; omega)).resolve_left (fun h => by have := h.1; omega)
    have := hx (r.2.2.2.1 / 10) (by rw [b3]; exact List.mem_cons_self)
    exact ⟨by omega, Or.inl ⟨_, _, o3, this, rfl⟩, Or.inl ⟨o3, by omega, by omega⟩⟩
  · obtain ⟨-, b1, b2, b3⟩ := (hdg.resolve_left (fun h => by have := h.1; omega)).resolve_left (fun h => by have := h.1; omega)
    have g1 := hx (r.2.2.2.1 / 10) (by rw [b3]; exact List.mem_cons_self)
    have g2 := hx (r.2.2.2.1 % 10) (by rw [b3]; exact List.mem_cons_of_mem _ List.mem_cons_self)
    exact ⟨by omega, he, Or.inr (Or.inl ⟨⟨_, _, o3, g1, rfl⟩, g2, by omega⟩)⟩
theorem getD_sym {y : Sy} (ok : okS y) {i : Nat} (hi : i < (dgs y.2.2.2.1).length) : 1 ≤ (dgs y.2.2.2.1).getD i 0 ∧ (dgs y.2.2.2.1).getD i 0 ≤ y.2.1 := by
  rw [List.getD_eq_getElem?_getD, List.getElem?_eq_getElem hi]
  exact ok.st.1 _ (List.getElem_mem hi)
theorem A0.ok {y : Sy} (ok : okS y) {f l s w : Int} (h : A0 y f l s w) : arcOK y f l s w := by
  obtain ⟨i, hi, rfl, rfl, rfl, rfl⟩ := h
  have g := getD_sym ok hi
  have h3 := ok.2.2.1
  refine ⟨by omega, Or.inr ⟨by omega, by omega⟩, ?_⟩
  by_cases e : i = 0
  · rw [if_pos e]
    exact Or.inl ⟨h3, by omega, by omega⟩
  · rw [if_neg e]
    exact Or.inr (Or.inr ⟨by omega, by omega, by omega, by rw [show ((30 : Int) + i - 30).toNat = i by omega], g, rfl⟩)
theorem AD.ok {y : Sy} (ok : okS y) {f l s w : Int} (h : AD y f l s w) : arcOK y f l s w := by
  obtain ⟨n, h⟩ := h
  induction n generalizing f l s w with
  | zero => exact A0.ok ok h
  | succ n ih =>
    rcases h with h | ⟨k, r, e, d, g1, g2, g3, g4⟩
    · exact ih h
    · rcases g2 with g2 | ⟨t, d1, d2, a, b, c⟩
      · exact g4.ok ok g1 (ih g2).1.1 (ih g2).2.1
      · have := (ih a).1.1
        have := (ih b).1.1
        exact g4.ok ok g1 (by omega) (ih b).2.1
theorem RDa.nn {y : Sy} (ok : okS y) {p x s d : Int} (h : RDa (AD y) p x s d) : 0 ≤ d ∧ (isHn y s ∨ isCh y s) := by
  rcases h with h | ⟨t, d1, d2, a, b, c⟩
  · exact ⟨(h.ok ok).1.1, (h.ok ok).2.1⟩
  · have := (a.ok ok).1.1
    have := (b.ok ok).1.1
    exact ⟨by omega, (b.ok ok).2.1⟩
/-- runs make readings -/
theorem rd_run {y : Sy} (ok : okS y) : ∀ (N n : Nat), n ≤ N → ∀ p x s d W, RDa (AD y) p x s d → d + W ≤ 1000000 → (∀ m, Run y.2.2.2.2 (-6) n p [x] m [] W → AD y m 0 s (d + W)) ∧ ∀ p' x', Run y.2.2.2.2 (-6) n p [x] p' [x'] W → RDa (AD y) p' x' s (d + W) := by
  have hw := okRs.w (S := y.1) (G := y.2.1) ok.2.2.2.2.2
  have key : ∀ (n : Nat), (∀ n', n' < n → ∀ p x s d W, RDa (AD y) p x s d → d + W ≤ 1000000 → (∀ m, Run y.2.2.2.2 (-6) n' p [x] m [] W → AD y m 0 s (d + W)) ∧ ∀ p' x', Run y.2.2.2.2 (-6) n' p [x] p' [x'] W → RDa (AD y) p' x' s (d + W)) → ∀ p x s d W, RDa (AD y) p x s d → d + W ≤ 1000000 → (∀ m, Run y.2.2.2.2 (-6) n p [x] m [] W → AD y m 0 s (d + W)) ∧ ∀ p' x', Run y.2.2.2.2 (-6) n p [x] p' [x'] W → RDa (AD y) p' x' s (d + W) := by
    intro n ih p x s d W hrd hlim
    have d0 := (hrd.nn ok).1
    match n, ih with
    | 0, ih =>
      refine ⟨fun m h => ?_, fun p' x' h => ?_⟩
      · cases h.2.1
      · obtain ⟨rfl, h2, rfl⟩ := h
        rw [← (List.cons.inj h2).1, Int.add_zero]
        exact hrd
    | n + 1, ih =>
      have main : ∀ (q : Int) (t : List Int), Run y.2.2.2.2 (-6) (n + 1) p [x] q t W → (t = [] → AD y q 0 s (d + W)) ∧ ∀ x', t = [x'] → RDa (AD y) q x' s (d + W) := by
        rintro q t ⟨k, r, s', h1, -, h3, h4, h5⟩
        obtain ⟨e1, e2⟩ := List.cons.inj h4
        subst e2
        rw [List.append_nil] at h5
        have okr := ok.2.2.2.2.2 r (List.mem_of_getElem? h1)
        have hdg := dgs_2 okr.2.2.2.1.1.1 okr.2.2.2.1.2
        have hle := h5.le hw
        have hwr := hw r (List.mem_of_getElem? h1)
        have hrd2 : RDa (AD y) r.1 r.2.1 s d := by rw [h3, ← e1]; exact hrd
        have mk : ∀ {f l s' w}, mkA r s d f l s' w → AD y f l s' w := fun h => AD.step h1 hrd2 (by omega) h
        rcases hdg with ⟨n0, b1, b2⟩ | ⟨n1, b1, b2, b3⟩ | ⟨n2, b1, b2, b3⟩
        · rw [b2] at h5
          obtain ⟨z1, z2, z3, z4⟩ := h5.nil
          refine ⟨fun _ => ?_, fun x' e => by rw [z3] at e; cases e⟩
          rw [← z2]
          exact mk (Or.inl ⟨n0, rfl, rfl, rfl, by omega, by omega⟩)
        · rw [b3] at h5
          have a1 := mk (f := r.2.2.1) (l := r.2.2.2.1) (s' := s) (w := d + r.2.2.2.2) (Or.inr (Or.inl ⟨n1, rfl, rfl, rfl, rfl, by omega⟩))
          have i1 := ih n (by omega) r.2.2.1 r.2.2.2.1 s (d + r.2.2.2.2) (W - r.2.2.2.2) (Or.inl a1) (by omega)
          rw [show d + r.2.2.2.2 + (W - r.2.2.2.2) = d + W by omega] at i1
          exact ⟨fun e => i1.1 q (by subst e; exact h5), fun x' e => i1.2 q x' (by subst e; exact h5)⟩
        · rw [b3] at h5
          have a1 := mk (f := r.2.2.1) (l := r.2.2.2.1 / 10) (s' := nodH r.2.2.1 (r.2.2.2.1 / 10)) (w := 0) (Or.inr (Or.inr ⟨n2, Or.inl ⟨rfl, rfl, rfl, rfl⟩⟩))
          have a2 := mk (f := nodH r.2.2.1 (r.2.2.2.1 / 10)) (l := r.2.2.2.1 % 10) (s' := s) (w := d + r.2.2.2.2) (Or.inr (Or.inr ⟨n2, Or.inr ⟨rfl, rfl, rfl, rfl, by omega⟩⟩))
          have two : ∀ (n1 : Nat) (m W1 : Int), n1 < n + 1 → 0 ≤ W1 → d + r.2.2.2.2 + W1 ≤ 1000000 → Run y.2.2.2.2 (-6) n1 r.2.2.1 [r.2.2.2.1 / 10] m [] W1 → RDa (AD y) m (r.2.2.2.1 % 10) s (W1 + (d + r.2.2.2.2)) := fun n1 m W1 l1 l0 l2 hR => by
            have := (ih n1 l1 r.2.2.1 (r.2.2.2.1 / 10) _ 0 W1 (Or.inl a1) (by omega)).1 m hR
            rw [Int.zero_add] at this
            exact Or.inr ⟨_, _, _, this, a2, rfl⟩
          rcases (show Run y.2.2.2.2 (-6) n r.2.2.1 ([r.2.2.2.1 / 10] ++ [r.2.2.2.1 % 10]) q t (W - r.2.2.2.2) from h5).split with ⟨t', g1, g2⟩ | ⟨n1, n2', m, W1, W2, g1, g2, g3, g4⟩
          · refine ⟨fun e => ?_, fun x' e => ?_⟩
            · rw [e] at g1
              exact absurd (congrArg List.length g1) (by rw [List.length_append]; show ¬ (0 = _ + 1); omega)
            · rw [e] at g1
              have l1 : t'.length = 0 := by
                have := congrArg List.length g1
                rw [List.length_append] at this
                have e9 : [x'].length = 1 := rfl
                have e8 : [r.2.2.2.1 % 10].length = 1 := rfl
                omega
              rw [List.length_eq_zero_iff.mp l1] at g1 g2
              rw [(List.cons.inj g1).1]
              have := two n q (W - r.2.2.2.2) (by omega) (by omega) (by omega) g2
              rw [show W - r.2.2.2.2 + (d + r.2.2.2.2) = d + W by omega] at this
              exact this
          · have l1 := g3.le hw
            have l2 := g4.le hw
            have h9 := two n1 m W1 (by omega) (by omega) (by omega) g3
            have i1 := ih n2' (by omega) m (r.2.2.2.1 % 10) s _ W2 h9 (by omega)
            rw [show W1 + (d + r.2.2.2.2) + W2 = d + W by omega] at i1
            exact ⟨fun e => i1.1 q (by subst e; exact g4), fun x' e => i1.2 q x' (by subst e; exact g4)⟩
      exact ⟨fun m h => (main m [] h).1 rfl, fun p' x' h => (main p' [x'] h).2 x' rfl⟩
  intro N
  induction N with
  | zero =>
    intro n hn
    have e : n = 0 := by omega
    subst e
    exact key 0 (fun n' h => absurd h (by omega))
  | succ N ih =>
    intro n hn
    exact key n (fun n' h => ih n' (by omega))
