/-! ===== Runs of a system, and what they cost ===== -/
/-- n rules lead from state p, stack s to state q, stack t, with the weight W; the rule ex is left out -/
def Run (rs : List Rl) (ex : Int) : Nat → Int → List Int → Int → List Int → Int → Prop
  | 0, p, s, q, t, W => p = q ∧ s = t ∧ W = 0
  | n + 1, p, s, q, t, W => ∃ (k : Nat) (r : Rl) (s' : List Int), rs[k]? = some r ∧ (k : Int) ≠ ex ∧ r.1 = p ∧ s = r.2.1 :: s' ∧ Run rs ex n r.2.2.1 (dgs r.2.2.2.1 ++ s') q t (W - r.2.2.2.2)
theorem Run.app {rs : List Rl} {ex : Int} (u : List Int) : ∀ {n : Nat} {p : Int} {s : List Int} {q : Int} {t : List Int} {W : Int}, Run rs ex n p s q t W → Run rs ex n p (s ++ u) q (t ++ u) W
  | 0, _, _, _, _, _, ⟨a, b, c⟩ => ⟨a, by rw [b], c⟩
  | n + 1, _, _, _, _, _, ⟨k, r, s', h1, h2, h3, h4, h5⟩ => ⟨k, r, s' ++ u, h1, h2, h3, by rw [h4]; rfl, by
      have := Run.app u h5
      rwa [List.append_assoc] at this⟩
theorem Run.trans {rs : List Rl} {ex : Int} {m : Nat} {q : Int} {t : List Int} {q2 : Int} {t2 : List Int} {W2 : Int} (h2 : Run rs ex m q t q2 t2 W2) : ∀ {n : Nat} {p : Int} {s : List Int} {W : Int}, Run rs ex n p s q t W → Run rs ex (n + m) p s q2 t2 (W + W2)
  | 0, p, s, W, ⟨a, b, c⟩ => by
    subst a; subst b; subst c
    rw [Nat.zero_add, Int.zero_add]
    exact h2
  | n + 1, p, s, W, ⟨k, r, s', g1, g2, g3, g4, g5⟩ => by
    rw [show n + 1 + m = (n + m) + 1 by omega]
    refine ⟨k, r, s', g1, g2, g3, g4, ?_⟩
    have := Run.trans h2 g5
    rwa [show W - r.2.2.2.2 + W2 = W + W2 - r.2.2.2.2 by omega] at this
theorem Run.split {rs : List Rl} {ex : Int} {u : List Int} {q : Int} {t : List Int} : ∀ {n : Nat} {p : Int} {s : List Int} {W : Int}, Run rs ex n p (s ++ u) q t W →
    (∃ t', t = t' ++ u ∧ Run rs ex n p s q t' W) ∨ ∃ (n1 n2 : Nat) (m W1 W2 : Int), n = n1 + n2 ∧ W = W1 + W2 ∧ Run rs ex n1 p s m [] W1 ∧ Run rs ex n2 m u q t W2
  | 0, p, s, W, ⟨a, b, c⟩ => Or.inl ⟨s, b.symm, a, rfl, c⟩
  | n + 1, p, [], W, h => Or.inr ⟨0, n + 1, p, 0, W, by omega, by omega, ⟨rfl, rfl, rfl⟩, h⟩
  | n + 1, p, x :: s, W, ⟨k, r, s', h1, h2, h3, h4, h5⟩ => by
    have e1 : x = r.2.1 := (List.cons.inj h4).1
    have e2 : s ++ u = s' := (List.cons.inj h4).2
    subst e2
    rw [← List.append_assoc] at h5
    rcases Run.split h5 with ⟨t', g1, g2⟩ | ⟨n1, n2, m, W1, W2, g1, g2, g3, g4⟩
    · exact Or.inl ⟨t', g1, k, r, s, h1, h2, h3, by rw [e1], g2⟩
    · exact Or.inr ⟨n1 + 1, n2, m, W1 + r.2.2.2.2, W2, by omega, by omega, ⟨k, r, s, h1, h2, h3, by rw [e1], by rw [show W1 + r.2.2.2.2 - r.2.2.2.2 = W1 by omega]; exact g3⟩, g4⟩
theorem Run.le {rs : List Rl} {ex : Int} (hw : ∀ r ∈ rs, 1 ≤ r.2.2.2.2) : ∀ {n : Nat} {p : Int} {s : List Int} {q : Int} {t : List Int} {W : Int}, Run rs ex n p s q t W → (n : Int) ≤ W
  | 0, _, _, _, _, _, ⟨_, _, c⟩ => by rw [c]; omega
  | n + 1, _, _, _, _, _, ⟨k, r, s', h1, h2, h3, h4, h5⟩ => by
    have a := Run.le hw h5
    have b := hw r (List.mem_of_getElem? h1)
    omega
/-- the cost of a rule, of a run: its weight times B and its count of rules -/
def cr (B : Int) (r : Rl) : Int := r.2.2.2.2 * B + 1
def RC (B : Int) (rs : List Rl) (ex p : Int) (s : List Int) (q : Int) (t : List Int) (c : Int) : Prop := ∃ (n : Nat) (W : Int), Run rs ex n p s q t W ∧ c = W * B + n
section Costs
variable {B : Int} {rs : List Rl} {ex : Int}
theorem RC.refl (p : Int) (s : List Int) : RC B rs ex p s p s 0 := ⟨0, 0, ⟨rfl, rfl, rfl⟩, by omega⟩
theorem RC.app {p : Int} {s : List Int} {q : Int} {t : List Int} {c : Int} (u : List Int) (h : RC B rs ex p s q t c) : RC B rs ex p (s ++ u) q (t ++ u) c := by
  obtain ⟨n, W, a, b⟩ := h
  exact ⟨n, W, a.app u, b⟩
theorem RC.trans {p : Int} {s : List Int} {q : Int} {t : List Int} {c : Int} {q2 : Int} {t2 : List Int} {c2 : Int} (h : RC B rs ex p s q t c) (h2 : RC B rs ex q t q2 t2 c2) : RC B rs ex p s q2 t2 (c + c2) := by
  obtain ⟨n, W, a, b⟩ := h
  obtain ⟨n2, W2, a2, b2⟩ := h2
  refine ⟨n + n2, W + W2, Run.trans a2 a, ?_⟩
  rw [b, b2, Int.add_mul]
  omega
theorem RC.step {k : Nat} {r : Rl} {s : List Int} {q : Int} {t : List Int} {c : Int} (h1 : rs[k]? = some r) (h2 : (k : Int) ≠ ex) (h : RC B rs ex r.2.2.1 (dgs r.2.2.2.1 ++ s) q t c) : RC B rs ex r.1 (r.2.1 :: s) q t (cr B r + c) := by
  obtain ⟨n, W, a, b⟩ := h
  refine ⟨n + 1, W + r.2.2.2.2, ⟨k, r, s, h1, h2, rfl, rfl, by rw [show W + r.2.2.2.2 - r.2.2.2.2 = W by omega]; exact a⟩, ?_⟩
  unfold cr
  rw [b, Int.add_mul]
  omega
theorem RC.first {p x : Int} {s : List Int} {q : Int} {t : List Int} {c : Int} (h : RC B rs ex p (x :: s) q t c) : (c = 0 ∧ p = q ∧ x :: s = t) ∨ ∃ (k : Nat) (r : Rl) (c1 : Int), rs[k]? = some r ∧ (k : Int) ≠ ex ∧ r.1 = p ∧ r.2.1 = x ∧ RC B rs ex r.2.2.1 (dgs r.2.2.2.1 ++ s) q t c1 ∧ c = cr B r + c1 := by
  obtain ⟨n, W, a, b⟩ := h
  match n, a, b with
  | 0, ⟨a1, a2, a3⟩, b => exact Or.inl ⟨by rw [b, a3]; omega, a1, a2⟩
  | n + 1, ⟨k, r, s', g1, g2, g3, g4, g5⟩, b =>
    have e1 : x = r.2.1 := (List.cons.inj g4).1
    have e2 : s = s' := (List.cons.inj g4).2
    subst e2
    refine Or.inr ⟨k, r, (W - r.2.2.2.2) * B + n, g1, g2, g3, e1.symm, ⟨n, _, g5, rfl⟩, ?_⟩
    unfold cr
    rw [b, Int.sub_mul]
    omega
theorem RC.empty {p q : Int} {t : List Int} {c : Int} (h : RC B rs ex p [] q t c) : c = 0 ∧ p = q ∧ t = [] := by
  obtain ⟨n, W, a, b⟩ := h
  match n, a, b with
  | 0, ⟨a1, a2, a3⟩, b => exact ⟨by rw [b, a3]; omega, a1, a2.symm⟩
  | n + 1, ⟨k, r, s', g1, g2, g3, g4, g5⟩, b => cases g4
theorem RC.split {p : Int} {s u : List Int} {q : Int} {t : List Int} {c : Int} (h : RC B rs ex p (s ++ u) q t c) : (∃ t', t = t' ++ u ∧ RC B rs ex p s q t' c) ∨ ∃ m c1 c2, RC B rs ex p s m [] c1 ∧ RC B rs ex m u q t c2 ∧ c = c1 + c2 := by
  obtain ⟨n, W, a, b⟩ := h
  rcases a.split with ⟨t', g1, g2⟩ | ⟨n1, n2, m, W1, W2, g1, g2, g3, g4⟩
  · exact Or.inl ⟨t', g1, n, W, g2, b⟩
  · refine Or.inr ⟨m, _, _, ⟨n1, W1, g3, rfl⟩, ⟨n2, W2, g4, rfl⟩, ?_⟩
    rw [b, g2, Int.add_mul, g1]
    omega
end Costs
/-- rules as the document has them, and a base that is large enough for the weights up to the limit -/
def okRs (S G : Int) (rs : List Rl) : Prop := ∀ r ∈ rs, okR S G r
theorem okRs.w {S G : Int} {rs : List Rl} (h : okRs S G rs) : ∀ r ∈ rs, 1 ≤ r.2.2.2.2 := fun r hr => (h r hr).2.2.2.2.1
theorem RC.nn {B : Int} {rs : List Rl} {ex p : Int} {s : List Int} {q : Int} {t : List Int} {c : Int} (hw : ∀ r ∈ rs, 1 ≤ r.2.2.2.2) (hB : 1 ≤ B) (h : RC B rs ex p s q t c) : 0 ≤ c := by
  obtain ⟨n, W, a, b⟩ := h
  have := a.le hw
  have h2 : 0 ≤ W * B := Int.mul_nonneg (by omega) (by omega)
  omega
theorem RC.state {B S G : Int} {rs : List Rl} {ex p : Int} {s : List Int} {q : Int} {t : List Int} {c : Int} (hw : okRs S G rs) (h : RC B rs ex p s q t c) (hp : 0 ≤ p ∧ p < S) : 0 ≤ q ∧ q < S := by
  obtain ⟨n, W, a, -⟩ := h
  induction n generalizing p s W with
  | zero => rw [← a.1]; exact hp
  | succ n ih =>
    obtain ⟨k, r, s', g1, g2, g3, g4, g5⟩ := a
    exact ih (hw r (List.mem_of_getElem? g1)).2.2.1 _ g5
/-- a word of at most two symbols -/
theorem dgs_2 {w : Int} (h0 : 0 ≤ w) (h : nd w ≤ 2) : (nd w = 0 ∧ w = 0 ∧ dgs w = []) ∨ (nd w = 1 ∧ 1 ≤ w ∧ w ≤ 9 ∧ dgs w = [w]) ∨ (nd w = 2 ∧ 10 ≤ w ∧ w ≤ 99 ∧ dgs w = [w / 10, w % 10]) := by
  by_cases h1 : w = 0
  · exact Or.inl ⟨nd_np (by omega), h1, dgs_np (by omega)⟩
  · by_cases h2 : w ≤ 9
    · refine Or.inr (Or.inl ⟨?_, by omega, h2, dgs1 (by omega)⟩)
      rw [← dgs_len, dgs1 (by omega)]; rfl
    · have h3 := nd_pos (z := w) (by omega)
      have h4 : nd (w / 10) = 1 := by
        have := nd_ge (z := w / 10) (by omega)
        omega
      have h5 : w / 10 ≤ 9 := by
        rcases Int.lt_or_le 9 (w / 10) with h6 | h6
        · have h7 := nd_pos (z := w / 10) (by omega)
          have := nd_ge (z := w / 10 / 10) (by omega)
          omega
        · exact h6
      refine Or.inr (Or.inr ⟨by omega, by omega, by omega, ?_⟩)
      have := dgs2 (d := w / 10) (e := w % 10) (by omega) (by omega)
      rwa [show w / 10 * 10 + w % 10 = w by omega] at this
/-! truncated least costs -/
def TMn (bd : Int) (P : Int → Prop) (v : Int) : Prop := v ≤ bd ∧ (v < bd → P v) ∧ ∀ c, P c → c < bd → v ≤ c
theorem TMn.uniq {bd : Int} {P : Int → Prop} {v w : Int} (h : TMn bd P v) (h2 : TMn bd P w) : v = w := by
  rcases Int.lt_trichotomy v w with h3 | h3 | h3
  · have a := h2.2.2 v (h.2.1 (by have := h2.1; omega)) (by have := h2.1; omega)
    omega
  · exact h3
  · have a := h.2.2 w (h2.2.1 (by have := h.1; omega)) (by have := h.1; omega)
    omega
theorem TMn.ex {bd : Int} {P : Int → Prop} (hP : ∀ c, P c → 0 ≤ c) (hb : 0 ≤ bd) : ∃ v, TMn bd P v := by
  by_cases h : ∃ c, P c ∧ c < bd
  · have key : ∀ n : Nat, ∀ c, P c → c < bd → c.toNat ≤ n → ∃ v, TMn bd P v := by
      intro n
      induction n with
      | zero =>
        intro c h1 h2 h3
        have := hP c h1
        exact ⟨c, by omega, fun _ => h1, fun d hd _ => by have := hP d hd; omega⟩
      | succ n ih =>
        intro c h1 h2 h3
        by_cases h4 : ∃ d, P d ∧ d < c
        · obtain ⟨d, d1, d2⟩ := h4
          have := hP d d1
          exact ih d d1 (by omega) (by omega)
        · exact ⟨c, by omega, fun _ => h1, fun d hd _ => by
            rcases Int.lt_or_le d c with h5 | h5
            · exact absurd ⟨d, hd, h5⟩ h4
            · exact h5⟩
    obtain ⟨c, c1, c2⟩ := h
    exact key c.toNat c c1 c2 (Nat.le_refl _)
  · exact ⟨bd, Int.le_refl _, fun h1 => by omega, fun c h1 h2 => absurd ⟨c, h1, h2⟩ h⟩
/-! rounds that lower a row: settled by the rank of the true values -/
def rnk (mu : Nat → Int) (N i : Nat) : Nat := (List.range N).countP (fun j => decide (mu j < mu i))
theorem rnk_lt {mu : Nat → Int} {N i j : Nat} (hj : j < N) (h : mu j < mu i) : rnk mu N j < rnk mu N i := by
  unfold rnk
  have key : ∀ l : List Nat, l.countP (fun k => decide (mu k < mu j)) + (if j ∈ l then 1 else 0) ≤ l.countP (fun k => decide (mu k < mu i)) := by
    intro l
    induction l with
    | nil => simp
    | cons a l ih =>
      rw [List.countP_cons, List.countP_cons]
      by_cases h1 : mu a < mu j
      · have e1 : decide (mu a < mu j) = true := by simpa using h1
        have e2 : decide (mu a < mu i) = true := by simp; omega
        rw [e1, e2]
        by_cases h2 : j ∈ l
        · rw [if_pos h2] at ih; rw [if_pos (List.mem_cons_of_mem _ h2)]; simp; omega
        · have h3 : j ≠ a := fun e => by rw [e] at h1; omega
          rw [if_neg h2] at ih
          rw [if_neg (fun q => (List.mem_cons.mp q).elim h3 h2)]
          simp; omega
      · have e1 : decide (mu a < mu j) = false := by simpa using h1
        rw [e1]
        by_cases h3 : j = a
        · subst h3
          have e2 : decide (mu j < mu i) = true := by simpa using h
          rw [e2, if_pos List.mem_cons_self]
          split at ih <;> simp <;> omega
        · by_cases h2 : j ∈ l
          · rw [if_pos h2] at ih; rw [if_pos (List.mem_cons_of_mem _ h2), if_neg Bool.false_ne_true]
            omega
          · rw [if_neg h2] at ih
            rw [if_neg (fun q => (List.mem_cons.mp q).elim h3 h2), if_neg Bool.false_ne_true]
            omega
  have := key (List.range N)
  rw [if_pos (List.mem_range.mpr hj)] at this
  omega
theorem rnk_N {mu : Nat → Int} {N i : Nat} (hi : i < N) : rnk mu N i < N := by
  unfold rnk
  have key : ∀ l : List Nat, i ∈ l → l.countP (fun k => decide (mu k < mu i)) < l.length := by
    intro l
    induction l with
    | nil => intro h; cases h
    | cons a l ih =>
      intro h
      rw [List.countP_cons, List.length_cons]
      rcases List.mem_cons.mp h with rfl | h
      · have e : decide (mu i < mu i) = false := by simp
        rw [e]
        have := List.countP_le_length (p := fun k => decide (mu k < mu i)) (l := l)
        simp
        omega
      · have := ih h
        split <;> omega
  have := key (List.range N) (List.mem_range.mpr hi)
  rwa [List.length_range] at this
def stl (mu v : Nat → Int) (N k : Nat) : Prop := ∀ i, i < N → rnk mu N i < k → v i = mu i
/-- a round lowers what its premises settle -/
def rndOK (bd : Int) (mu v v' : Nat → Int) (N : Nat) : Prop := ∀ i, i < N → (mu i ≤ v' i ∧ v' i ≤ v i ∧ v i ≤ bd) ∧ (mu i < bd → (∀ j, j < N → mu j < mu i → v j = mu j) → v' i ≤ mu i)
theorem stl.step {bd : Int} {mu v v' : Nat → Int} {N k : Nat} (h : stl mu v N k) (hr : rndOK bd mu v v' N) : stl mu v' N (k + 1) := by
  intro i hi hk
  obtain ⟨⟨a, b, c⟩, d⟩ := hr i hi
  by_cases h1 : mu i < bd
  · have := d h1 (fun j hj hlt => h j hj (by have := rnk_lt (N := N) hj hlt; omega))
    omega
  · omega
theorem stl.fix {bd : Int} {mu v v' : Nat → Int} {N : Nat} (hr : rndOK bd mu v v' N) (he : ∀ i, i < N → v' i = v i) : ∀ k, stl mu v N k := by
  intro k
  induction k with
  | zero => exact fun i _ h => by omega
  | succ k ih =>
    have := ih.step hr
    exact fun i hi hk => by rw [← he i hi]; exact this i hi hk
theorem stl.all {mu v : Nat → Int} {N : Nat} (h : stl mu v N N) : ∀ i, i < N → v i = mu i := fun i hi => h i hi (rnk_N hi)
