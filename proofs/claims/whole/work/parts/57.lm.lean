/-! ===== the lightest runs, and of them the shortest ===== -/
def RW (rs : List Rl) (ex p : Int) (s : List Int) (q : Int) (t : List Int) (W n : Int) : Prop := ∃ k : Nat, (k : Int) = n ∧ Run rs ex k p s q t W
theorem RC_RW {B : Int} {rs : List Rl} {ex p : Int} {s : List Int} {q : Int} {t : List Int} {c : Int} : RC B rs ex p s q t c ↔ ∃ W n, RW rs ex p s q t W n ∧ c = W * B + n :=
  ⟨fun ⟨n, W, h, e⟩ => ⟨W, n, ⟨n, rfl, h⟩, e⟩, fun ⟨W, _, ⟨k, e1, h⟩, e⟩ => ⟨k, W, h, by rw [e1]; exact e⟩⟩
theorem RW.le {rs : List Rl} {ex p : Int} {s : List Int} {q : Int} {t : List Int} {W n : Int} (hw : ∀ r ∈ rs, 1 ≤ r.2.2.2.2) (h : RW rs ex p s q t W n) : 0 ≤ n ∧ n ≤ W := by
  obtain ⟨k, e, h⟩ := h
  have := h.le hw
  omega
def lmP (rs : List Rl) (ex p : Int) (s : List Int) (q : Int) (t : List Int) (a : Int × Int) : Prop := RW rs ex p s q t a.1 a.2 ∧ a.1 ≤ 1000000 ∧ ∀ W n, RW rs ex p s q t W n → a.1 < W ∨ (a.1 = W ∧ a.2 ≤ n)
theorem lmP.uniq {rs : List Rl} {ex p : Int} {s : List Int} {q : Int} {t : List Int} {a b : Int × Int} (h : lmP rs ex p s q t a) (h2 : lmP rs ex p s q t b) : a = b := by
  have x := h.2.2 _ _ h2.1
  have y := h2.2.2 _ _ h.1
  exact Prod.ext (by omega) (by omega)
noncomputable def lm (rs : List Rl) (ex p : Int) (s : List Int) (q : Int) (t : List Int) : Option (Int × Int) := by
  classical
  exact if h : ∃ a, lmP rs ex p s q t a then some (Classical.choose h) else none
theorem lm_some {rs : List Rl} {ex p : Int} {s : List Int} {q : Int} {t : List Int} {a : Int × Int} : lm rs ex p s q t = some a ↔ lmP rs ex p s q t a := by
  unfold lm
  constructor
  · intro h
    by_cases hx : ∃ a, lmP rs ex p s q t a
    · rw [dif_pos hx] at h
      cases h
      exact Classical.choose_spec hx
    · rw [dif_neg hx] at h; cases h
  · intro h
    have hx : ∃ a, lmP rs ex p s q t a := ⟨a, h⟩
    rw [dif_pos hx]
    exact congrArg some ((Classical.choose_spec hx).uniq h)
theorem lm_none {rs : List Rl} {ex p : Int} {s : List Int} {q : Int} {t : List Int} (h : ∀ W n, RW rs ex p s q t W n → 1000000 < W) : lm rs ex p s q t = none := by
  unfold lm
  rw [dif_neg]
  rintro ⟨a, h1, h2, -⟩
  have := h _ _ h1
  omega
/-- what a truncated least cost tells of them, in the class's base and in the reference's -/
theorem lm_T {B bd : Int} (hB : B = 16777216 ∨ B = 2097152) (hbd : 1000001 * B ≤ bd) {rs : List Rl} {ex p : Int} {s : List Int} {q : Int} {t : List Int} {z : Int} (hw : ∀ r ∈ rs, 1 ≤ r.2.2.2.2) (h : TMn bd (RC B rs ex p s q t) z) : (z < 1000001 * B → lm rs ex p s q t = some (z / B, z % B) ∧ 0 ≤ z % B ∧ z % B ≤ z / B ∧ z = z / B * B + z % B) ∧ (1000001 * B ≤ z → lm rs ex p s q t = none) := by
  obtain ⟨h1, h2, h3⟩ := h
  have key : ∀ W n, RW rs ex p s q t W n → W ≤ 1000000 → z ≤ W * B + n := fun W n hr hW => by
    have := hr.le hw
    exact h3 _ (RC_RW.mpr ⟨W, n, hr, rfl⟩) (by rcases hB with rfl | rfl <;> omega)
  constructor
  · intro hz
    obtain ⟨W, n, hr, e⟩ := RC_RW.mp (h2 (by omega))
    have hl := hr.le hw
    have e1 : z / B = W ∧ z % B = n := by rcases hB with rfl | rfl <;> omega
    rw [e1.1, e1.2]
    refine ⟨lm_some.mpr ⟨hr, by rcases hB with rfl | rfl <;> (show W ≤ 1000000) <;> omega, fun W' n' hr' => ?_⟩, by omega, by omega, e⟩
    have hl' := hr'.le hw
    show W < W' ∨ (W = W' ∧ n ≤ n')
    by_cases h9 : W' ≤ 1000000
    · have := key W' n' hr' h9
      rcases hB with rfl | rfl <;> omega
    · rcases hB with rfl | rfl <;> omega
  · intro hz
    refine lm_none (fun W n hr => ?_)
    have hl := hr.le hw
    rcases Int.lt_or_le 1000000 W with h9 | h9
    · exact h9
    · have := key W n hr h9
      rcases hB with rfl | rfl <;> omega
theorem lm_C {y : Sy} (ok : okS y) {ex p : Int} {s : List Int} {q : Int} {t : List Int} {z : Int} (h : TMn NO (RC BB y.2.2.2.2 ex p s q t) z) : (0 ≤ z ∧ z ≤ 16777232777216) ∧ (z < 16777232777216 → lm y.2.2.2.2 ex p s q t = some (z / 16777216, z % 16777216) ∧ z % 16777216 ≤ z / 16777216) ∧ (16777232777216 ≤ z → lm y.2.2.2.2 ex p s q t = none) := by
  have hw := okRs.w (S := y.1) (G := y.2.1) ok.2.2.2.2.2
  have k := lm_T (Or.inl rfl) (by show 1000001 * 16777216 ≤ NO; unfold NO; omega) hw h
  have hNO := NO_def
  refine ⟨⟨?_, by have := h.1; omega⟩, fun hz => ?_, fun hz => k.2 (by omega)⟩
  · rcases Int.lt_or_le z NO with hl | hl
    · exact RC.nn hw (by unfold BB; omega) (h.2.1 hl)
    · omega
  · have := k.1 (by omega)
    exact ⟨this.1, this.2.2.1⟩
