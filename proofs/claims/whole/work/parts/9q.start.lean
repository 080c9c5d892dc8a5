/-! ===== the memory behind the two constructors ===== -/
def mem0 : Mem := fun p i =>
  if p = 6 then 7 + 2 * i
  else if p = 38 ∨ p = 40 then (if i = 0 then -6 else 0)
  else if p = 42 then (if i = 9 then 310 else if i = 0 then 16777232777216 else 0)
  else if p = 54 ∨ p = 66 then (if i = 9 then 6 else if i = 0 then 16777232777216 else 0)
  else if p = 117 then (if i = 0 then 2 else if i = 1 then 3 else if i = 4 then 1 else 0)
  else if kd p = (5, 4) then (if i = 0 then 2 else if i = 1 then 3 else if i = 3 then 1 else 0)
  else 0
def AS0 : AS := ((2, 3, 0, 1, []), [], [])
theorem okS0 : okS AS0.1 := by
  refine ⟨by decide, by decide, by decide, ?_, by decide, ?_⟩
  · have h1 : dgs 1 = [1] := by
      show dgN 1 = [1]
      unfold dgN
      simp
      unfold dgN
      simp
    have h2 : nd 1 = 1 := by
      show ((ndN 1 : Nat) : Int) = 1
      unfold ndN
      simp
      unfold ndN
      simp
    refine ⟨⟨by decide, fun d hd => ?_⟩, by rw [show nd AS0.1.2.2.2.1 = nd 1 from rfl, h2]; decide, by rw [show nd AS0.1.2.2.2.1 = nd 1 from rfl, h2]; decide⟩
    have hd : d ∈ dgs 1 := hd
    rw [h1] at hd
    have := List.mem_singleton.mp hd
    subst this
    decide
  · intro r hr
    cases hr
theorem KR0 : KR mem0 AS0 := by
  refine ⟨⟨⟨?_, ?_, ?_⟩, ?_⟩, ⟨?_, ?_, ?_⟩, ?_⟩
  · refine ⟨by rfl, by decide, okS0, fun i _ _ => ?_⟩
    have e : mem0 2 i = 0 := rfl
    rw [e]
    decide
  · refine ⟨⟨fun i h0 h1 => ?_, fun i j h0 h1 h2 h3 h => ?_⟩, by rfl, by decide, fun i h => by cases h⟩
    · have e : mem0 6 i = 7 + 2 * i := rfl
      rw [e]
      refine ⟨by omega, ?_⟩
      unfold isPU
      rcases (show i = 0 ∨ i = 1 ∨ i = 2 ∨ i = 3 ∨ i = 4 ∨ i = 5 ∨ i = 6 ∨ i = 7 by omega) with rfl | rfl | rfl | rfl | rfl | rfl | rfl | rfl <;> decide
    · have e : mem0 6 i = 7 + 2 * i := rfl
      have e2 : mem0 6 j = 7 + 2 * j := rfl
      omega
  · refine ⟨by rfl, by decide, ?_, ?_⟩
    · intro i h
      exact absurd h (Nat.not_lt_zero i)
    · intro c h
      cases h
  · exact ⟨Or.inl (by rfl), Or.inl (by rfl), Or.inl (by rfl), by rfl, by rfl, by rfl, by rfl, fun i h => by cases h⟩
  · refine ⟨by rfl, by decide, okS0, fun i h0 h1 => ?_⟩
    have e : mem0 117 (0 + i) = 0 := by
      show (if (0 : Int) + i = 0 then (2 : Int) else if (0 : Int) + i = 1 then 3 else if (0 : Int) + i = 4 then 1 else 0) = 0
      rw [if_neg (by omega), if_neg (by omega), if_neg (by omega)]
    rw [e]
    decide
  · exact ⟨by rfl, by decide, fun i h => by cases h⟩
  · refine ⟨by rfl, by decide, ?_, ?_⟩
    · intro i h
      exact absurd h (Nat.not_lt_zero i)
    · intro c h
      cases h
  · exact Or.inl (by rfl)
