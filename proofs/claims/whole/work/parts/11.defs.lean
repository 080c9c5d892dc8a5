/-! ===== Numbers as words; rules and systems; the words of the proof ===== -/
def ndN (n : Nat) : Nat := if h : n = 0 then 0 else ndN (n / 10) + 1
termination_by n
decreasing_by omega
def dgN (n : Nat) : List Int := if h : n = 0 then [] else dgN (n / 10) ++ [((n % 10 : Nat) : Int)]
termination_by n
decreasing_by omega
/-- how many digits a number has, 0 for one that is not positive; its digits, the first one the highest -/
def nd (z : Int) : Int := ndN z.toNat
def dgs (z : Int) : List Int := dgN z.toNat
theorem ndN_zero : ndN 0 = 0 := by rw [ndN]; rfl
theorem ndN_pos {n : Nat} (h : n ≠ 0) : ndN n = ndN (n / 10) + 1 := by rw [ndN, dif_neg h]
theorem dgN_zero : dgN 0 = [] := by rw [dgN]; rfl
theorem dgN_pos {n : Nat} (h : n ≠ 0) : dgN n = dgN (n / 10) ++ [((n % 10 : Nat) : Int)] := by rw [dgN, dif_neg h]
theorem dgN_len (n : Nat) : (dgN n).length = ndN n := by
  induction n using Nat.strongRecOn with
  | _ n ih =>
    by_cases h : n = 0
    · subst h; rw [dgN_zero, ndN_zero]; rfl
    · rw [dgN_pos h, ndN_pos h, List.length_append, ih (n / 10) (by omega)]; rfl
theorem nd_np {z : Int} (h : z ≤ 0) : nd z = 0 := by unfold nd; rw [Int.toNat_of_nonpos h, ndN_zero]; rfl
theorem nd_pos {z : Int} (h : 0 < z) : nd z = nd (z / 10) + 1 := by
  unfold nd
  rw [ndN_pos (by omega), show z.toNat / 10 = (z / 10).toNat by omega]
  omega
theorem nd_nn (z : Int) : 0 ≤ nd z := by unfold nd; omega
theorem nd_lt {k : Nat} : ∀ {z : Int}, z < 10 ^ k → nd z ≤ k := by
  induction k with
  | zero =>
    intro z h
    rw [nd_np (by simp at h; omega)]
    omega
  | succ k ih =>
    intro z h
    by_cases hz : 0 < z
    · rw [nd_pos hz]
      have h1 : z / 10 < 10 ^ k := by
        rw [Int.pow_succ] at h
        omega
      have := ih h1
      omega
    · rw [nd_np (by omega)]
      omega
theorem nd_10 {z : Int} (h : z ≤ 2147483647) : nd z ≤ 10 := nd_lt (k := 10) (by omega)
theorem nd_ge {z : Int} (h : 0 < z) : 1 ≤ nd z := by rw [nd_pos h]; have := nd_nn (z / 10); omega
theorem dgs_np {z : Int} (h : z ≤ 0) : dgs z = [] := by unfold dgs; rw [Int.toNat_of_nonpos h, dgN_zero]
theorem dgs_pos {z : Int} (h : 0 < z) : dgs z = dgs (z / 10) ++ [z % 10] := by
  unfold dgs
  rw [dgN_pos (by omega), show z.toNat / 10 = (z / 10).toNat by omega]
  congr 2
  omega
theorem dgs_len (z : Int) : ((dgs z).length : Int) = nd z := by unfold dgs nd; rw [dgN_len]
/-- a word over the symbols 1 to g -/
def isW (z g : Int) : Prop := 0 ≤ z ∧ ∀ d ∈ dgs z, 1 ≤ d ∧ d ≤ g
/-- a rule: state, symbol, new state, word, weight; a system: states, symbols, start state, start word, rules -/
abbrev Rl : Type := Int × Int × Int × Int × Int
abbrev Sy : Type := Int × Int × Int × Int × List Rl
def rl5 (f : Int → Int) (o : Int) : Rl := (f o, f (o + 1), f (o + 2), f (o + 3), f (o + 4))
def rls (f : Int → Int) (o : Int) (n : Nat) : List Rl := (List.range n).map (fun (k : Nat) => rl5 f (o + 5 * (k : Int)))
theorem rls_len (f : Int → Int) (o : Int) (n : Nat) : (rls f o n).length = n := by simp [rls]
theorem rls_at (f : Int → Int) (o : Int) {n k : Nat} (h : k < n) : (rls f o n)[k]? = some (rl5 f (o + 5 * k)) := by
  unfold rls
  rw [List.getElem?_map, List.getElem?_range h]
  rfl
theorem rls_ext {f g : Int → Int} {o u : Int} {n : Nat} (h : ∀ i : Int, 0 ≤ i → i < 5 * (n : Int) → f (o + i) = g (u + i)) : rls f o n = rls g u n := by
  unfold rls
  apply List.map_congr_left
  intro k hk
  have hk := List.mem_range.mp hk
  unfold rl5
  have e : ∀ j : Int, 0 ≤ j → j < 5 → f (o + 5 * k + j) = g (u + 5 * k + j) := fun j h0 h1 => by
    rw [Int.add_assoc, Int.add_assoc]
    exact h _ (by omega) (by omega)
  have e0 := e 0 (by omega) (by omega)
  rw [Int.add_zero, Int.add_zero] at e0
  rw [e0, e 1 (by omega) (by omega), e 2 (by omega) (by omega), e 3 (by omega) (by omega), e 4 (by omega) (by omega)]
def syC (m : Mem) (b : Nat) : Sy := (m b 0, m b 1, m b 2, m b 3, rls (m (b + 1)) 0 (m b 4).toNat)
/-- a rule of a system with s states and g symbols -/
def okR (s g : Int) (r : Rl) : Prop := (0 ≤ r.1 ∧ r.1 < s) ∧ (1 ≤ r.2.1 ∧ r.2.1 ≤ g) ∧ (0 ≤ r.2.2.1 ∧ r.2.2.1 < s) ∧ (isW r.2.2.2.1 g ∧ nd r.2.2.2.1 ≤ 2) ∧ (1 ≤ r.2.2.2.2 ∧ r.2.2.2.2 ≤ 20)
/-- a system as the document has it -/
def okS (y : Sy) : Prop := (1 ≤ y.1 ∧ y.1 ≤ 4) ∧ (1 ≤ y.2.1 ∧ y.2.1 ≤ 5) ∧ (0 ≤ y.2.2.1 ∧ y.2.2.1 < y.1) ∧ (isW y.2.2.2.1 y.2.1 ∧ 1 ≤ nd y.2.2.2.1 ∧ nd y.2.2.2.1 ≤ 4) ∧ y.2.2.2.2.length ≤ 20 ∧ ∀ r ∈ y.2.2.2.2, okR y.1 y.2.1 r
