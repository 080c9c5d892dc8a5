/-! ===== The world of this claim: 128 places that hold the class's and the reference's objects and rows; a memory is a function from place and index to an integer; references are places. ===== -/
abbrev AV : Type := Int ⊕ Int ⊕ Nat ⊕ UInt32 ⊕ UInt64 ⊕ Unit
def aI (z : Int) : AV := .inl z
def aL (z : Int) : AV := .inr (.inl z)
def aR (p : Nat) : AV := .inr (.inr (.inl p))
def aF (b : UInt32) : AV := .inr (.inr (.inr (.inl b)))
def aD (b : UInt64) : AV := .inr (.inr (.inr (.inr (.inl b))))
def aU : AV := .inr (.inr (.inr (.inr (.inr ()))))
abbrev Mem : Type := Nat → Int → Int
/-- an abstract value, at these addresses -/
def cv (ad : Nat → Nat) : AV → Value
  | .inl z => .int (Int32.ofInt z)
  | .inr (.inl z) => .long (Int64.ofInt z)
  | .inr (.inr (.inl p)) => .ref (ad p)
  | .inr (.inr (.inr (.inl b))) => .float b
  | .inr (.inr (.inr (.inr (.inl b)))) => .double b
  | .inr (.inr (.inr (.inr (.inr _)))) => .null
/-- how many words it takes -/
def ctg : AV → Nat
  | .inr (.inl _) => 2
  | .inr (.inr (.inr (.inr (.inl _)))) => 2
  | _ => 1
theorem cv_ctg (ad : Nat → Nat) (v : AV) : (cv ad v).category = ctg v := by
  rcases v with z | z | p | b | b | u <;> rfl
/-- what a method answers: nothing, or a value -/
def rv (ad : Nat → Nat) : AV → Option Value
  | .inr (.inr (.inr (.inr (.inr _)))) => none
  | v => some (cv ad v)
/-- one place's row changed at one index; a memory changed at one place and index -/
def ui (f : Int → Int) (i z : Int) : Int → Int := fun j => if j = i then z else f j
def um (mem : Mem) (p : Nat) (i z : Int) : Mem := fun q => if q = p then ui (mem p) i z else mem q
theorem ui_same (f : Int → Int) (i z : Int) : ui f i z i = z := if_pos rfl
theorem ui_ne (f : Int → Int) {i j : Int} (z : Int) (h : j ≠ i) : ui f i z j = f j := if_neg h
theorem um_same (mem : Mem) (p : Nat) (i z : Int) : um mem p i z p = ui (mem p) i z := if_pos rfl
theorem um_ne (mem : Mem) {p q : Nat} (i z : Int) (h : q ≠ p) : um mem p i z q = mem q := if_neg h
def NP : Nat := 128
/-- what stands at a place: (0, n) a row of n ints, 1 of longs, 2 of booleans, 3 of rows of longs, 4 of Setups; (5, c) an object of the class c -/
def kdL : List (Nat × Nat) := [(5, 9), (5, 4), (0, 100), (5, 4), (0, 100), (5, 0), (4, 8),
  (5, 4), (0, 100), (5, 4), (0, 100), (5, 4), (0, 100), (5, 4), (0, 100), (5, 4), (0, 100), (5, 4), (0, 100), (5, 4), (0, 100), (5, 4), (0, 100),
  (5, 6), (0, 200), (5, 8), (0, 10), (5, 8), (0, 10),
  (5, 2), (5, 8), (0, 10), (0, 20), (0, 20), (0, 20), (0, 20), (0, 20), (1, 20),
  (5, 5), (1, 80), (5, 5), (1, 80),
  (5, 3), (0, 6), (3, 6), (1, 20), (1, 20), (1, 20), (1, 20), (1, 20), (1, 20), (0, 310), (1, 1244), (2, 311),
  (5, 3), (0, 6), (3, 6), (1, 20), (1, 20), (1, 20), (1, 20), (1, 20), (1, 20), (0, 6), (1, 28), (2, 7),
  (5, 3), (0, 6), (3, 6), (1, 20), (1, 20), (1, 20), (1, 20), (1, 20), (1, 20), (0, 6), (1, 28), (2, 7),
  (5, 7), (0, 301), (0, 301), (0, 301), (0, 301),
  (5, 1), (0, 4032), (3, 24), (1, 20), (1, 20), (1, 20), (1, 20), (1, 20), (1, 20), (1, 20), (1, 20), (1, 20), (1, 20), (1, 20), (1, 20),
  (1, 20), (1, 20), (1, 20), (1, 20), (1, 20), (1, 20), (1, 20), (1, 20), (1, 20), (1, 20), (1, 20), (1, 20), (1, 24), (2, 20), (0, 20), (0, 504), (0, 504), (0, 504),
  (5, 10), (0, 105), (0, 840), (0, 200), (1, 605), (0, 320), (1, 3531), (0, 7350), (0, 280), (0, 35), (0, 35), (0, 105)]
def kd (p : Nat) : Nat × Nat := kdL.getD p (6, 0)
/-- the place that a reference field of the object at p holds, or that a row of rows holds: they never change -/
def rf (p k : Nat) : Nat := match kd p with
  | (3, _) => p + 1 + k
  | (5, 0) => p + 1
  | (5, 1) => (match k with | 2 => 29 | 3 => 38 | 4 => p + 1 | 5 => p + 2 | 6 => p + 27 | 7 => p + 28 | 8 => p + 29 | 10 => p + 30 | 11 => p + 31 | _ => p + 32)
  | (5, 2) => (match k with | 3 => p + 1 | 4 => p + 3 | 5 => p + 4 | 6 => p + 5 | 7 => p + 6 | 8 => p + 7 | _ => p + 8)
  | (5, 3) => (match k with | 5 => p + 1 | 6 => p + 2 | 7 => 29 | 8 => (if p = 66 then 40 else 38) | 10 => p + 9 | 11 => p + 10 | _ => p + 11)
  | (5, 4) => p + 1
  | (5, 5) => (match k with | 1 => 29 | _ => p + 1)
  | (5, 6) => p + 1
  | (5, 7) => (match k with | 4 => p + 1 | 5 => p + 2 | 6 => p + 3 | _ => p + 4)
  | (5, 8) => p + 1
  | (5, 9) => (match k with | 0 => 1 | 1 => 3 | 2 => 5 | 3 => 23 | 4 => 25 | 5 => 27 | 6 => 29 | 7 => 38 | 8 => 40 | 9 => 42 | 10 => 54 | 11 => 66 | 12 => 78 | _ => 83)
  | (5, 10) => (match k with | 0 => p + 1 | 1 => p + 2 | 4 => p + 3 | 6 => p + 4 | 9 => p + 5 | 10 => p + 6 | 12 => p + 7 | 13 => p + 8 | 14 => p + 9 | 15 => p + 10 | _ => p + 11)
  | _ => 0
/-- the types of a class's fields, how many they are, and their kind: 0 an int or boolean, 1 a long, 2 a reference -/
def tyC (c : Nat) : Nat → FieldType := match c with
  | 0 => tyX0 | 1 => tyX1 | 2 => tyX2 | 3 => tyX3 | 4 => tyX4 | 5 => tyX5 | 6 => tyX6 | 7 => tyX7 | 8 => tyX8 | 9 => tyX9 | _ => tyX10
def nf (c : Nat) : Nat := match c with
  | 0 => 2 | 1 => 13 | 2 => 10 | 3 => 13 | 4 => 6 | 5 => 3 | 6 => 3 | 7 => 8 | 8 => 2 | 9 => 15 | _ => 20
def fk (t : FieldType) : Nat := match t with
  | .int => 0 | .boolean => 0 | .long => 1 | _ => 2
/-- the numbers of the classes and of their slots; of the row classes: int, long, boolean, rows of longs, Setups -/
abbrev WG : Type := va_G × (ClassId × ClassId × ClassId × ClassId × ClassId)
def tysW (G : WG) : List (ClassId × FieldType) := [(G.2.1, .int), (G.2.2.1, .long), (G.2.2.2.1, .boolean), (G.2.2.2.2.1, .array .long), (G.2.2.2.2.2, .object "StackLab$Setup")]
def fv (ad : Nat → Nat) (mem : Mem) (p c k : Nat) : Value := match fk (tyC c k) with
  | 0 => .int (Int32.ofInt (mem p k))
  | 1 => .long (Int64.ofInt (mem p k))
  | _ => .ref (ad (rf p k))
def cellOf (G : WG) (ad : Nat → Nat) (mem : Mem) (p : Nat) : va_E := match kd p with
  | (0, n) => .inl (G.2.1, n, .inl (fun k => Int32.ofInt (mem p k)))
  | (1, n) => .inl (G.2.2.1, n, .inr (.inl (fun k => Int64.ofInt (mem p k))))
  | (2, n) => .inl (G.2.2.2.1, n, .inl (fun k => Int32.ofInt (mem p k)))
  | (3, n) => .inl (G.2.2.2.2.1, n, .inr (.inr (.inr (.inr (fun k => some (ad (rf p k)))))))
  | (4, n) => .inl (G.2.2.2.2.2, n, .inr (.inr (.inr (.inr (fun k => some (ad (mem p k).toNat))))))
  | (_, c) => .inr (c, (List.range (nf c)).map (fv ad mem p c))
def WS (G : WG) (ad : Nat → Nat) (mem : Mem) : va_W := (List.range NP).map (fun p => (ad p, cellOf G ad mem p))
theorem WS_at (G : WG) (ad : Nat → Nat) (mem : Mem) {p : Nat} (h : p < NP) : (WS G ad mem)[p]? = some (ad p, cellOf G ad mem p) := by
  simp [WS, List.getElem?_map, List.getElem?_range h]
theorem WS_of {G : WG} {ad : Nat → Nat} {mem : Mem} {k : Nat} {q : Nat × va_E} (h : (WS G ad mem)[k]? = some q) : k < NP ∧ q = (ad k, cellOf G ad mem k) := by
  have hl : k < (WS G ad mem).length := (List.getElem?_eq_some_iff.mp h).1
  have hk : k < NP := by simpa [WS] using hl
  exact ⟨hk, Option.some.inj (h.symm.trans (WS_at G ad mem hk))⟩
/-- a memory changed at the place p: the world changed at p -/
theorem WS_set {G : WG} {ad : Nat → Nat} {mem mem' : Mem} {p : Nat} {e : va_E} (hp : p < NP) (he : e = cellOf G ad mem' p) (ho : ∀ q, q ≠ p → mem' q = mem q) : (WS G ad mem).set p (ad p, e) = WS G ad mem' := by
  apply List.ext_getElem?
  intro k
  by_cases hk : k < NP
  · by_cases hkp : k = p
    · subst hkp
      rw [List.getElem?_set_self (by simpa [WS] using hk), WS_at _ _ _ hk, he]
    · rw [List.getElem?_set_ne (Ne.symm hkp), WS_at _ _ _ hk, WS_at _ _ _ hk]
      have h1 : mem' k = mem k := ho k hkp
      have h3 : fv ad mem' k = fv ad mem k := by
        funext c j
        simp only [fv, h1]
      have h2 : cellOf G ad mem' k = cellOf G ad mem k := by
        unfold cellOf
        simp only [h1, h3]
      rw [h2]
  · rw [List.getElem?_eq_none (by simpa [WS] using Nat.le_of_not_lt hk), List.getElem?_eq_none (by simpa [WS] using Nat.le_of_not_lt hk)]
/-- the words that every method has: those of the tables that stay -/
def gw : List Cond := lw_tbl.filter goodWord
theorem gw_in {w : Cond} (h : w ∈ lw_tbl) (hg : goodWord w = true) : w ∈ gw := List.mem_filter.mpr ⟨h, hg⟩
theorem gw_good {ws : List Cond} (h : ∀ w ∈ ws, w ∈ gw) : GoodIn gw ws := fun w hw => ⟨h w hw, good_of_word (List.mem_filter.mp (h w hw)).2⟩
theorem inX0 : ∀ w ∈ u_ws RX0 TX0 2, w ∈ lw_tbl := by decide +kernel
theorem inX1 : ∀ w ∈ u_ws RX1 TX1 13, w ∈ lw_tbl := by decide +kernel
theorem inX2 : ∀ w ∈ u_ws RX2 TX2 10, w ∈ lw_tbl := by decide +kernel
theorem inX3 : ∀ w ∈ u_ws RX3 TX3 13, w ∈ lw_tbl := by decide +kernel
theorem inX4 : ∀ w ∈ u_ws RX4 TX4 6, w ∈ lw_tbl := by decide +kernel
theorem inX5 : ∀ w ∈ u_ws RX5 TX5 3, w ∈ lw_tbl := by decide +kernel
theorem inX6 : ∀ w ∈ u_ws RX6 TX6 3, w ∈ lw_tbl := by decide +kernel
theorem inX7 : ∀ w ∈ u_ws RX7 TX7 8, w ∈ lw_tbl := by decide +kernel
theorem inX8 : ∀ w ∈ u_ws RX8 TX8 2, w ∈ lw_tbl := by decide +kernel
theorem inX9 : ∀ w ∈ u_ws RX9 TX9 15, w ∈ lw_tbl := by decide +kernel
theorem inX10 : ∀ w ∈ u_ws RX10 TX10 20, w ∈ lw_tbl := by decide +kernel
theorem lay_good (C : String) (T : u_T) (N : Nat) : ∀ w ∈ u_ws C T N, goodWord w = true := by
  intro w hw
  obtain ⟨k, -, rfl⟩ := List.mem_map.mp hw
  unfold u_lay
  split <;> rfl
theorem inW {c : Nat} {q : vw_C} (h : vwCl[c]? = some q) : ∀ w ∈ u_ws q.1 q.2.1 q.2.2, w ∈ gw := by
  have key : ∀ w ∈ u_ws q.1 q.2.1 q.2.2, w ∈ lw_tbl := by
    match c, h with
    | 0, h => cases h; exact inX0
    | 1, h => cases h; exact inX1
    | 2, h => cases h; exact inX2
    | 3, h => cases h; exact inX3
    | 4, h => cases h; exact inX4
    | 5, h => cases h; exact inX5
    | 6, h => cases h; exact inX6
    | 7, h => cases h; exact inX7
    | 8, h => cases h; exact inX8
    | 9, h => cases h; exact inX9
    | 10, h => cases h; exact inX10
    | k + 11, h => simp [vwCl] at h
  exact fun w hw => gw_in (key w hw) (lay_good _ _ _ w hw)
theorem tyW {c : Nat} {q : vw_C} (h : vwCl[c]? = some q) : ∀ k, k < q.2.2 → parseFieldDescriptor (q.2.1 k).2.2.1 = some (tyC c k) := by
  match c, h with
  | 0, h => cases h; exact tyX0_ok
  | 1, h => cases h; exact tyX1_ok
  | 2, h => cases h; exact tyX2_ok
  | 3, h => cases h; exact tyX3_ok
  | 4, h => cases h; exact tyX4_ok
  | 5, h => cases h; exact tyX5_ok
  | 6, h => cases h; exact tyX6_ok
  | 7, h => cases h; exact tyX7_ok
  | 8, h => cases h; exact tyX8_ok
  | 9, h => cases h; exact tyX9_ok
  | 10, h => cases h; exact tyX10_ok
  | k + 11, h => simp [vwCl] at h
theorem nmW {c : Nat} {q : vw_C} (h : vwCl[c]? = some q) : ∀ a, a < q.2.2 → ∀ b, b < q.2.2 → a ≠ b → (q.2.1 a).2.1 ≠ (q.2.1 b).2.1 := by
  match c, h with
  | 0, h => cases h; exact nmX0
  | 1, h => cases h; exact nmX1
  | 2, h => cases h; exact nmX2
  | 3, h => cases h; exact nmX3
  | 4, h => cases h; exact nmX4
  | 5, h => cases h; exact nmX5
  | 6, h => cases h; exact nmX6
  | 7, h => cases h; exact nmX7
  | 8, h => cases h; exact nmX8
  | 9, h => cases h; exact nmX9
  | 10, h => cases h; exact nmX10
  | k + 11, h => simp [vwCl] at h
theorem nfW {c : Nat} {q : vw_C} (h : vwCl[c]? = some q) : nf c = q.2.2 := by
  match c, h with
  | 0, h => cases h; rfl
  | 1, h => cases h; rfl
  | 2, h => cases h; rfl
  | 3, h => cases h; rfl
  | 4, h => cases h; rfl
  | 5, h => cases h; rfl
  | 6, h => cases h; rfl
  | 7, h => cases h; rfl
  | 8, h => cases h; rfl
  | 9, h => cases h; rfl
  | 10, h => cases h; rfl
  | k + 11, h => simp [vwCl] at h
