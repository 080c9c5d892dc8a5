/-! ===== The text of rules, as the document has it ===== -/
def ch (T : Int → Int) (L f n a : Int) : Prop := a < L ∧ f ≤ T a ∧ T a < f + n
def thereR (l : List Rl) (p x q w : Int) : Prop := ∃ r ∈ l, r.1 = p ∧ r.2.1 = x ∧ r.2.2.1 = q ∧ r.2.2.2.1 = w
noncomputable def tkz (T : Int → Int) (L f n a : Int) : Int := by
  classical
  exact if ch T L f n a then T a - f else -1
noncomputable def tka (T : Int → Int) (L f n a : Int) : Int := by
  classical
  exact if ch T L f n a then a + 1 else a
theorem tk_t {T : Int → Int} {L f n a : Int} (h : ch T L f n a) : tkz T L f n a = T a - f ∧ tka T L f n a = a + 1 := ⟨if_pos h, if_pos h⟩
theorem tk_f {T : Int → Int} {L f n a : Int} (h : ¬ ch T L f n a) : tkz T L f n a = -1 ∧ tka T L f n a = a := ⟨if_neg h, if_neg h⟩
theorem tkz_R {T : Int → Int} {L f n a : Int} (hn : 0 ≤ n ∧ n ≤ 100) : -1 ≤ tkz T L f n a ∧ tkz T L f n a ≤ 100 := by
  by_cases h : ch T L f n a
  · rw [(tk_t h).1]; unfold ch at h; omega
  · rw [(tk_f h).1]; omega
theorem tkz_nn {T : Int → Int} {L f n a : Int} (h : 0 ≤ tkz T L f n a) : ch T L f n a := by
  by_cases h2 : ch T L f n a
  · exact h2
  · rw [(tk_f h2).1] at h; omega
theorem tkz_neg {T : Int → Int} {L f n a : Int} (h : tkz T L f n a < 0) : ¬ ch T L f n a := fun h2 => by
  rw [(tk_t h2).1] at h; unfold ch at h2; omega
/-- a word of 0 to 2 letters, and where it ends; a weight, and where it ends -/
noncomputable def pW (T : Int → Int) (L G a : Int) : Int × Int := by
  classical
  exact if ch T L 97 G a then (if ch T L 97 G (a + 1) then ((T a - 97 + 1) * 10 + (T (a + 1) - 97) + 1, a + 2) else (T a - 97 + 1, a + 1)) else (0, a)
noncomputable def pN (T : Int → Int) (L b : Int) : Int × Int := by
  classical
  exact if ch T L 48 10 (b + 1) then ((T b - 48) * 10 + (T (b + 1) - 48), b + 2) else (T b - 48, b + 1)
/-- an item at a: a fault, or where it ends and its rule -/
noncomputable def pItem (T : Int → Int) (L S G a : Int) (l : List Rl) : Int ⊕ (Int × Rl) := by
  classical
  exact if ¬ ch T L 48 S a then .inl a
    else if ¬ ch T L 97 G (a + 1) then .inl (a + 1)
    else if ¬ ch T L 62 1 (a + 2) then .inl (a + 2)
    else if ¬ ch T L 48 S (a + 3) then .inl (a + 3)
    else if ¬ ch T L 58 1 (pW T L G (a + 4)).2 then .inl (pW T L G (a + 4)).2
    else if ¬ ch T L 48 10 ((pW T L G (a + 4)).2 + 1) then .inl ((pW T L G (a + 4)).2 + 1)
    else if ¬ (1 ≤ (pN T L ((pW T L G (a + 4)).2 + 1)).1 ∧ (pN T L ((pW T L G (a + 4)).2 + 1)).1 ≤ 20) then .inl ((pW T L G (a + 4)).2 + 1)
    else if ¬ ch T L 59 1 (pN T L ((pW T L G (a + 4)).2 + 1)).2 then .inl (pN T L ((pW T L G (a + 4)).2 + 1)).2
    else if thereR l (T a - 48) (T (a + 1) - 97 + 1) (T (a + 3) - 48) (pW T L G (a + 4)).1 then .inl (pN T L ((pW T L G (a + 4)).2 + 1)).2
    else .inr ((pN T L ((pW T L G (a + 4)).2 + 1)).2 + 1, (T a - 48, T (a + 1) - 97 + 1, T (a + 3) - 48, (pW T L G (a + 4)).1, (pN T L ((pW T L G (a + 4)).2 + 1)).1))
/-- the items from a on, at most k of them -/
noncomputable def pT (T : Int → Int) (L S G : Int) : Nat → Int → List Rl → Int ⊕ List Rl
  | k, a, l => by
    classical
    exact if L ≤ a then .inr l else match k with
      | 0 => .inl a
      | k + 1 => match pItem T L S G a l with
        | .inl f => .inl f
        | .inr (a', r) => pT T L S G k a' (l ++ [r])
termination_by k => k
theorem pW_cases (T : Int → Int) (L G a : Int) : (ch T L 97 G a ∧ ch T L 97 G (a + 1) ∧ pW T L G a = ((T a - 97 + 1) * 10 + (T (a + 1) - 97) + 1, a + 2)) ∨ (ch T L 97 G a ∧ ¬ ch T L 97 G (a + 1) ∧ pW T L G a = (T a - 97 + 1, a + 1)) ∨ (¬ ch T L 97 G a ∧ pW T L G a = (0, a)) := by
  unfold pW
  by_cases h1 : ch T L 97 G a
  · by_cases h2 : ch T L 97 G (a + 1)
    · exact Or.inl ⟨h1, h2, by rw [if_pos h1, if_pos h2]⟩
    · exact Or.inr (Or.inl ⟨h1, h2, by rw [if_pos h1, if_neg h2]⟩)
  · exact Or.inr (Or.inr ⟨h1, by rw [if_neg h1]⟩)
theorem pN_cases (T : Int → Int) (L b : Int) : (ch T L 48 10 (b + 1) ∧ pN T L b = ((T b - 48) * 10 + (T (b + 1) - 48), b + 2)) ∨ (¬ ch T L 48 10 (b + 1) ∧ pN T L b = (T b - 48, b + 1)) := by
  unfold pN
  by_cases h1 : ch T L 48 10 (b + 1)
  · exact Or.inl ⟨h1, by rw [if_pos h1]⟩
  · exact Or.inr ⟨h1, by rw [if_neg h1]⟩
theorem dgs1 {d : Int} (h : 1 ≤ d ∧ d ≤ 9) : dgs d = [d] := by
  rw [dgs_pos (by omega), dgs_np (by omega), show d % 10 = d by omega]; rfl
theorem dgs2 {d e : Int} (h : 1 ≤ d ∧ d ≤ 9) (h2 : 0 ≤ e ∧ e ≤ 9) : dgs (d * 10 + e) = [d, e] := by
  rw [dgs_pos (by omega), show (d * 10 + e) / 10 = d by omega, show (d * 10 + e) % 10 = e by omega, dgs1 h]; rfl
theorem pW_ok (T : Int → Int) (L G a : Int) (hG : 1 ≤ G ∧ G ≤ 5) (ha : a ≤ L) : isW (pW T L G a).1 G ∧ nd (pW T L G a).1 ≤ 2 ∧ a ≤ (pW T L G a).2 ∧ (pW T L G a).2 ≤ L ∧ (pW T L G a).1 ≤ 99 := by
  rcases pW_cases T L G a with ⟨h1, h2, e⟩ | ⟨h1, h2, e⟩ | ⟨h1, e⟩
  · unfold ch at h1 h2
    have e2 : (T a - 97 + 1) * 10 + (T (a + 1) - 97) + 1 = (T a - 97 + 1) * 10 + (T (a + 1) - 97 + 1) := by omega
    have e3 := dgs2 (d := T a - 97 + 1) (e := T (a + 1) - 97 + 1) (by omega) (by omega)
    rw [e]
    show isW ((T a - 97 + 1) * 10 + (T (a + 1) - 97) + 1) G ∧ nd ((T a - 97 + 1) * 10 + (T (a + 1) - 97) + 1) ≤ 2 ∧ a ≤ a + 2 ∧ a + 2 ≤ L ∧ _ ≤ 99
    rw [e2]
    refine ⟨⟨by omega, fun d hd => ?_⟩, by rw [← dgs_len, e3]; exact Int.le_of_lt_add_one (by simp), by omega, by omega, by omega⟩
    rw [e3] at hd
    rcases List.mem_cons.mp hd with rfl | hd
    · omega
    · rw [List.mem_singleton.mp hd]; omega
  · unfold ch at h1
    have e3 := dgs1 (d := T a - 97 + 1) (by omega)
    rw [e]
    show isW (T a - 97 + 1) G ∧ nd (T a - 97 + 1) ≤ 2 ∧ a ≤ a + 1 ∧ a + 1 ≤ L ∧ _ ≤ 99
    refine ⟨⟨by omega, fun d hd => ?_⟩, by rw [← dgs_len, e3]; exact Int.le_of_lt_add_one (by simp), by omega, by omega, by omega⟩
    rw [e3] at hd
    rw [List.mem_singleton.mp hd]; omega
  · rw [e]
    show isW 0 G ∧ nd 0 ≤ 2 ∧ a ≤ a ∧ a ≤ L ∧ (0 : Int) ≤ 99
    exact ⟨⟨by omega, fun d hd => by rw [dgs_np (by omega)] at hd; cases hd⟩, by rw [nd_np (by omega)]; omega, by omega, ha, by omega⟩
theorem pN_ok (T : Int → Int) (L b : Int) (h : ch T L 48 10 b) : b < (pN T L b).2 ∧ (pN T L b).2 ≤ L ∧ 0 ≤ (pN T L b).1 ∧ (pN T L b).1 ≤ 99 := by
  unfold ch at h
  rcases pN_cases T L b with ⟨h1, e⟩ | ⟨h1, e⟩
  · unfold ch at h1
    rw [e]
    show b < b + 2 ∧ b + 2 ≤ L ∧ 0 ≤ (T b - 48) * 10 + (T (b + 1) - 48) ∧ (T b - 48) * 10 + (T (b + 1) - 48) ≤ 99
    omega
  · rw [e]
    show b < b + 1 ∧ b + 1 ≤ L ∧ 0 ≤ T b - 48 ∧ T b - 48 ≤ 99
    omega
theorem pItem_ok {T : Int → Int} {L S G a : Int} {l : List Rl} (hG : 1 ≤ G ∧ G ≤ 5) (ha : 0 ≤ a) (haL : a ≤ L) : (∀ f, pItem T L S G a l = .inl f → 0 ≤ f ∧ f ≤ L) ∧ ∀ b r, pItem T L S G a l = .inr (b, r) → okR S G r ∧ a < b ∧ b ≤ L := by
  generalize hp : pItem T L S G a l = R
  unfold pItem at hp
  have nn := @Classical.not_not
  split at hp
  · subst hp; exact ⟨fun f hf => by cases hf; exact ⟨ha, haL⟩, fun b r h => by cases h⟩
  rename_i h1; have h1 := nn.mp h1; have g1 := h1.1
  split at hp
  · subst hp; exact ⟨fun f hf => by cases hf; omega, fun b r h => by cases h⟩
  rename_i h2; have h2 := nn.mp h2; have g2 := h2.1
  split at hp
  · subst hp; exact ⟨fun f hf => by cases hf; omega, fun b r h => by cases h⟩
  rename_i h3; have h3 := nn.mp h3; have g3 := h3.1
  split at hp
  · subst hp; exact ⟨fun f hf => by cases hf; omega, fun b r h => by cases h⟩
  rename_i h4; have h4 := nn.mp h4; have g4 := h4.1
  have w := pW_ok T L G (a + 4) hG (by unfold ch at h4; omega)
  split at hp
  · subst hp; exact ⟨fun f hf => by cases hf; omega, fun b r h => by cases h⟩
  rename_i h5; have h5 := nn.mp h5; have g5 := h5.1
  split at hp
  · subst hp; exact ⟨fun f hf => by cases hf; omega, fun b r h => by cases h⟩
  rename_i h6; have h6 := nn.mp h6
  have v := pN_ok T L _ h6
  split at hp
  · subst hp; exact ⟨fun f hf => by cases hf; omega, fun b r h => by cases h⟩
  rename_i h7; have h7 := nn.mp h7
  split at hp
  · subst hp; exact ⟨fun f hf => by cases hf; omega, fun b r h => by cases h⟩
  rename_i h8; have h8 := nn.mp h8
  split at hp
  · subst hp; exact ⟨fun f hf => by cases hf; omega, fun b r h => by cases h⟩
  subst hp
  refine ⟨fun f hf => (by cases hf), fun b r h => ?_⟩
  cases h
  unfold ch at h1 h2 h4 h8
  exact ⟨⟨by show 0 ≤ T a - 48 ∧ T a - 48 < S; omega, by show 1 ≤ T (a + 1) - 97 + 1 ∧ T (a + 1) - 97 + 1 ≤ G; omega, by show 0 ≤ T (a + 3) - 48 ∧ T (a + 3) - 48 < S; omega, ⟨w.1, w.2.1⟩, h7⟩, by omega, by omega⟩
