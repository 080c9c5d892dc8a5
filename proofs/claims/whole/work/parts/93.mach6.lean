/-! ===== Machine: the table and the rows, as the document has them ===== -/
theorem tg_of {y : Sy} (ok : okS y) {k : Nat} {r : Rl} (hr : y.2.2.2.2[k]? = some r) {e d f l s w : Int} (h : mkA r e d f l s w) : (nd r.2.2.2.1 = 2 ∧ f = r.2.2.1 ∧ l = r.2.2.2.1 / 10 ∧ s = nodH r.2.2.1 (r.2.2.2.1 / 10) ∧ w = 0) ∨ (f = nodS (tgS r) ∧ l = tgL r ∧ s = e ∧ w = d + r.2.2.2.2 ∧ w ≤ 1000000) := by
  have okr := ok.2.2.2.2.2 r (List.mem_of_getElem? hr)
  obtain ⟨c1, c2, c3⟩ := rl_cases okr ok.2.1.2 ok.1.2
  have hS := ok.1
  have hG := ok.2.1
  have q0 := okr.2.2.1
  rcases h with ⟨n0, a1, a2, a3, a4, a5⟩ | ⟨n1, a1, a2, a3, a4, a5⟩ | ⟨n2, ⟨a1, a2, a3, a4⟩ | ⟨a1, a2, a3, a4, a5⟩⟩
  · refine Or.inr ⟨?_, ?_, a3, a4, a5⟩
    · unfold tgS nodS
      rw [if_neg (show ¬ nd r.2.2.2.1 = 2 by omega), if_pos (by omega)]; exact a1
    · unfold tgL
      rw [if_pos n0]; exact a2
  · refine Or.inr ⟨?_, ?_, a3, a4, a5⟩
    · unfold tgS nodS
      rw [if_neg (show ¬ nd r.2.2.2.1 = 2 by omega), if_pos (by omega)]; exact a1
    · unfold tgL
      rw [if_neg (by omega), if_pos n1]; exact a2
  · exact Or.inl ⟨n2, a1, a2, a3, a4⟩
  · obtain ⟨-, z2, z3, z4, z5, z6, z7⟩ := (c3.resolve_left (fun h => by have := h.1; omega)).resolve_left (fun h => by have := h.1; omega)
    refine Or.inr ⟨?_, ?_, a3, a4, a5⟩
    · unfold tgS nodS
      rw [if_pos n2, if_neg (by omega), a1]
      unfold nodE nodH
      rw [if_pos (by omega)]
      omega
    · unfold tgL blR
      rw [if_neg (by omega), if_neg (by omega), if_pos n2]; exact a2
theorem nodS_st {p : Int} (h : p < 4) : nodS p = p := by unfold nodS; rw [if_pos h]
theorem BI.tab {y : Sy} (ok : okS y) {m : Mem} (h : BI y m (DnF y m)) {f l s w : Int} (ha : AD y f l s w) : Tw (m 84) f l s ≤ w := by
  have hNO := NO_def
  have hS := ok.1
  have hG := ok.2.1
  have hl4 := ok.st.2
  have h3 := ok.2.2.1
  refine AD.least (Tw (m 84)) ?_ ?_ ha
  · rintro f l s w ⟨i, hi, a1, a2, a3, a4⟩
    have hD : DnF y m ((20 + i : Nat) : Int) := Or.inl (by omega)
    have fe := (h.2.2.2.1 (20 + i) (by omega) hD).1
    have hs := getD_sym ok hi
    have es : nodE ((20 + i : Nat) : Int) = s := by unfold nodE; rw [if_neg (by omega)]; omega
    by_cases e : i = 0
    · rw [if_pos e] at a1
      have hf : rg f l := ⟨by omega, by omega⟩
      have := fe.2.2.1 f l hf (Or.inr (Or.inl ⟨by omega, a1, by rw [a2, e]; rfl⟩))
      have t := Tw_at (w := m 84) hf (show 0 ≤ ((20 + i : Nat) : Int) ∧ ((20 + i : Nat) : Int) < 24 by omega)
      rw [nodS_st (by omega), es, this, if_neg (by omega)] at t
      omega
    · rw [if_neg e] at a1
      have hf : rg (((20 + i : Nat) : Int) + 3) l := ⟨by omega, by omega⟩
      have := fe.2.2.1 (((20 + i : Nat) : Int) + 3) l hf (Or.inr (Or.inr ⟨by omega, rfl, by rw [a2]; unfold stS; rw [show (((20 + i : Nat) : Int) - 20).toNat = i by omega]⟩))
      have t := Tw_at (w := m 84) hf (show 0 ≤ ((20 + i : Nat) : Int) ∧ ((20 + i : Nat) : Int) < 24 by omega)
      rw [nodE_sub (by omega), es, this, if_neg (by omega), show nodE (((20 + i : Nat) : Int) + 3 - 4) = f by unfold nodE; split <;> omega] at t
      omega
  · rintro f l s w ⟨k, r, e', d, g1, g2, g3, g4⟩
    have okr := ok.2.2.2.2.2 r (List.mem_of_getElem? g1)
    obtain ⟨c1, c2, c3⟩ := rl_cases okr ok.2.1.2 ok.1.2
    obtain ⟨e, he, hD, e1, hlt, hle⟩ := h.rd ok okr.1 okr.2.1 g3 g2
    have ehd : r.1 * 5 + r.2.1 - 1 = hdR r := rfl
    rw [ehd] at hlt hle
    obtain ⟨fe, sd⟩ := h.2.2.2.1 e he hD
    have cnt := (sd.1 (hdR r) c1.1 c1.2 hlt).2
    have r0 := ((h.row ok he hD).1 (hdR r) c1.1 c1.2).1
    have hcr : cr BB r = r.2.2.2.2 * 16777216 + 1 := rfl
    have hw1 := okr.2.2.2.2
    rcases tg_of ok g1 g4 with ⟨n2, b1, b2, b3, b4⟩ | ⟨b1, b2, b3, b4, b5⟩
    · obtain ⟨-, z2, z3, z4, z5, z6, z7⟩ := (c3.resolve_left (fun h => by have := h.1; omega)).resolve_left (fun h => by have := h.1; omega)
      have q0 := okr.2.2.1
      have o1 := fe.2.2.2.2 k r g1 n2 hlt
      obtain ⟨x, hx⟩ : ∃ x : Nat, (x : Int) = nxR r := ⟨(nxR r).toNat, by omega⟩
      rw [← hx] at o1
      have fx := (h.2.2.2.1 x (by omega) (Or.inr ⟨by omega, o1⟩)).1
      have hf : rg f l := ⟨by omega, by omega⟩
      have := fx.2.2.1 f l hf (Or.inl ⟨by omega, by omega, by omega⟩)
      have t := Tw_at (w := m 84) hf (show 0 ≤ (x : Int) ∧ (x : Int) < 24 by omega)
      rw [nodS_st (by omega), this, if_neg (by omega), show nodE x = s by unfold nodE nodH at *; rw [if_pos (by omega)]; omega] at t
      omega
    · obtain ⟨j1, j2⟩ := fe.2.2.2.1 k r g1 (by omega)
      have tr := tg_rng ok g1
      have t := Tw_at (w := m 84) tr (show 0 ≤ (e : Int) ∧ (e : Int) < 24 by omega)
      rw [if_neg j1, e1, ← b1, ← b2, ← b3] at t
      rw [← b2] at j2
      omega
def tabOK (y : Sy) (w : Int → Int) : Prop := ∀ f l e, rg f l → 0 ≤ e → e < 24 → w (wx f l e) = if arw y (nodS f) l (nodE e) = 1000001 then -6 else arw y (nodS f) l (nodE e)
def rowOK (y : Sy) (m : Mem) : Prop := ∀ e : Nat, e < 24 → ∀ h, 0 ≤ h → h < 20 → (0 ≤ m (86 + e) h ∧ m (86 + e) h ≤ NO) ∧ (m (86 + e) h < NO → rdw y (h / 5) (h % 5 + 1) (nodE e) = m (86 + e) h / 16777216) ∧ (rdw y (h / 5) (h % 5 + 1) (nodE e) < 1000001 → m (86 + e) h < NO)
theorem BI.tabOK {y : Sy} (ok : okS y) {m : Mem} (h : BI y m (DnF y m)) : tabOK y (m 84) := by
  intro f l e hf h0 h1
  have aw := arw_ok ok (nodS f) l (nodE e)
  have t := Tw_at (w := m 84) hf ⟨h0, h1⟩
  by_cases g : m 84 (wx f l e) = -6
  · rw [if_pos g] at t
    rw [g, if_pos]
    rcases Int.lt_or_le (arw y (nodS f) l (nodE e)) 1000001 with hl | hl
    · have := h.tab ok (aw.2.1 hl)
      omega
    · have := aw.1
      omega
  · rw [if_neg g] at t
    obtain ⟨en, hen⟩ : ∃ en : Nat, (en : Int) = e := ⟨e.toNat, by omega⟩
    subst hen
    have hD : DnF y m en := by
      by_cases hD : DnF y m en
      · exact hD
      · exact absurd ((h.2.2.2.2.1 en (by omega) hD).2 f l hf) g
    have sd := (h.2.2.2.1 en (by omega) hD).2.2 f l hf g
    have s1 := (sd.ok ok).1
    have a1 := aw.2.2 _ sd (by omega)
    have a2 := h.tab ok (aw.2.1 (by omega))
    rw [if_neg (by omega)]
    omega
theorem rd_head {y : Sy} (ok : okS y) {p x s d : Int} (hp : p < 4) (hx : 1 ≤ x) (h : RDa (AD y) p x s d) : (0 ≤ p ∧ p < y.1) ∧ (1 ≤ x ∧ x ≤ y.2.1) := by
  have st : ∀ {l t w}, AD y p l t w → (0 ≤ p ∧ p < y.1) ∧ l ≤ y.2.1 := fun {l t w} h => by
    rcases (h.ok ok).2.2 with g | ⟨⟨q, z, g1, g2, g3⟩, -⟩ | ⟨g, -⟩
    · exact ⟨g.1, g.2.2⟩
    · unfold nodH at g3; omega
    · omega
  rcases h with h | ⟨t, d1, d2, a, b, c⟩
  · exact ⟨(st h).1, hx, (st h).2⟩
  · refine ⟨(st a).1, hx, ?_⟩
    have t1 := (a.ok ok).2.1
    rcases (b.ok ok).2.2 with g | ⟨-, g, -⟩ | ⟨-, -, -, -, g, -⟩
    · exact g.2.2
    · exact g.2
    · exact g.2
theorem BI.rowOK {y : Sy} (ok : okS y) {m : Mem} (h : BI y m (DnF y m)) : rowOK y m := by
  have hNO := NO_def
  intro e he x h0 h1
  have rw9 := rdw_ok ok (x / 5) (x % 5 + 1) (nodE e)
  have key : rdw y (x / 5) (x % 5 + 1) (nodE e) < 1000001 → DnF y m e ∧ m (86 + e) x < NO ∧ m (86 + e) x / 16777216 ≤ rdw y (x / 5) (x % 5 + 1) (nodE e) := fun hl => by
    have r := rw9.2.1 hl
    have hh := rd_head ok (by omega) (by omega) r
    obtain ⟨e2, a1, a2, a3, a4, a5⟩ := h.rd ok hh.1 hh.2 (by omega) (r.mono (fun _ _ _ _ ha => h.tab ok ha))
    have ee := nodE_inj (e := e2) (e2 := e) (by omega) (by omega) a3
    have ee2 : e2 = e := by omega
    subst ee2
    rw [show x / 5 * 5 + (x % 5 + 1) - 1 = x by omega] at a4 a5
    exact ⟨a2, a4, a5⟩
  have rng : 0 ≤ m (86 + e) x ∧ m (86 + e) x ≤ NO := by
    by_cases hD : DnF y m e
    · exact (h.row ok he hD).1 x h0 h1
    · rw [(h.2.2.2.2.1 e he hD).1 x h0 h1]; omega
  refine ⟨rng, fun hl => ?_, fun hl => (key hl).2.1⟩
  have hD : DnF y m e := by
    by_cases hD : DnF y m e
    · exact hD
    · rw [(h.2.2.2.2.1 e he hD).1 x h0 h1] at hl
      omega
  have s1 := (h.2.2.2.1 e he hD).2.1 x h0 h1 hl
  have := rw9.2.2 _ s1.1 (by omega)
  have := (key (by omega)).2.2
  omega
/-! counting -/
noncomputable def cP (P : Int → Prop) : Nat → Int
  | 0 => 0
  | n + 1 => by
    classical
    exact cP P n + (if P n then 1 else 0)
theorem cP_t {P : Int → Prop} {n : Nat} (h : P n) : cP P (n + 1) = cP P n + 1 := by
  rw [cP, if_pos h]
theorem cP_f {P : Int → Prop} {n : Nat} (h : ¬ P n) : cP P (n + 1) = cP P n := by
  rw [cP, if_neg h, Int.add_zero]
theorem cP_rng (P : Int → Prop) : ∀ n : Nat, 0 ≤ cP P n ∧ cP P n ≤ n
  | 0 => ⟨Int.le_refl _, Int.le_refl _⟩
  | n + 1 => by
    have := cP_rng P n
    by_cases h : P n
    · rw [cP_t h]; omega
    · rw [cP_f h]; omega
theorem cP_mono {P : Int → Prop} {m : Nat} : ∀ {n : Nat}, m ≤ n → cP P m ≤ cP P n
  | 0, h => by rw [show m = 0 by omega]; exact Int.le_refl _
  | n + 1, h => by
    by_cases e : m = n + 1
    · rw [e]; exact Int.le_refl _
    · have := cP_mono (P := P) (m := m) (n := n) (by omega)
      by_cases h9 : P n
      · rw [cP_t h9]; omega
      · rw [cP_f h9]; omega
theorem cP_lt {P : Int → Prop} {m n : Nat} (h : m < n) (hm : P m) : cP P m < cP P n := by
  have := cP_mono (P := P) (m := m + 1) (n := n) (by omega)
  rw [cP_t hm] at this
  omega
theorem cP_inj {P : Int → Prop} {m n : Nat} (hm : P m) (hn : P n) (h : cP P m = cP P n) : m = n := by
  rcases Nat.lt_trichotomy m n with g | g | g
  · have := cP_lt g hm; omega
  · exact g
  · have := cP_lt g hn; omega
theorem cP_at {P : Int → Prop} {k : Int} (k0 : 0 ≤ k) : ∀ {n : Nat}, k < cP P n → ∃ j, j < n ∧ P j ∧ cP P j = k
  | 0, h => absurd (show k < 0 from h) (by omega)
  | n + 1, h => by
    by_cases h9 : k < cP P n
    · obtain ⟨j, a, b⟩ := cP_at k0 h9
      exact ⟨j, by omega, b⟩
    · by_cases hp : P n
      · rw [cP_t hp] at h
        exact ⟨n, by omega, hp, by omega⟩
      · rw [cP_f hp] at h
        omega
theorem cP_gap {P : Int → Prop} {m : Nat} : ∀ {n : Nat}, m ≤ n → (∀ i : Nat, m ≤ i → i < n → ¬ P i) → cP P n = cP P m
  | 0, h, _ => by rw [show m = 0 by omega]
  | n + 1, h, hg => by
    by_cases e : m = n + 1
    · rw [e]
    · rw [cP_f (hg n (by omega) (by omega))]
      exact cP_gap (by omega) (fun i a b => hg i a (by omega))
theorem cP_le {P Q : Int → Prop} : ∀ {n : Nat}, (∀ i : Nat, i < n → P i → Q i) → cP P n ≤ cP Q n
  | 0, _ => Int.le_refl _
  | n + 1, h => by
    have := cP_le (P := P) (Q := Q) (n := n) (fun i a => h i (by omega))
    by_cases h9 : P n
    · rw [cP_t h9, cP_t (h n (by omega) h9)]; omega
    · rw [cP_f h9]
      by_cases h8 : Q n
      · rw [cP_t h8]; omega
      · rw [cP_f h8]; omega
theorem cP_cons (a : Int) (J : List Int) : ∀ n : Nat, cP (fun i => i ∈ a :: J) n ≤ cP (fun i => i ∈ J) n + (if 0 ≤ a ∧ a < n then 1 else 0)
  | 0 => by rw [if_neg (by omega)]; exact Int.le_refl _
  | n + 1 => by
    have ih := cP_cons a J n
    by_cases h1 : (n : Int) = a
    · rw [cP_t (P := fun i => i ∈ a :: J) (by rw [h1]; exact List.mem_cons_self), if_pos (by omega)]
      rw [if_neg (by omega)] at ih
      have := cP_mono (P := fun i => i ∈ J) (m := n) (n := n + 1) (by omega)
      omega
    · have e : (if 0 ≤ a ∧ a < (n + 1 : Nat) then (1 : Int) else 0) = if 0 ≤ a ∧ a < n then 1 else 0 := by
        by_cases h2 : 0 ≤ a ∧ a < n
        · rw [if_pos h2, if_pos (by omega)]
        · rw [if_neg h2, if_neg (by omega)]
      rw [e]
      by_cases h3 : (n : Int) ∈ J
      · rw [cP_t (P := fun i => i ∈ a :: J) (List.mem_cons_of_mem _ h3), cP_t (P := fun i => i ∈ J) h3]
        omega
      · rw [cP_f (P := fun i => i ∈ a :: J) (fun q => (List.mem_cons.mp q).elim h1 h3), cP_f (P := fun i => i ∈ J) h3]
        exact ih
theorem cP_mem : ∀ (J : List Int) (n : Nat), cP (fun i => i ∈ J) n ≤ J.length
  | [], n => by
    have : cP (fun i => i ∈ ([] : List Int)) n = cP (fun i => i ∈ ([] : List Int)) 0 := cP_gap (by omega) (fun i _ _ h => by cases h)
    rw [this]
    exact Int.le_refl _
  | a :: J, n => by
    have h1 := cP_cons a J n
    have h2 := cP_mem J n
    rw [List.length_cons]
    split at h1 <;> omega
