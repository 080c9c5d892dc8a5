/-! ===== rows of costs by head, and rounds over the rules ===== -/
def lw (v : Int → Int) (i c : Int) : Int → Int := if c < v i then ui v i c else v
theorem lw_le (v : Int → Int) (i c : Int) : ∀ q, lw v i c q ≤ v q := fun q => by
  unfold lw
  by_cases h : c < v i
  · rw [if_pos h]
    unfold ui
    split
    · rename_i e; rw [e]; omega
    · omega
  · rw [if_neg h]; omega
theorem lw_at (v : Int → Int) (i c : Int) : lw v i c i ≤ c := by
  unfold lw
  by_cases h : c < v i
  · rw [if_pos h, ui_same]; omega
  · rw [if_neg h]; omega
theorem lw_no {v : Int → Int} {i c : Int} (h : ¬ c < v i) : lw v i c = v := if_neg h
theorem lw_mem (mem : Mem) (g : Nat) (i c : Int) : (if c < mem g i then um mem g i c else mem) = sm mem g (lw (mem g) i c) := by
  unfold lw
  by_cases h : c < mem g i
  · rw [if_pos h, if_pos h]
    exact eq_sm (fun q hq => um_ne _ _ _ hq) (fun j => by rw [um_same])
  · rw [if_neg h, if_neg h]
    exact (sm_id mem g (fun _ => rfl)).symm
/-- what stands in a row is the cost of something -/
def GSnd (P : Int → Int → Prop) (v : Int → Int) : Prop := ∀ i, 0 ≤ i → i < 20 → 0 ≤ v i ∧ v i ≤ NO ∧ (v i < NO → P i (v i))
theorem GSnd.low {P : Int → Int → Prop} {v : Int → Int} {i c : Int} (h : GSnd P v) (i0 : 0 ≤ i ∧ i < 20) (c0 : 0 ≤ c) (hp : c < v i → P i c) : GSnd P (lw v i c) := fun q q0 q1 => by
  have := h q q0 q1
  have h2 := (h i i0.1 i0.2).2.1
  unfold lw
  by_cases hc : c < v i
  · rw [if_pos hc]
    unfold ui
    by_cases e : q = i
    · rw [if_pos e, e]
      exact ⟨c0, by omega, fun _ => hp hc⟩
    · rw [if_neg e]; exact this
  · rw [if_neg hc]; exact this
/-- how a rule joins the heads: i is turned into j at the cost c -/
def eG (S : Int) (pr : Int → Int) (r : Rl) (i c j : Int) : Prop := (nd r.2.2.2.1 = 1 ∧ i = hdR r ∧ j = nxR r ∧ c = cr BB r) ∨ (nd r.2.2.2.1 = 2 ∧ ∃ m, 0 ≤ m ∧ m < S ∧ i = hdR r ∧ j = m * 5 + blR r - 1 ∧ c = cr BB r + pr (nxR r * 4 + m))
def eS (S : Int) (pr : Int → Int) (r : Rl) (i c j : Int) : Prop := eG S pr r j c i
def rlE (e : Rl → Int → Int → Int → Prop) (r : Rl) (v v' : Int → Int) : Prop := ∀ i c j, e r i c j → v j < NO → v' i ≤ c + v j
theorem rlE.mono {e : Rl → Int → Int → Int → Prop} {r : Rl} {v w v' w' : Int → Int} (h : rlE e r v v') (h1 : ∀ i, v i ≤ w i) (h2 : ∀ i, w' i ≤ v' i) : rlE e r w w' := fun i c j he hj => by
  have a := h1 j
  have b := h i c j he (by omega)
  have d := h2 i
  omega
def pasE (P : Int → Int → Prop) (e : Rl → Int → Int → Int → Prop) (rs : List Rl) (ex : Int) (v v' : Int → Int) (n : Nat) : Prop := GSnd P v' ∧ (∀ i, v' i ≤ v i) ∧ ∀ k : Nat, k < n → (k : Int) ≠ ex → ∀ r, rs[k]? = some r → rlE e r v v'
/-- a property of heads and costs that the rules keep, and that begins in the row -/
def GOK (P : Int → Int → Prop) (e : Rl → Int → Int → Int → Prop) (rs : List Rl) (ex : Int) (v0 : Int → Int) : Prop :=
  (∀ i c, P i c → 0 ≤ c) ∧
  (∀ (k : Nat) r, rs[k]? = some r → (k : Int) ≠ ex → ∀ i c j d, e r i c j → c + d < NO → P j d → P i (c + d)) ∧
  (∀ i, 0 ≤ i → i < 20 → ∀ c, c < NO → P i c → v0 i ≤ c ∨ ∃ (k : Nat) (r : Rl) (c1 j c2 : Int), rs[k]? = some r ∧ (k : Int) ≠ ex ∧ e r i c1 j ∧ P j c2 ∧ c1 + c2 ≤ c ∧ 1 ≤ c1 ∧ 0 ≤ j ∧ j < 20) ∧
  GSnd P v0
noncomputable def muG (P : Int → Int → Prop) (i : Nat) : Int := by
  classical
  exact if h : ∃ v, TMn NO (P i) v then Classical.choose h else NO
theorem muG_ok {P : Int → Int → Prop} (h0 : ∀ i c, P i c → 0 ≤ c) (i : Nat) : TMn NO (P i) (muG P i) := by
  have h : ∃ v, TMn NO (P i) v := TMn.ex (h0 i) (by unfold NO; omega)
  unfold muG
  rw [dif_pos h]
  exact Classical.choose_spec h
theorem GOK.rnd {P : Int → Int → Prop} {e : Rl → Int → Int → Int → Prop} {rs : List Rl} {ex : Int} {v0 v v' : Int → Int} (h : GOK P e rs ex v0) (hv : GSnd P v) (h0 : ∀ i, v i ≤ v0 i) (hp : pasE P e rs ex v v' rs.length) : rndOK NO (muG P) (fun i => v i) (fun i => v' i) 20 := by
  obtain ⟨h1, h2, h3⟩ := hp
  intro i hi
  have mi := muG_ok h.1 i
  obtain ⟨a1, a2, a3⟩ := h1 i (by omega) (by omega)
  refine ⟨⟨?_, h2 i, (hv i (by omega) (by omega)).2.1⟩, fun hm hp => ?_⟩
  · rcases Int.lt_or_le (v' i) NO with hl | hl
    · exact mi.2.2 _ (a3 hl) hl
    · exact Int.le_trans mi.1 hl
  · show v' i ≤ muG P i
    rcases h.2.2.1 i (by omega) (by omega) _ hm (mi.2.1 hm) with g | ⟨k, r, c1, j, c2, g1, g2, g3, g4, g5, g6, g7, g8⟩
    · have b1 := h2 i
      have b2 := h0 i
      omega
    · obtain ⟨n, hn⟩ : ∃ n : Nat, (n : Int) = j := ⟨j.toNat, by omega⟩
      subst hn
      have mj := muG_ok h.1 n
      have le := mj.2.2 c2 g4 (by omega)
      have e9 : v (n : Int) = muG P n := hp n (by omega) (by omega)
      have := h3 k (List.getElem?_eq_some_iff.mp g1).1 g2 r g1 i c1 n g3 (by omega)
      omega
theorem GOK.all {P : Int → Int → Prop} (h0 : ∀ i c, P i c → 0 ≤ c) {v : Int → Int} (h : ∀ i : Nat, i < 20 → v i = muG P i) : ∀ i, 0 ≤ i → i < 20 → TMn NO (P i) (v i) := fun i i0 i1 => by
  have h1 := h i.toNat (by omega)
  have h2 := muG_ok h0 i.toNat
  rw [show ((i.toNat : Nat) : Int) = i by omega] at h1 h2
  rw [h1]
  exact h2
theorem PRok.rng {y : Sy} (ok : okS y) {ex : Int} {v : Int → Int} (h : PRok y.2.2.2.2 ex v) {i : Int} (i0 : 0 ≤ i) (i1 : i < 80) : 0 ≤ v i ∧ v i ≤ NO := by
  have t := h i i0 i1
  have hNO := NO_def
  refine ⟨?_, t.1⟩
  rcases Int.lt_or_le (v i) NO with hl | hl
  · exact RC.nn (okRs.w (S := y.1) (G := y.2.1) ok.2.2.2.2.2) (by unfold BB; omega) (t.2.1 hl)
  · omega
/-- a row of costs by head -/
def isRow (g : Nat) : Prop := kd g = (1, 20) ∧ 41 < g
def rowQ (P : Int → Int → Prop) (e : Rl → Int → Int → Int → Prop) (g : Nat) (r : Rl) (mem : Mem) (z : Int) (m : Mem) : Prop := ∃ (v' : Int → Int) (C : Prop), m = sm mem g v' ∧ bI C = z ∧ (¬ C → ∀ i, v' i = mem g i) ∧ (∀ i, v' i ≤ mem g i) ∧ GSnd P v' ∧ rlE e r (mem g) v'
