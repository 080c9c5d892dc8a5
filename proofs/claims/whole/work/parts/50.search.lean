/-! ===== Search: its places; rows that lead to an aim ===== -/
def isSr (c : Nat) : Prop := c = 42 ∨ c = 54 ∨ c = 66
def capS (c : Nat) : Nat := if c = 42 then 310 else 6
def sumS (c : Nat) : Nat := if c = 66 then 40 else 38
theorem sr0 {c : Nat} (h : isSr c) : kd c = (5, 3) := by rcases h with rfl | rfl | rfl <;> decide
theorem sr1 {c : Nat} (h : isSr c) : kd (c + 1) = (0, 6) := by rcases h with rfl | rfl | rfl <;> decide
theorem sr2 {c : Nat} (h : isSr c) : kd (c + 2) = (3, 6) := by rcases h with rfl | rfl | rfl <;> decide
theorem sr3 {c : Nat} (h : isSr c) {i : Nat} (hi : i < 6) : kd (c + 3 + i) = (1, 20) := by
  have : i = 0 ∨ i = 1 ∨ i = 2 ∨ i = 3 ∨ i = 4 ∨ i = 5 := by omega
  rcases h with rfl | rfl | rfl <;> rcases this with rfl | rfl | rfl | rfl | rfl | rfl <;> decide
theorem sr9 {c : Nat} (h : isSr c) : kd (c + 9) = (0, capS c) := by rcases h with rfl | rfl | rfl <;> decide
theorem sr10 {c : Nat} (h : isSr c) : kd (c + 10) = (1, (capS c + 1) * 4) := by rcases h with rfl | rfl | rfl <;> decide
theorem sr11 {c : Nat} (h : isSr c) : kd (c + 11) = (2, capS c + 1) := by rcases h with rfl | rfl | rfl <;> decide
theorem srS {c : Nat} (h : isSr c) : rf c 8 = sumS c := by rcases h with rfl | rfl | rfl <;> decide +kernel
theorem srB {c : Nat} : isSum (sumS c) := by
  unfold sumS isSum
  split <;> omega
theorem srR {c : Nat} (h : isSr c) {i : Nat} (hi : i < 6) : isRow (c + 3 + i) := ⟨sr3 h hi, by rcases h with rfl | rfl | rfl <;> omega⟩
theorem isSr.ge {c : Nat} (h : isSr c) : 42 ≤ c ∧ c ≤ 66 := by rcases h with rfl | rfl | rfl <;> omega
theorem sumS_le {c : Nat} : sumS c ≤ 40 ∧ 38 ≤ sumS c := by unfold sumS; split <;> omega
/-- the runs of a head to a configuration -/
def RH (rs : List Rl) (ex q : Int) (u : List Int) (h c : Int) : Prop := RC BB rs ex (h / 5) [h % 5 + 1] q u c
/-- with what such a run may begin, other than by turning the head into another -/
def RIn (rs : List Rl) (ex q : Int) (u : List Int) (h c : Int) : Prop := (c = 0 ∧ h / 5 = q ∧ u = [h % 5 + 1]) ∨ ∃ (k : Nat) (r : Rl) (u' : List Int) (c' : Int), rs[k]? = some r ∧ (k : Int) ≠ ex ∧ hdR r = h ∧ nd r.2.2.2.1 = 2 ∧ u' ≠ [] ∧ u = u' ++ [blR r] ∧ RH rs ex q u' (nxR r) c' ∧ c = cr BB r + c'
theorem RH_hd {rs : List Rl} {ex q p x : Int} {u : List Int} {c : Int} (hx : 1 ≤ x ∧ x ≤ 5) : RH rs ex q u (p * 5 + x - 1) c ↔ RC BB rs ex p [x] q u c := by
  unfold RH
  rw [show (p * 5 + x - 1) / 5 = p by omega, show (p * 5 + x - 1) % 5 + 1 = x by omega]
theorem gok_run {y : Sy} (ok : okS y) {ex : Int} {pr : Int → Int} (hpr : PRok y.2.2.2.2 ex pr) {q : Int} {u : List Int} (hu : u ≠ []) {v0 : Int → Int} (hs : GSnd (RH y.2.2.2.2 ex q u) v0) (hcov : ∀ h c, 0 ≤ h → h < 20 → c < NO → RIn y.2.2.2.2 ex q u h c → v0 h ≤ c) : GOK (RH y.2.2.2.2 ex q u) (eG y.1 pr) y.2.2.2.2 ex v0 := by
  have hw := okRs.w (S := y.1) (G := y.2.1) ok.2.2.2.2.2
  have hBB : 1 ≤ BB := by unfold BB; omega
  have hS := ok.1
  have hG := ok.2.1
  refine ⟨fun i c h => RC.nn hw hBB h, fun k r hr hk i c j d he hlt hp => ?_, fun i i0 i1 c hc hp => ?_, hs⟩
  · have okr := ok.2.2.2.2.2 r (List.mem_of_getElem? hr)
    obtain ⟨b1, b2, b3⟩ := rl_cases okr hG.2 hS.2
    have d0 := RC.nn hw hBB hp
    have hx := okr.2.1
    have key : ∀ c, RC BB y.2.2.2.2 ex r.2.2.1 (dgs r.2.2.2.1) q u c → RH y.2.2.2.2 ex q u (hdR r) (cr BB r + c) := fun c h9 => by
      unfold hdR
      rw [RH_hd (by omega)]
      exact RC.step hr hk (by rw [List.append_nil]; exact h9)
    rcases he with ⟨n1, rfl, rfl, rfl⟩ | ⟨n2, m, m0, m1, rfl, rfl, rfl⟩
    · obtain ⟨-, z2, z3, z4, z5⟩ := (b3.resolve_left (fun h => by have := h.1; omega)).resolve_right (fun h => by have := h.1; omega)
      rw [z3, RH_hd (by omega)] at hp
      exact key d (by rw [z2]; exact hp)
    · obtain ⟨-, z2, z3, z4, z5, z6, z7⟩ := (b3.resolve_left (fun h => by have := h.1; omega)).resolve_left (fun h => by have := h.1; omega)
      have q0 := okr.2.2.1
      obtain ⟨t1, t2, t3⟩ := hpr (nxR r * 4 + m) (by omega) (by omega)
      have t4 := t2 (by omega)
      rw [z3, PRi_hd (by omega) q0.1 (by omega), ← z3] at t4
      rw [RH_hd (by omega)] at hp
      have := key _ (by rw [z2]; exact (t4.app [blR r]).trans hp)
      rwa [← Int.add_assoc] at this
  · have hp2 := hp
    unfold RH at hp2
    rcases hp2.first with ⟨c0, e1, e2⟩ | ⟨k, r, c1, g1, g2, g3, g4, g5, g6⟩
    · exact Or.inl (hcov i c i0 i1 hc (Or.inl ⟨c0, e1, e2.symm⟩))
    · have okr := ok.2.2.2.2.2 r (List.mem_of_getElem? g1)
      obtain ⟨b1, b2, b3⟩ := rl_cases okr hG.2 hS.2
      have ei : i = hdR r := by unfold hdR; omega
      have q0 := okr.2.2.1
      rw [List.append_nil] at g5
      rcases b3 with ⟨n0, d0⟩ | ⟨n1, d1, d2, d3, d4⟩ | ⟨n2, d1, d2, d3, d4, d5, d6⟩
      · rw [d0] at g5
        exact absurd g5.empty.2.2 hu
      · rw [d1] at g5
        refine Or.inr ⟨k, r, cr BB r, nxR r, c1, g1, g2, Or.inl ⟨n1, ei, rfl, rfl⟩, ?_, by omega, by omega, by omega, by omega⟩
        rw [d2, RH_hd (by omega)]
        exact g5
      · rw [d1] at g5
        have edge : ∀ m x1 x2, RC BB y.2.2.2.2 ex r.2.2.1 [r.2.2.2.1 / 10] m [] x1 → RC BB y.2.2.2.2 ex m [blR r] q u x2 → c1 = x1 + x2 → v0 i ≤ c ∨ ∃ (k : Nat) (r : Rl) (c1 j c2 : Int), y.2.2.2.2[k]? = some r ∧ (k : Int) ≠ ex ∧ eG y.1 pr r i c1 j ∧ RH y.2.2.2.2 ex q u j c2 ∧ c1 + c2 ≤ c ∧ 1 ≤ c1 ∧ 0 ≤ j ∧ j < 20 := fun m x1 x2 f1 f2 f3 => by
          have hm := RC.state (S := y.1) (G := y.2.1) ok.2.2.2.2.2 f1 q0
          have x10 := RC.nn hw hBB f1
          have x20 := RC.nn hw hBB f2
          obtain ⟨t1, t2, t3⟩ := hpr (nxR r * 4 + m) (by omega) (by omega)
          have t4 := t3 x1 (by rw [d2, PRi_hd (by omega) q0.1 (by omega)]; exact f1) (by omega)
          have t5 := hpr.rng ok (i := nxR r * 4 + m) (by omega) (by omega)
          refine Or.inr ⟨k, r, _, _, x2, g1, g2, Or.inr ⟨n2, m, hm.1, hm.2, ei, rfl, rfl⟩, ?_, by omega, by omega, by omega, by omega⟩
          rw [RH_hd (by omega)]
          exact f2
        rcases (show RC BB y.2.2.2.2 ex r.2.2.1 ([r.2.2.2.1 / 10] ++ [blR r]) q u c1 from g5).split with ⟨t', e1, e2⟩ | ⟨m, x1, x2, f1, f2, f3⟩
        · by_cases ht : t' = []
          · subst ht
            exact edge q c1 0 e2 (by rw [e1]; exact RC.refl _ _) (by omega)
          · refine Or.inl (hcov i c i0 i1 hc (Or.inr ⟨k, r, t', c1, g1, g2, ei.symm, n2, ht, e1, ?_, g6⟩))
            rw [d2, RH_hd (by omega)]
            exact e2
        · exact edge m x1 x2 f1 f2 f3
/-- the search c aims at q, t -/
def AimOK (y : Sy) (ex q : Int) (t : List Int) (m : Mem) (c n : Nat) : Prop := (∀ i : Nat, i < n → m (c + 1) i = t.getD i 0) ∧ ∀ i : Nat, i < n → ∀ h, 0 ≤ h → h < 20 → TMn NO (RH y.2.2.2.2 ex q (t.take (i + 1)) h) (m (c + 3 + i) h)
