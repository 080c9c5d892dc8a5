/-! ===== rows of costs that spread from given ones ===== -/
def lastR (rs : List Rl) (n : Nat) (p0 x0 p x W : Int) : Prop := ∃ (k : Nat) (r : Rl) (n1 : Nat) (W1 : Int), rs[k]? = some r ∧ Run rs (-6) n1 p0 [x0] r.1 [r.2.1] W1 ∧ ((nd r.2.2.2.1 = 1 ∧ p = r.2.2.1 ∧ x = r.2.2.2.1 ∧ n = n1 + 1 ∧ W = W1 + r.2.2.2.2) ∨ (nd r.2.2.2.1 = 2 ∧ ∃ (n2 : Nat) (W2 : Int), Run rs (-6) n2 r.2.2.1 [r.2.2.2.1 / 10] p [] W2 ∧ x = r.2.2.2.1 % 10 ∧ n = n1 + 1 + n2 ∧ W = W1 + r.2.2.2.2 + W2))
theorem lastR.pre {rs : List Rl} {n m : Nat} {p0 x0 p1 x1 p x W W0 : Int} (h0 : Run rs (-6) m p0 [x0] p1 [x1] W0) (h : lastR rs n p1 x1 p x W) : lastR rs (m + n) p0 x0 p x (W0 + W) := by
  obtain ⟨k, r, n1, W1, g1, g2, g3⟩ := h
  refine ⟨k, r, m + n1, W0 + W1, g1, Run.trans g2 h0, ?_⟩
  rcases g3 with ⟨a, b, c, d, e⟩ | ⟨a, n2, W2, b, c, d, e⟩
  · exact Or.inl ⟨a, b, c, by omega, by omega⟩
  · exact Or.inr ⟨a, n2, W2, b, c, by omega, by omega⟩
theorem last_run {y : Sy} (ok : okS y) : ∀ (N n : Nat), n ≤ N → ∀ p0 x0 p x W, Run y.2.2.2.2 (-6) n p0 [x0] p [x] W → (n = 0 ∧ p = p0 ∧ x = x0 ∧ W = 0) ∨ lastR y.2.2.2.2 n p0 x0 p x W := by
  have key : ∀ (n : Nat), (∀ n', n' < n → ∀ p0 x0 p x W, Run y.2.2.2.2 (-6) n' p0 [x0] p [x] W → (n' = 0 ∧ p = p0 ∧ x = x0 ∧ W = 0) ∨ lastR y.2.2.2.2 n' p0 x0 p x W) → ∀ p0 x0 p x W, Run y.2.2.2.2 (-6) n p0 [x0] p [x] W → (n = 0 ∧ p = p0 ∧ x = x0 ∧ W = 0) ∨ lastR y.2.2.2.2 n p0 x0 p x W := by
    intro n ih p0 x0 p x W h
    match n, ih, h with
    | 0, ih, ⟨a, b, c⟩ => exact Or.inl ⟨rfl, a.symm, (List.cons.inj b).1.symm, c⟩
    | n + 1, ih, ⟨k, r, s', h1, h2, h3, h4, h5⟩ =>
      obtain ⟨e1, e2⟩ := List.cons.inj h4
      subst e2
      rw [List.append_nil] at h5
      have okr := ok.2.2.2.2.2 r (List.mem_of_getElem? h1)
      have hdg := dgs_2 okr.2.2.2.1.1.1 okr.2.2.2.1.2
      have self : Run y.2.2.2.2 (-6) 0 p0 [x0] r.1 [r.2.1] 0 := ⟨h3.symm, by rw [e1], rfl⟩
      have one : ∀ {m : Nat} {q : Int} {t : List Int} {V : Int}, Run y.2.2.2.2 (-6) m r.2.2.1 (dgs r.2.2.2.1) q t V → Run y.2.2.2.2 (-6) (m + 1) p0 [x0] q t (r.2.2.2.2 + V) := fun {m q t V} hR => ⟨k, r, [], h1, h2, h3, h4, by rw [List.append_nil, show r.2.2.2.2 + V - r.2.2.2.2 = V by omega]; exact hR⟩
      refine Or.inr ?_
      rcases hdg with ⟨n0, b1, b2⟩ | ⟨n1, b1, b2, b3⟩ | ⟨n2, b1, b2, b3⟩
      · rw [b2] at h5
        exact absurd h5.nil.2.2.1 (by intro e; cases e)
      · rw [b3] at h5
        rcases ih n (by omega) _ _ _ _ _ h5 with ⟨z1, z2, z3, z4⟩ | h9
        · exact ⟨k, r, 0, 0, h1, self, Or.inl ⟨n1, z2, z3, by omega, by omega⟩⟩
        · have := h9.pre (one (m := 0) (q := r.2.2.1) (t := [r.2.2.2.1]) (V := 0) (by rw [b3]; exact ⟨rfl, rfl, rfl⟩))
          rw [show 0 + 1 + n = n + 1 by omega, show r.2.2.2.2 + 0 + (W - r.2.2.2.2) = W by omega] at this
          exact this
      · rw [b3] at h5
        rcases (show Run y.2.2.2.2 (-6) n r.2.2.1 ([r.2.2.2.1 / 10] ++ [r.2.2.2.1 % 10]) p [x] (W - r.2.2.2.2) from h5).split with ⟨t', g1, g2⟩ | ⟨n1, n2', m, W1, W2, g1, g2, g3, g4⟩
        · have l1 : t'.length = 0 := by
            have := congrArg List.length g1
            rw [List.length_append] at this
            have e9 : [x].length = 1 := rfl
            have e8 : [r.2.2.2.1 % 10].length = 1 := rfl
            omega
          rw [List.length_eq_zero_iff.mp l1] at g1 g2
          exact ⟨k, r, 0, 0, h1, self, Or.inr ⟨n2, n, _, g2, (List.cons.inj g1).1, by omega, by omega⟩⟩
        · rcases ih n2' (by omega) _ _ _ _ _ g4 with ⟨z1, z2, z3, z4⟩ | h9
          · subst z2
            exact ⟨k, r, 0, 0, h1, self, Or.inr ⟨n2, n1, W1, g3, z3, by omega, by omega⟩⟩
          · have := h9.pre (one (m := n1) (q := m) (t := [r.2.2.2.1 % 10]) (V := W1) (by rw [b3]; exact g3.app [r.2.2.2.1 % 10]))
            rw [show n1 + 1 + n2' = n + 1 by omega, show r.2.2.2.2 + W1 + W2 = W by omega] at this
            exact this
  intro N
  induction N with
  | zero =>
    intro n hn
    have e : n = 0 := by omega
    subst e
    exact key 0 (fun n' h => absurd h (by omega))
  | succ N ih =>
    intro n hn
    exact key n (fun n' h => ih n' (by omega))
/-- a head's cost, from a row of first costs -/
def PV (rs : List Rl) (v0 : Int → Int) (h c : Int) : Prop := ∃ h0 c', 0 ≤ h0 ∧ h0 < 20 ∧ v0 h0 < NO ∧ RC BB rs (-6) (h0 / 5) [h0 % 5 + 1] (h / 5) [h % 5 + 1] c' ∧ c = v0 h0 + c'
theorem gok_spread {y : Sy} (ok : okS y) {pr : Int → Int} (hpr : PRok y.2.2.2.2 (-6) pr) {v0 : Int → Int} (hv : ∀ h, 0 ≤ h → h < 20 → 0 ≤ v0 h ∧ v0 h ≤ NO) : GOK (PV y.2.2.2.2 v0) (eS y.1 pr) y.2.2.2.2 (-6) v0 := by
  have hw := okRs.w (S := y.1) (G := y.2.1) ok.2.2.2.2.2
  have hBB : BB = 16777216 := rfl
  have hS := ok.1
  have hG := ok.2.1
  refine ⟨fun i c ⟨h0, c', a0, a1, a2, a3, a4⟩ => ?_, fun k r hr hk i c j d he hlt hp => ?_, fun i i0 i1 c hc hp => ?_, fun i i0 i1 => ⟨(hv i i0 i1).1, (hv i i0 i1).2, fun hl => ⟨i, 0, i0, i1, hl, RC.refl _ _, by omega⟩⟩⟩
  · have := (hv h0 a0 a1).1
    have := RC.nn hw (by omega) a3
    omega
  · have okr := ok.2.2.2.2.2 r (List.mem_of_getElem? hr)
    obtain ⟨b1, b2, b3⟩ := rl_cases okr hG.2 hS.2
    obtain ⟨h0, c', a0, a1, a2, a3, a4⟩ := hp
    have v00 := (hv h0 a0 a1).1
    have c0 := RC.nn hw (by omega) a3
    have hx := okr.2.1
    have ej : j = hdR r → j / 5 = r.1 ∧ j % 5 + 1 = r.2.1 := fun e => by rw [e]; unfold hdR; omega
    have key : ∀ c2, RC BB y.2.2.2.2 (-6) r.2.2.1 (dgs r.2.2.2.1) (i / 5) [i % 5 + 1] c2 → j = hdR r → PV y.2.2.2.2 v0 i (cr BB r + c2 + d) := fun c2 h9 e => by
      rw [(ej e).1, (ej e).2] at a3
      refine ⟨h0, c' + (cr BB r + c2), a0, a1, a2, a3.trans (RC.step hr hk (by rw [List.append_nil]; exact h9)), by omega⟩
    rcases he with ⟨n1, e1, e2, rfl⟩ | ⟨n2, m, m0, m1, e1, e2, rfl⟩
    · obtain ⟨-, z2, z3, z4, z5⟩ := (b3.resolve_left (fun h => by have := h.1; omega)).resolve_right (fun h => by have := h.1; omega)
      have := key 0 (by rw [z2, e2, z3, show (r.2.2.1 * 5 + r.2.2.2.1 - 1) / 5 = r.2.2.1 by omega, show (r.2.2.1 * 5 + r.2.2.2.1 - 1) % 5 + 1 = r.2.2.2.1 by omega]; exact RC.refl _ _) e1
      rw [Int.add_zero] at this
      exact this
    · obtain ⟨-, z2, z3, z4, z5, z6, z7⟩ := (b3.resolve_left (fun h => by have := h.1; omega)).resolve_left (fun h => by have := h.1; omega)
      have q0 := okr.2.2.1
      obtain ⟨t1, t2, t3⟩ := hpr (nxR r * 4 + m) (by omega) (by omega)
      have t4 := t2 (by omega)
      rw [z3, PRi_hd (by omega) q0.1 (by omega), ← z3] at t4
      exact key _ (by rw [z2, e2, show (m * 5 + blR r - 1) / 5 = m by omega, show (m * 5 + blR r - 1) % 5 + 1 = blR r by omega]; exact t4.app [blR r]) e1
  · obtain ⟨h0, c', a0, a1, a2, ⟨n, W, a3, a5⟩, a4⟩ := hp
    have a5 : c' = W * 16777216 + n := a5
    have v00 := (hv h0 a0 a1).1
    rcases last_run ok n n (Nat.le_refl _) _ _ _ _ _ a3 with ⟨z1, z2, z3, z4⟩ | ⟨k, r, n1, W1, g1, g2, g3⟩
    · have e : i = h0 := by omega
      subst e
      exact Or.inl (by omega)
    · have okr := ok.2.2.2.2.2 r (List.mem_of_getElem? g1)
      obtain ⟨b1, b2, b3⟩ := rl_cases okr hG.2 hS.2
      have l1 := g2.le hw
      have hx := okr.2.1
      have q0 := okr.2.2.1
      have hcr : cr BB r = r.2.2.2.2 * 16777216 + 1 := rfl
      have pj : PV y.2.2.2.2 v0 (hdR r) (v0 h0 + (W1 * 16777216 + n1)) := ⟨h0, _, a0, a1, a2, ⟨n1, W1, by rw [show hdR r / 5 = r.1 by unfold hdR; omega, show hdR r % 5 + 1 = r.2.1 by unfold hdR; omega]; exact g2, rfl⟩, rfl⟩
      rcases g3 with ⟨x1, x2, x3, x4, x5⟩ | ⟨x1, n2, W2, x2, x3, x4, x5⟩
      · obtain ⟨-, z2, z3, z4, z5⟩ := (b3.resolve_left (fun h => by have := h.1; omega)).resolve_right (fun h => by have := h.1; omega)
        exact Or.inr ⟨k, r, cr BB r, hdR r, _, g1, by omega, Or.inl ⟨x1, rfl, by omega, rfl⟩, pj, by omega, by omega, b1.1, b1.2⟩
      · obtain ⟨-, z2, z3, z4, z5, z6, z7⟩ := (b3.resolve_left (fun h => by have := h.1; omega)).resolve_left (fun h => by have := h.1; omega)
        have hm := Run.state (S := y.1) (G := y.2.1) ok.2.2.2.2.2 x2 q0
        have l2 := x2.le hw
        obtain ⟨t1, t2, t3⟩ := hpr (nxR r * 4 + i / 5) (by omega) (by omega)
        have t4 := t3 (W2 * 16777216 + n2) (by rw [z3, PRi_hd (by omega) q0.1 (by omega)]; exact ⟨n2, W2, x2, rfl⟩) (by omega)
        have t5 := hpr.rng ok (i := nxR r * 4 + i / 5) (by omega) (by omega)
        have ebl : blR r = r.2.2.2.1 % 10 := by unfold blR; rw [if_pos x1]
        exact Or.inr ⟨k, r, _, hdR r, _, g1, by omega, Or.inr ⟨x1, i / 5, hm.1, hm.2, rfl, by omega, rfl⟩, pj, by omega, by omega, b1.1, b1.2⟩
/-- the least weights of arcs and of readings -/
noncomputable def lsw (P : Int → Prop) : Int := by
  classical
  exact if h : ∃ v, TMn 1000001 P v then Classical.choose h else 1000001
theorem lsw_ok {P : Int → Prop} (h0 : ∀ c, P c → 0 ≤ c) : TMn 1000001 P (lsw P) := by
  have h : ∃ v, TMn 1000001 P v := TMn.ex h0 (by omega)
  unfold lsw
  rw [dif_pos h]
  exact Classical.choose_spec h
noncomputable def arw (y : Sy) (f l s : Int) : Int := lsw (AD y f l s)
noncomputable def rdw (y : Sy) (p x s : Int) : Int := lsw (RDa (AD y) p x s)
theorem arw_ok {y : Sy} (ok : okS y) (f l s : Int) : TMn 1000001 (AD y f l s) (arw y f l s) := lsw_ok (fun c h => (AD.ok ok h).1.1)
theorem rdw_ok {y : Sy} (ok : okS y) (p x s : Int) : TMn 1000001 (RDa (AD y) p x s) (rdw y p x s) := lsw_ok (fun c h => (RDa.nn ok h).1)
theorem arw_rng {y : Sy} (ok : okS y) (f l s : Int) : 0 ≤ arw y f l s ∧ arw y f l s ≤ 1000001 := by
  have h := arw_ok ok f l s
  refine ⟨?_, h.1⟩
  rcases Int.lt_or_le (arw y f l s) 1000001 with hl | hl
  · exact ((h.2.1 hl).ok ok).1.1
  · omega
theorem rdw_rng {y : Sy} (ok : okS y) (f l s : Int) : 0 ≤ rdw y f l s ∧ rdw y f l s ≤ 1000001 := by
  have h := rdw_ok ok f l s
  refine ⟨?_, h.1⟩
  rcases Int.lt_or_le (rdw y f l s) 1000001 with hl | hl
  · exact ((h.2.1 hl).nn ok).1
  · omega
