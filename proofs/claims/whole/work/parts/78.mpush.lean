/-! ===== the reference: push ===== -/
/-- from a node with this stack to the aim -/
def BL (y : Sy) (ex q : Int) (t sl : List Int) (f c : Int) : Prop := (f < y.1 ∧ RC BR y.2.2.2.2 ex f sl q t c) ∨ (5 ≤ f ∧ f - 4 ≤ t.length ∧ sl = t.drop (f - 4).toNat ∧ c = 0)
theorem BL.nn {y : Sy} (ok : okS y) {ex q : Int} {t sl : List Int} {f c : Int} (h : BL y ex q t sl f c) : 0 ≤ c := by
  rcases h with h | h
  · exact RC.nn (okRs.w (S := y.1) (G := y.2.1) ok.2.2.2.2.2) (by unfold BR; omega) h.2
  · have := h.2.2.2; omega
theorem pushT {y : Sy} (ok : okS y) {ex q : Int} {t sl : List Int} {v b : Int → Int} (hlt : t.length ≤ 6) (hq : 0 ≤ q ∧ q < y.1) (hv : WOK y ex q t v) (hb : ∀ m, 0 ≤ m → m < 11 → TMn EN (BL y ex q t sl m) (b m)) {f x R : Int} (hf : 0 ≤ f ∧ f < 11) (hx : 1 ≤ x ∧ x ≤ 5) (h1 : R ≤ EN) (h2 : R < EN → ∃ m, 0 ≤ m ∧ m < 11 ∧ v (ix f x m) < EN ∧ b m < EN ∧ R = v (ix f x m) + b m) (h3 : ∀ m, 0 ≤ m → m < 11 → v (ix f x m) < EN → b m < EN → R ≤ v (ix f x m) + b m) : TMn EN (BL y ex q t (x :: sl) f) R := by
  have hS := ok.1
  have hEN := EN_def
  have hw := okRs.w (S := y.1) (G := y.2.1) ok.2.2.2.2.2
  refine ⟨h1, fun hl => ?_, fun c hc hl => ?_⟩
  · obtain ⟨m, m0, m1, a1, a2, rfl⟩ := h2 hl
    have hbm := (hb m m0 m1).2.1 a2
    rcases hv.1.2 f x m hf.1 hf.2 hx.1 hx.2 m0 m1 a1 with ⟨f1, w⟩ | ⟨f5, g1, g2, g3, g4⟩
    · refine Or.inl ⟨f1, ?_⟩
      rcases w with ⟨m5, r⟩ | ⟨m5, ml, r⟩
      · have hbm := hbm.resolve_right (fun h => by have := h.1; omega)
        exact (r.app sl).trans hbm.2
      · obtain ⟨-, k1, k2, k3⟩ := hbm.resolve_left (fun h => by have := h.1; omega)
        have := r.app sl
        rw [k2] at this
        rw [List.take_append_drop] at this
        rw [k3, Int.add_zero, k2]
        exact this
    · obtain ⟨-, k1, k2, k3⟩ := hbm.resolve_left (fun h => by have := h.1; omega)
      refine Or.inr ⟨f5, by omega, ?_, by omega⟩
      rw [drop_s (l := t) (n := (f - 4).toNat) (by omega), ← g2, k2, show (m - 4).toNat = (f - 4).toNat + 1 by omega]
  · have fin : ∀ m c1 c2, 0 ≤ m → m < 11 → v (ix f x m) ≤ c1 → b m ≤ c2 → 0 ≤ c1 → 0 ≤ c2 → c = c1 + c2 → R ≤ c := fun m c1 c2 m0 m1 l1 l2 l3 l4 l5 => by
      have := h3 m m0 m1 (by omega) (by omega)
      omega
    rcases hc with ⟨f1, r⟩ | ⟨f5, g1, g2, g3⟩
    · have c0 := RC.nn hw (by unfold BR; omega) r
      rcases (show RC BR y.2.2.2.2 ex f ([x] ++ sl) q t c from r).split with ⟨t', e1, e2⟩ | ⟨m, c1, c2, e1, e2, e3⟩
      · by_cases et : t' = []
        · subst et
          have l1 := hv.2.1 f x q c hf.1 f1 hx.1 hx.2 hq.1 (by omega) (Or.inl ⟨by omega, e2⟩) hl
          have l2 := (hb q hq.1 (by omega)).2.2 0 (Or.inl ⟨hq.2, by rw [e1]; exact RC.refl _ _⟩) (by omega)
          exact fin q c 0 hq.1 (by omega) l1 l2 c0 (by omega) (by omega)
        · have hn : t'.length ≠ 0 := fun e => et (List.length_eq_zero_iff.mp e)
          have hl2 : t.length = t'.length + sl.length := by rw [e1, List.length_append]
          have tk : t.take t'.length = t' := by rw [e1]; exact List.take_left
          have dr : t.drop t'.length = sl := by rw [e1]; exact List.drop_left
          have l1 := hv.2.1 f x (4 + t'.length) c hf.1 f1 hx.1 hx.2 (by omega) (by omega) (Or.inr ⟨by omega, by omega, by rw [show ((4 : Int) + t'.length - 4).toNat = t'.length by omega, tk]; exact e2⟩) hl
          have l2 := (hb (4 + t'.length) (by omega) (by omega)).2.2 0 (Or.inr ⟨by omega, by omega, by rw [show ((4 : Int) + t'.length - 4).toNat = t'.length by omega, dr], rfl⟩) (by omega)
          exact fin _ c 0 (by omega) (by omega) l1 l2 c0 (by omega) (by omega)
      · have hm := RC.state (S := y.1) (G := y.2.1) ok.2.2.2.2.2 e1 ⟨hf.1, f1⟩
        have c10 := RC.nn hw (by unfold BR; omega) e1
        have c20 := RC.nn hw (by unfold BR; omega) e2
        have l1 := hv.2.1 f x m c1 hf.1 f1 hx.1 hx.2 hm.1 (by omega) (Or.inl ⟨by omega, e1⟩) (by omega)
        have l2 := (hb m hm.1 (by omega)).2.2 c2 (Or.inl ⟨hm.2, e2⟩) (by omega)
        exact fin m c1 c2 hm.1 (by omega) l1 l2 c10 c20 e3
    · have hlt2 : (f - 4).toNat < t.length := by
        have := congrArg List.length g2
        rw [List.length_cons, List.length_drop] at this
        omega
      rw [drop_s (l := t) (n := (f - 4).toNat) hlt2] at g2
      obtain ⟨z1, z2⟩ := List.cons.inj g2
      have l1 := hv.2.2 (f - 4).toNat (by omega) hlt2
      rw [← z1, show (4 : Int) + ((f - 4).toNat : Int) = f by omega, show (5 : Int) + ((f - 4).toNat : Int) = f + 1 by omega] at l1
      have l2 := (hb (f + 1) (by omega) (by omega)).2.2 0 (Or.inr ⟨by omega, by omega, by rw [z2, show (f + 1 - 4).toNat = (f - 4).toNat + 1 by omega], rfl⟩) (by omega)
      exact fin (f + 1) 0 0 (by omega) (by omega) (by omega) l2 (by omega) (by omega) (by omega)
