/-! ===== The state of the class, as the document speaks of it: a system, the kept ones, a text ===== -/
def SR (m : Mem) (b : Nat) (y : Sy) : Prop := y = syC m b ∧ (0 ≤ m b 4 ∧ m b 4 ≤ 20) ∧ okS y ∧ ∀ i, 0 ≤ i → i < 100 → R32 (m (b + 1) i)
theorem SR.congr {m m1 : Mem} {b : Nat} {y : Sy} (h : SR m b y) (h1 : m1 b = m b) (h2 : m1 (b + 1) = m (b + 1)) : SR m1 b y := by
  obtain ⟨a, c, d, e⟩ := h
  refine ⟨by rw [a]; unfold syC; rw [h1, h2], by rw [h1]; exact c, d, by rw [h2]; exact e⟩
theorem cpS_ne (mem : Mem) {b d q : Nat} (h1 : q ≠ b) (h2 : q ≠ b + 1) : cpS mem b d q = mem q := by unfold cpS; rw [if_neg h1, if_neg h2]
theorem cpS_b (mem : Mem) (b d : Nat) {j : Int} (h0 : 0 ≤ j) (h1 : j ≤ 4) : cpS mem b d b j = mem d j := by unfold cpS; rw [if_pos rfl]; exact if_pos ⟨h0, h1⟩
theorem cpS_b1 (mem : Mem) (b d : Nat) {j : Int} (h0 : 0 ≤ j) (h1 : j < 100) : cpS mem b d (b + 1) j = mem (d + 1) j := by unfold cpS; rw [if_neg (by omega), if_pos rfl]; exact if_pos ⟨h0, h1⟩
theorem SR.copied {m : Mem} {b d : Nat} {y : Sy} (h : SR m d y) : SR (cpS m b d) b y := by
  obtain ⟨a, c, e, f⟩ := h
  have e4 := cpS_b m b d (j := 4) (by omega) (by omega)
  refine ⟨?_, by rw [e4]; exact c, e, fun i h0 h1 => by rw [cpS_b1 m b d h0 h1]; exact f i h0 h1⟩
  rw [a]
  unfold syC
  rw [cpS_b m b d (j := 0) (by omega) (by omega), cpS_b m b d (j := 1) (by omega) (by omega), cpS_b m b d (j := 2) (by omega) (by omega), cpS_b m b d (j := 3) (by omega) (by omega), e4]
  congr 4
  apply rls_ext
  intro i h0 h1
  rw [Int.zero_add, cpS_b1 m b d h0 (by omega)]
/-- the kept systems, the oldest first -/
def HR (m : Mem) (hs : List Sy) : Prop := HP (m 6) ∧ m 5 0 = hs.length ∧ hs.length ≤ 8 ∧ ∀ i : Nat, (h : i < hs.length) → SR m (m 6 i).toNat hs[i]
def hpush (hs : List Sy) (y : Sy) : List Sy := if hs.length < 8 then hs ++ [y] else hs.drop 1 ++ [y]
theorem HR.congr {m m1 : Mem} {hs : List Sy} (h : HR m hs) (h1 : ∀ q, 5 ≤ q → q ≤ 22 → m1 q = m q) : HR m1 hs := by
  obtain ⟨a, b, c, d⟩ := h
  refine ⟨by rw [h1 6 (by omega) (by omega)]; exact a, by rw [h1 5 (by omega) (by omega)]; exact b, c, fun i hi => ?_⟩
  rw [h1 6 (by omega) (by omega)]
  have e := a.1 i (by omega) (by omega)
  have e2 := su4 (pu_su e.2)
  have e3 := pu_ne e.2
  exact (d i hi).congr (h1 _ (by omega) (by omega)) (h1 _ (by omega) (by omega))
theorem HR.rec {m : Mem} {hs : List Sy} {y : Sy} (h : HR m hs) (hy : SR m 1 y) : HR (recM m) (hpush hs y) ∧ ∀ q, q < 5 ∨ 23 ≤ q → recM m q = m q := by
  obtain ⟨a, b, c, d⟩ := h
  unfold recM hpush
  by_cases h8 : hs.length < 8
  · rw [if_pos (by omega), if_pos h8]
    have e := a.1 (m 5 0) (by omega) (by omega)
    have e3 := pu_ne e.2
    have e4 := su4 (pu_su e.2)
    obtain ⟨w, hw⟩ : ∃ w, w = (m 6 (m 5 0)).toNat := ⟨_, rfl⟩
    rw [← hw] at e e3 e4 ⊢
    have o : ∀ q, q ≠ 5 → q ≠ w → q ≠ w + 1 → cpS (um m 5 0 (m 5 0 + 1)) w 1 q = m q := fun q q1 q2 q3 => by rw [cpS_ne _ q2 q3, um_ne _ _ _ q1]
    refine ⟨⟨by rw [o 6 (by omega) (by omega) (by omega)]; exact a, ?_, by simp; omega, fun i hi => ?_⟩, fun q hq => o q (by omega) (by omega) (by omega)⟩
    · rw [cpS_ne _ (by omega) (by omega), um_same, ui_same, b]
      simp
    · rw [o 6 (by omega) (by omega) (by omega)]
      by_cases hi2 : i < hs.length
      · rw [List.getElem_append_left hi2]
        have e6 := a.1 i (by omega) (by omega)
        have e7 := su4 (pu_su e6.2)
        have e8 := pu_ne e6.2
        have e9 : (m 6 i).toNat ≠ w := fun hh => by
          have := a.2 i (m 5 0) (by omega) (by omega) (by omega) (by omega) (by omega)
          omega
        have e10 := su3 (pu_su e6.2) (pu_su e.2)
        exact (d i hi2).congr (o _ (by omega) e9 e10.1) (o _ (by omega) e10.2 (by omega))
      · have hi3 : i = hs.length := by simp at hi; omega
        subst hi3
        rw [List.getElem_append_right (Nat.le_refl _)]
        simp only [Nat.sub_self, List.getElem_cons_zero]
        rw [show (m 6 (hs.length : Int)).toNat = w by rw [← b]; exact hw.symm]
        exact (hy.congr (m1 := um m 5 0 (m 5 0 + 1)) (um_ne _ _ _ (by decide)) (um_ne _ _ _ (by decide))).copied
  · rw [if_neg (by omega), if_neg h8]
    have e := a.1 0 (by omega) (by omega)
    have e3 := pu_ne e.2
    have e4 := su4 (pu_su e.2)
    obtain ⟨w, hw⟩ : ∃ w, w = (m 6 0).toNat := ⟨_, rfl⟩
    rw [← hw] at e e3 e4 ⊢
    have o : ∀ q, q ≠ 6 → q ≠ w → q ≠ w + 1 → cpS (drM m) w 1 q = m q := fun q q1 q2 q3 => by rw [cpS_ne _ q2 q3, drM_ne _ q1]
    have o6 : cpS (drM m) w 1 6 = rotF (m 6) := by rw [cpS_ne _ (by omega) (by omega), drM_6]
    refine ⟨⟨by rw [o6]; exact HP_rot a, ?_, by simp; omega, fun i hi => ?_⟩, fun q hq => o q (by omega) (by omega) (by omega)⟩
    · rw [o 5 (by omega) (by omega) (by omega), b]
      simp
      omega
    · rw [o6]
      have hl : (hs.drop 1).length = 7 := by simp; omega
      by_cases hi2 : i < 7
      · rw [List.getElem_append_left (by omega), List.getElem_drop]
        have e0 : rotF (m 6) i = m 6 ((1 + i : Nat) : Int) := by
          unfold rotF
          rw [if_pos (by omega)]
          congr 1
          omega
        rw [e0]
        have e6 := a.1 ((1 + i : Nat) : Int) (by omega) (by omega)
        have e7 := su4 (pu_su e6.2)
        have e8 := pu_ne e6.2
        have e9 : (m 6 ((1 + i : Nat) : Int)).toNat ≠ w := fun hh => by
          have := a.2 ((1 + i : Nat) : Int) 0 (by omega) (by omega) (by omega) (by omega) (by omega)
          omega
        have e10 := su3 (pu_su e6.2) (pu_su e.2)
        exact (d (1 + i) (by omega)).congr (o _ (by omega) e9 e10.1) (o _ (by omega) e10.2 (by omega))
      · have hi3 : i = 7 := by simp at hi; omega
        subst hi3
        rw [List.getElem_append_right (by omega)]
        simp only [hl, Nat.sub_self, List.getElem_cons_zero]
        have e0 : rotF (m 6) ((7 : Nat) : Int) = m 6 0 := by
          unfold rotF
          rw [if_neg (by omega), if_pos (by omega)]
        rw [e0, ← hw]
        exact (hy.congr (m1 := drM m) (drM_ne _ (by decide)) (drM_ne _ (by decide))).copied
theorem HR.res {m : Mem} {hs : List Sy} (h : HR m hs) (hp : 0 < hs.length) : HR (resM m) (hs.take (hs.length - 1)) ∧ SR (resM m) 1 (hs[hs.length - 1]'(by omega)) ∧ ∀ q, q = 0 ∨ q = 3 ∨ q = 4 ∨ 23 ≤ q → resM m q = m q := by
  obtain ⟨a, b, c, d⟩ := h
  unfold resM
  have e := a.1 (m 5 0 - 1) (by omega) (by omega)
  have e3 := pu_ne e.2
  have e4 := su4 (pu_su e.2)
  have hd := d (hs.length - 1) (by omega)
  rw [show ((hs.length - 1 : Nat) : Int) = m 5 0 - 1 by omega] at hd
  obtain ⟨w, hw⟩ : ∃ w, w = (m 6 (m 5 0 - 1)).toNat := ⟨_, rfl⟩
  rw [← hw] at e e3 e4 hd ⊢
  have o : ∀ q, q ≠ 5 → q ≠ 1 → q ≠ 2 → cpS (um m 5 0 (m 5 0 - 1)) 1 w q = m q := fun q q1 q2 q3 => by rw [cpS_ne _ q2 q3, um_ne _ _ _ q1]
  refine ⟨⟨by rw [o 6 (by omega) (by omega) (by omega)]; exact a, ?_, by simp; omega, fun i hi => ?_⟩, ?_, fun q hq => o q (by omega) (by omega) (by omega)⟩
  · rw [cpS_ne _ (by omega) (by omega), um_same, ui_same, b]
    simp
    omega
  · rw [o 6 (by omega) (by omega) (by omega), List.getElem_take]
    simp at hi
    have e6 := a.1 i (by omega) (by omega)
    have e7 := su4 (pu_su e6.2)
    have e8 := pu_ne e6.2
    exact (d i (by omega)).congr (o _ (by omega) (by omega) (by omega)) (o _ (by omega) (by omega) (by omega))
  · exact (hd.congr (m1 := um m 5 0 (m 5 0 - 1)) (um_ne _ _ _ (by omega)) (um_ne _ _ _ (by omega))).copied
/-- the text -/
def TR (m : Mem) (t : List Int) : Prop := m 23 0 = t.length ∧ t.length ≤ 200 ∧ (∀ i : Nat, i < t.length → m 24 i = t.getD i 0) ∧ ∀ c ∈ t, 32 ≤ c ∧ c ≤ 126
abbrev AS : Type := Sy × List Sy × List Int
def SI (m : Mem) (A : AS) : Prop := SR m 1 A.1 ∧ HR m A.2.1 ∧ TR m A.2.2
theorem TR.congr {m m1 : Mem} {t : List Int} (h : TR m t) (h1 : m1 23 = m 23) (h2 : m1 24 = m 24) : TR m1 t := by
  unfold TR
  rw [h1, h2]
  exact h
theorem SI.congr {m m1 : Mem} {A : AS} (h : SI m A) (h1 : ∀ q, 1 ≤ q → q ≤ 24 → q ≠ 3 → q ≠ 4 → m1 q = m q) : SI m1 A :=
  ⟨h.1.congr (h1 1 (by omega) (by omega) (by omega) (by omega)) (h1 2 (by omega) (by omega) (by omega) (by omega)), h.2.1.congr (fun q a b => h1 q (by omega) (by omega) (by omega) (by omega)), h.2.2.congr (h1 23 (by omega) (by omega) (by omega) (by omega)) (h1 24 (by omega) (by omega) (by omega) (by omega))⟩
/-- nothing of the caches has changed; or they are all forgotten; the reference's places are as they were -/
def fr29 (mem m : Mem) : Prop := ∀ q, q = 0 ∨ 27 ≤ q → m q = mem q
def frC (mem m : Mem) : Prop := m 0 14 = 0 ∧ m 42 = ui (mem 42) 2 0 ∧ m 83 0 = 0 ∧ ∀ q, (27 ≤ q ∧ q ≠ 42 ∧ q ≠ 83) → m q = mem q
theorem fgM_ne (mem : Mem) {q : Nat} (h1 : q ≠ 0) (h2 : q ≠ 42) (h3 : q ≠ 83) : fgM mem q = mem q := by unfold fgM; rw [um_ne _ _ _ h3, um_ne _ _ _ h2, um_ne _ _ _ h1]
theorem fgM_frC (mem : Mem) : frC mem (fgM mem) := by
  refine ⟨?_, ?_, ?_, fun q h => fgM_ne mem (by omega) (by omega) (by omega)⟩
  · unfold fgM; rw [um_ne _ _ _ (by decide), um_ne _ _ _ (by decide), um_same, ui_same]
  · unfold fgM; rw [um_ne _ _ _ (by decide), um_same, um_ne _ _ _ (by decide)]
  · unfold fgM; rw [um_same, ui_same]
theorem SI.rec {m : Mem} {A : AS} (h : SI m A) : SI (fgM (recM m)) (A.1, hpush A.2.1 A.1, A.2.2) ∧ frC m (fgM (recM m)) ∧ HP (m 6) ∧ 0 ≤ m 5 0 ∧ m 5 0 ≤ 8 := by
  obtain ⟨h1, h2, h3⟩ := h
  obtain ⟨r1, r2⟩ := h2.rec h1
  have e : SI (recM m) (A.1, hpush A.2.1 A.1, A.2.2) := ⟨h1.congr (r2 1 (by omega)) (r2 2 (by omega)), r1, h3.congr (r2 23 (by omega)) (r2 24 (by omega))⟩
  have f := fgM_frC (recM m)
  refine ⟨e.congr (fun q a b _ _ => fgM_ne _ (by omega) (by omega) (by omega)), ⟨f.1, by rw [f.2.1, r2 42 (by omega)], f.2.2.1, fun q hq => by rw [f.2.2.2 q hq, r2 q (by omega)]⟩, h2.1, ?_, ?_⟩
  · have := h2.2.1; omega
  · have := h2.2.1; have := h2.2.2.1; omega
