/-! ===== Machine: the ends that are done ===== -/
def stS (y : Sy) (i : Int) : Int := (dgs y.2.2.2.1).getD i.toNat 0
/-- the first costs of a row, the first arcs to an end -/
def v0E (y : Sy) (w : Int → Int) (e h : Int) : Int := if e < 20 then (if h = e then 0 else NO) else if e = 20 then (if h = y.2.2.1 * 5 + stS y 0 - 1 then 0 else NO) else if (h % 5 + 1 = stS y (e - 20) ∧ h / 5 < y.1) ∧ w (wx (h / 5) 0 (e - 1)) ≠ -6 then w (wx (h / 5) 0 (e - 1)) * 16777216 else NO
def bsE (y : Sy) (e f l : Int) : Prop := (e < 20 ∧ f = e / 5 ∧ l = e % 5 + 1) ∨ (e = 20 ∧ f = y.2.2.1 ∧ l = stS y 0) ∨ (20 < e ∧ f = e + 3 ∧ l = stS y (e - 20))
def nodE (e : Int) : Int := if e < 20 then 10 + e else 11 + e
def nodS (f : Int) : Int := if f < 4 then f else nodE (f - 4)
/-- an end whose arcs are all there -/
def FE (y : Sy) (m : Mem) (e : Nat) : Prop := (∀ h, 0 ≤ h → h < 20 → TMn NO (PV y.2.2.2.2 (v0E y (m 84) e) h) (m (86 + e) h)) ∧
  (∀ f l, rg f l → m 84 (wx f l e) = -6 ∨ (bsE y e f l ∧ m 84 (wx f l e) = 0) ∨ ∃ (k : Nat) (r : Rl), y.2.2.2.2[k]? = some r ∧ m (86 + e) (hdR r) + cr BB r < NO ∧ f = tgS r ∧ l = tgL r ∧ m 84 (wx f l e) = (m (86 + e) (hdR r) + cr BB r) / 16777216) ∧
  (∀ f l, rg f l → bsE y e f l → m 84 (wx f l e) = 0) ∧
  (∀ (k : Nat) (r : Rl), y.2.2.2.2[k]? = some r → m (86 + e) (hdR r) + cr BB r < NO → m 84 (wx (tgS r) (tgL r) e) ≠ -6 ∧ m 84 (wx (tgS r) (tgL r) e) ≤ (m (86 + e) (hdR r) + cr BB r) / 16777216) ∧
  ∀ (k : Nat) (r : Rl), y.2.2.2.2[k]? = some r → nd r.2.2.2.1 = 2 → m (86 + e) (hdR r) < NO → m 111 (nxR r) = 1
/-- what stands there follows -/
def SDE (y : Sy) (m : Mem) (e : Nat) : Prop := (∀ h, 0 ≤ h → h < 20 → m (86 + e) h < NO → RDa (AD y) (h / 5) (h % 5 + 1) (nodE e) (m (86 + e) h / 16777216) ∧ m (86 + e) h % 16777216 ≤ 1000000) ∧ ∀ f l, rg f l → m 84 (wx f l e) ≠ -6 → AD y (nodS f) l (nodE e) (m 84 (wx f l e))
def BI (y : Sy) (m : Mem) (Dn : Int → Prop) : Prop := TWr (m 84) ∧ OQ m ∧ PLN m y ∧ (∀ e : Nat, e < 24 → Dn e → FE y m e ∧ SDE y m e) ∧ (∀ e : Nat, e < 24 → ¬ Dn e → (∀ h, 0 ≤ h → h < 20 → m (86 + e) h = NO) ∧ ∀ f l, rg f l → m 84 (wx f l e) = -6) ∧ (∀ h, 0 ≤ h → h < 20 → m 111 h = 1 → AD y (h / 5) (h % 5 + 1) (10 + h) 0) ∧ ∀ e, 20 < e → e < 24 → Dn e → Dn (e - 1)
theorem PV.congr {rs : List Rl} {v0 v1 : Int → Int} (h : ∀ x, 0 ≤ x → x < 20 → v0 x = v1 x) {i c : Int} (hp : PV rs v0 i c) : PV rs v1 i c := by
  obtain ⟨h0, c', a0, a1, a2, a3, a4⟩ := hp
  exact ⟨h0, c', a0, a1, by rw [← h h0 a0 a1]; exact a2, a3, by rw [← h h0 a0 a1]; exact a4⟩
theorem TMn.congr {bd : Int} {P Q : Int → Prop} (h : ∀ c, P c ↔ Q c) {v : Int} (ht : TMn bd P v) : TMn bd Q v := ⟨ht.1, fun hl => (h v).mp (ht.2.1 hl), fun c hc hl => ht.2.2 c ((h c).mpr hc) hl⟩
theorem v0E_rng {y : Sy} {w : Int → Int} (hw : TWr w) {e h : Int} (he : 0 ≤ e ∧ e < 24) (hh : 0 ≤ h ∧ h < 20) : 0 ≤ v0E y w e h ∧ v0E y w e h ≤ NO ∧ (v0E y w e h < NO → v0E y w e h % 16777216 = 0) := by
  have hNO := NO_def
  unfold v0E
  split
  · split <;> omega
  · split
    · split <;> omega
    · split
      · rename_i h1 h2 h3
        have := hw (wx (h / 5) 0 (e - 1)) (wx_rng (by omega) (by omega) (by omega)).1 (wx_rng (by omega) (by omega) (by omega)).2
        have h4 := h3.2
        omega
      · omega
theorem nodE_sub {e : Int} (h : 4 ≤ e) : nodS e = nodE (e - 4) := by unfold nodS; rw [if_neg (by omega)]
/-- the rows follow from their first costs -/
theorem row_sound {y : Sy} (ok : okS y) {w : Int → Int} (hw : TWr w) {e : Int} (he : 0 ≤ e ∧ e < 24) (hb : ∀ h, 0 ≤ h → h < 20 → v0E y w e h < NO → RDa (AD y) (h / 5) (h % 5 + 1) (nodE e) (v0E y w e h / 16777216)) {h c : Int} (hp : PV y.2.2.2.2 (v0E y w e) h c) (hc : c < NO) : RDa (AD y) (h / 5) (h % 5 + 1) (nodE e) (c / 16777216) ∧ c % 16777216 ≤ 1000000 := by
  have hwt := okRs.w (S := y.1) (G := y.2.1) ok.2.2.2.2.2
  have hNO := NO_def
  obtain ⟨h0, c', a0, a1, a2, ⟨n, W, a3, a5⟩, a4⟩ := hp
  have a5 : c' = W * 16777216 + n := a5
  have vr := v0E_rng (y := y) hw he ⟨a0, a1⟩
  have v2 := vr.2.2 a2
  have l1 := a3.le hwt
  have r1 := hb h0 a0 a1 a2
  have := (rd_run ok n n (Nat.le_refl _) _ _ _ _ W r1 (by omega)).2 _ _ a3
  rw [show v0E y w e h0 / 16777216 + W = c / 16777216 by omega] at this
  exact ⟨this, by omega⟩
theorem tg_mk {y : Sy} (ok : okS y) {k : Nat} {r : Rl} (hr : y.2.2.2.2[k]? = some r) {e d : Int} (hd : d + r.2.2.2.2 ≤ 1000000) : mkA r e d (nodS (tgS r)) (tgL r) e (d + r.2.2.2.2) := by
  have okr := ok.2.2.2.2.2 r (List.mem_of_getElem? hr)
  obtain ⟨c1, c2, c3⟩ := rl_cases okr ok.2.1.2 ok.1.2
  have hS := ok.1
  have hG := ok.2.1
  have q0 := okr.2.2.1
  unfold tgS tgL nodS
  rcases c3 with ⟨n0, d0⟩ | ⟨n1, d1, d2, d3, d4⟩ | ⟨n2, d1, d2, d3, d4, d5, d6⟩
  · rw [if_neg (show ¬ nd r.2.2.2.1 = 2 by omega), if_pos n0, if_pos (by omega)]
    exact Or.inl ⟨n0, rfl, rfl, rfl, rfl, hd⟩
  · rw [if_neg (show ¬ nd r.2.2.2.1 = 2 by omega), if_neg (show ¬ nd r.2.2.2.1 = 0 by omega), if_pos n1, if_pos (by omega)]
    exact Or.inr (Or.inl ⟨n1, rfl, rfl, rfl, rfl, hd⟩)
  · rw [if_pos n2, if_neg (show ¬ nd r.2.2.2.1 = 0 by omega), if_neg (show ¬ nd r.2.2.2.1 = 1 by omega), if_neg (by omega)]
    refine Or.inr (Or.inr ⟨n2, Or.inr ⟨?_, ?_, rfl, rfl, hd⟩⟩)
    · unfold nodE nodH
      rw [if_pos (by omega)]
      omega
    · unfold blR
      rw [if_pos n2]
theorem BI.add {y : Sy} (ok : okS y) {mem m1 m : Mem} {Dn : Int → Prop} {e : Nat} (h : BI y mem Dn) (he : e < 24) (hn : ¬ Dn e) (hdn : 20 < e → Dn ((e : Int) - 1)) (hop : e < 20 → mem 111 e = 1) (hch : 20 ≤ e → e - 20 < (dgs y.2.2.2.1).length)
    (f1 : ∀ p, p ≠ 84 → p ≠ 86 + e → m1 p = mem p) (r1 : ∀ x, 0 ≤ x → x < 20 → m1 (86 + e) x = v0E y (mem 84) e x)
    (t1 : ∀ (f l e2 : Int), rg f l → 0 ≤ e2 → e2 < 24 → ¬ (e2 = e ∧ bsE y e f l) → m1 84 (wx f l e2) = mem 84 (wx f l e2)) (t2 : ∀ f l, rg f l → bsE y e f l → m1 84 (wx f l e) = 0) (q : atQ y e m1 m) : BI y m (fun x => Dn x ∨ x = e) := by
  obtain ⟨b1, b2, b3, b4, b5, b6, b7⟩ := h
  obtain ⟨q1, q2, q3, q4, q5⟩ := q
  have hNO := NO_def
  have hG := ok.2.1
  have hS := ok.1
  have keep : ∀ (f l e2 : Int), rg f l → 0 ≤ e2 → e2 < 24 → e2 ≠ e → m 84 (wx f l e2) = mem 84 (wx f l e2) := fun f l e2 hf h0 h1 h2 => by
    rw [q3.1 f l e2 hf h0 h1 h2]
    exact t1 f l e2 hf h0 h1 (fun h => h2 h.1)
  have rgp : ∀ x, 0 ≤ x → x < 20 → rg (x / 5) 0 := fun x h0 h1 => ⟨by omega, by omega⟩
  have v0s : ∀ (e2 : Nat) x, 0 ≤ x → x < 20 → (20 < e2 → e2 < 24 ∧ (e2 : Int) - 1 ≠ e) → v0E y (m 84) e2 x = v0E y (mem 84) e2 x := fun e2 x h0 h1 h2 => by
    unfold v0E
    by_cases g1 : (e2 : Int) < 20
    · rw [if_pos g1, if_pos g1]
    · rw [if_neg g1, if_neg g1]
      by_cases g2 : (e2 : Int) = 20
      · rw [if_pos g2, if_pos g2]
      · rw [if_neg g2, if_neg g2, keep _ _ _ (rgp x h0 h1) (by omega) (by omega) (h2 (by omega)).2]
  have row : ∀ e2 : Nat, e2 ≠ e → e2 < 24 → m (86 + e2) = mem (86 + e2) := fun e2 h2 h3 => by
    rw [q1 _ (by omega) (by omega) (by omega) (by omega) (by omega), f1 _ (by omega) (by omega)]
  have op111 : ∀ x, 0 ≤ x → x < 20 → mem 111 x = 1 → m 111 x = 1 := fun x h0 h1 h2 => (q5.2.2.2.1 x h0 h1).mpr (Or.inl (by rw [f1 111 (by omega) (by omega)]; exact h2))
  have pvE : ∀ x, 0 ≤ x → x < 20 → TMn NO (PV y.2.2.2.2 (v0E y (mem 84) e) x) (m (86 + e) x) := fun x h0 h1 => (q2 x h0 h1).congr (fun c => ⟨PV.congr (fun z z0 z1 => r1 z z0 z1), PV.congr (fun z z0 z1 => (r1 z z0 z1).symm)⟩)
  have pvE2 : ∀ x, 0 ≤ x → x < 20 → TMn NO (PV y.2.2.2.2 (v0E y (m 84) e) x) (m (86 + e) x) := fun x h0 h1 => (pvE x h0 h1).congr (fun c => ⟨PV.congr (fun z z0 z1 => (v0s e z z0 z1 (fun _ => ⟨he, by omega⟩)).symm), PV.congr (fun z z0 z1 => v0s e z z0 z1 (fun _ => ⟨he, by omega⟩))⟩)
  have fe : FE y m e := by
    refine ⟨pvE2, fun f l hf => ?_, fun f l hf hb => ?_, fun k r hr hlt => q3.2.2.2 k r (List.getElem?_eq_some_iff.mp hr).1 hr hlt, fun k r hr h2 hlt => ?_⟩
    · rcases q3.2.1 f l hf with g | ⟨k, r, g1, g2, g3, g4, g5, g6⟩
      · by_cases hb : bsE y e f l
        · exact Or.inr (Or.inl ⟨hb, by rw [g, t2 f l hf hb]⟩)
        · refine Or.inl ?_
          rw [g, t1 f l e hf (by omega) (by omega) (fun h => hb h.2)]
          exact (b5 e he hn).2 f l hf
      · exact Or.inr (Or.inr ⟨k, r, g2, g3, g4, g5, g6⟩)
    · have := q3.2.2.1 f l hf (by rw [t2 f l hf hb]; omega)
      rw [t2 f l hf hb] at this
      have r9 := wx_rng hf.1 hf.2 (show 0 ≤ (e : Int) ∧ (e : Int) < 24 by omega)
      have := q4 _ r9.1 r9.2
      omega
    · have okr := ok.2.2.2.2.2 r (List.mem_of_getElem? hr)
      obtain ⟨c1, c2, c3⟩ := rl_cases okr ok.2.1.2 ok.1.2
      obtain ⟨-, z2, z3, z4, z5, z6, z7⟩ := (c3.resolve_left (fun h => by have := h.1; omega)).resolve_left (fun h => by have := h.1; omega)
      have q0 := okr.2.2.1
      exact (q5.2.2.2.1 (nxR r) (by omega) (by omega)).mpr (Or.inr ⟨k, r, (List.getElem?_eq_some_iff.mp hr).1, hr, h2, hlt, rfl⟩)
  -- what follows
  have base : ∀ f l, bsE y e f l → AD y (nodS f) l (nodE e) 0 := fun f l hb => by
    rcases hb with ⟨g1, rfl, rfl⟩ | ⟨g1, rfl, rfl⟩ | ⟨g1, rfl, rfl⟩
    · have := b6 e (by omega) (by omega) (hop (by omega))
      unfold nodS nodE
      rw [if_pos (by omega), if_pos g1]
      exact this
    · have h3 := ok.2.2.1
      refine AD.base ⟨0, hch (by omega) |> fun _ => by have := hch (by omega); omega, ?_, rfl, ?_, rfl⟩
      · unfold nodS
        rw [if_pos (by omega), if_pos rfl]
      · unfold nodE
        rw [if_neg (by omega)]
        omega
    · have hc := hch (by omega)
      refine AD.base ⟨e - 20, hc, ?_, ?_, ?_, rfl⟩
      · rw [nodE_sub (by omega), if_neg (by omega)]
        unfold nodE
        rw [if_neg (by omega)]
        omega
      · unfold stS
        rw [show ((e : Int) - 20).toNat = e - 20 by omega]
      · unfold nodE
        rw [if_neg (by omega)]
        omega
  have hb0 : ∀ x, 0 ≤ x → x < 20 → v0E y (mem 84) e x < NO → RDa (AD y) (x / 5) (x % 5 + 1) (nodE e) (v0E y (mem 84) e x / 16777216) := fun x h0 h1 hl => by
    unfold v0E at hl ⊢
    by_cases g1 : (e : Int) < 20
    · rw [if_pos g1] at hl ⊢
      by_cases g2 : x = e
      · rw [if_pos g2, g2]
        have := base (e / 5) (e % 5 + 1) (Or.inl ⟨g1, rfl, rfl⟩)
        unfold nodS at this
        rw [if_pos (by omega)] at this
        exact Or.inl this
      · rw [if_neg g2] at hl
        exact absurd hl (Int.lt_irrefl _)
    · rw [if_neg g1] at hl ⊢
      by_cases g2 : (e : Int) = 20
      · rw [if_pos g2] at hl ⊢
        have hs := getD_sym ok (hch (by omega))
        have hs0 : 1 ≤ stS y 0 ∧ stS y 0 ≤ y.2.1 := by
          have e0 : e - 20 = 0 := by omega
          rw [e0] at hs
          exact hs
        by_cases g3 : x = y.2.2.1 * 5 + stS y 0 - 1
        · rw [if_pos g3]
          have h3 := ok.2.2.1
          have := base y.2.2.1 (stS y 0) (Or.inr (Or.inl ⟨g2, rfl, rfl⟩))
          unfold nodS at this
          rw [if_pos (by omega)] at this
          rw [show x / 5 = y.2.2.1 by omega, show x % 5 + 1 = stS y 0 by omega]
          exact Or.inl this
        · rw [if_neg g3] at hl
          exact absurd hl (Int.lt_irrefl _)
      · rw [if_neg g2] at hl ⊢
        by_cases g3 : (x % 5 + 1 = stS y (e - 20) ∧ x / 5 < y.1) ∧ mem 84 (wx (x / 5) 0 (e - 1)) ≠ -6
        · rw [if_pos g3]
          have d1 := (b4 (e - 1) (by omega) (by rw [show ((e - 1 : Nat) : Int) = (e : Int) - 1 by omega]; exact hdn (by omega))).2.2 (x / 5) 0 (rgp x h0 h1)
          rw [show ((e - 1 : Nat) : Int) = (e : Int) - 1 by omega] at d1
          have d2 := d1 g3.2
          have d3 := base (e + 3) (stS y (e - 20)) (Or.inr (Or.inr ⟨by omega, rfl, rfl⟩))
          rw [nodE_sub (by omega), show (e : Int) + 3 - 4 = e - 1 by omega] at d3
          unfold nodS at d2
          rw [if_pos (by omega)] at d2
          rw [g3.1.1]
          exact Or.inr ⟨_, _, _, d2, d3, by omega⟩
        · rw [if_neg g3] at hl
          exact absurd hl (Int.lt_irrefl _)
  have rs : ∀ x, 0 ≤ x → x < 20 → m (86 + e) x < NO → RDa (AD y) (x / 5) (x % 5 + 1) (nodE e) (m (86 + e) x / 16777216) ∧ m (86 + e) x % 16777216 ≤ 1000000 := fun x h0 h1 hl => row_sound ok b1 (by omega) hb0 ((pvE x h0 h1).2.1 hl) hl
  have hd5 : ∀ {k : Nat} {r : Rl}, y.2.2.2.2[k]? = some r → (0 ≤ hdR r ∧ hdR r < 20) ∧ hdR r / 5 = r.1 ∧ hdR r % 5 + 1 = r.2.1 := fun {k r} hr => by
    have okr := ok.2.2.2.2.2 r (List.mem_of_getElem? hr)
    obtain ⟨c1, c2, c3⟩ := rl_cases okr ok.2.1.2 ok.1.2
    have x1 := okr.2.1
    refine ⟨c1, ?_⟩
    unfold hdR at c1 ⊢
    omega
  have sd : SDE y m e := by
    refine ⟨rs, fun f l hf hne => ?_⟩
    rcases fe.2.1 f l hf with g | ⟨g1, g2⟩ | ⟨k, r, g1, g2, g3, g4, g5⟩
    · exact absurd g hne
    · rw [g2]
      exact base f l g1
    · obtain ⟨h1, h2, h3⟩ := hd5 g1
      have okr := ok.2.2.2.2.2 r (List.mem_of_getElem? g1)
      have hw1 := okr.2.2.2.2
      have hcr : cr BB r = r.2.2.2.2 * 16777216 + 1 := rfl
      obtain ⟨s1, s2⟩ := rs (hdR r) h1.1 h1.2 (by omega)
      rw [h2, h3] at s1
      have hd := s1.nn ok
      have := AD.step g1 s1 (by omega) (tg_mk ok g1 (e := nodE e) (d := m (86 + e) (hdR r) / 16777216) (by omega))
      rw [g5, g3, g4, show (m (86 + e) (hdR r) + cr BB r) / 16777216 = m (86 + e) (hdR r) / 16777216 + r.2.2.2.2 by omega]
      exact this
  refine ⟨q4, q5.1, b3.congr (fun p h1 h2 => by rw [q1 p (by omega) (by omega) (by omega) (by omega) (by omega), f1 p (by omega) (by omega)]), fun e2 h2 hd => ?_, fun e2 h2 hd => ?_, fun x h0 h1 hx => ?_, fun e2 h0 h1 hd => ?_⟩
  · by_cases ee : e2 = e
    · subst ee
      exact ⟨fe, sd⟩
    · have hd2 : Dn e2 := hd.resolve_right (fun h => ee (by omega))
      obtain ⟨⟨x1, x2, x3, x4, x5⟩, x6, x7⟩ := b4 e2 h2 hd2
      have re := row e2 ee h2
      have tk : ∀ f l, rg f l → m 84 (wx f l e2) = mem 84 (wx f l e2) := fun f l hf => keep f l e2 hf (by omega) (by omega) (by omega)
      have v0e : ∀ x, 0 ≤ x → x < 20 → v0E y (m 84) e2 x = v0E y (mem 84) e2 x := fun x h0 h1 => v0s e2 x h0 h1 (fun h9 => ⟨h2, fun h8 => hn (by rw [← h8]; exact b7 e2 (by omega) (by omega) hd2)⟩)
      refine ⟨⟨fun x h0 h1 => ?_, fun f l hf => ?_, fun f l hf hb => by rw [tk f l hf]; exact x3 f l hf hb, fun k r hr hlt => ?_, fun k r hr hn2 hlt => ?_⟩, ?_, fun f l hf hne => ?_⟩
      · rw [re]
        exact (x1 x h0 h1).congr (fun c => ⟨PV.congr (fun z z0 z1 => (v0e z z0 z1).symm), PV.congr (fun z z0 z1 => v0e z z0 z1)⟩)
      · rw [tk f l hf, re]
        exact x2 f l hf
      · rw [re] at hlt ⊢
        have tr := tg_rng ok hr
        rw [tk _ _ tr]
        exact x4 k r hr hlt
      · rw [re] at hlt
        have okr := ok.2.2.2.2.2 r (List.mem_of_getElem? hr)
        obtain ⟨c1, c2, c3⟩ := rl_cases okr ok.2.1.2 ok.1.2
        obtain ⟨-, z2, z3, z4, z5, z6, z7⟩ := (c3.resolve_left (fun h => by have := h.1; omega)).resolve_left (fun h => by have := h.1; omega)
        have q0 := okr.2.2.1
        exact op111 _ (by omega) (by omega) (x5 k r hr hn2 hlt)
      · rw [re]
        exact x6
      · rw [tk f l hf] at hne ⊢
        exact x7 f l hf hne
  · have hd2 : ¬ Dn e2 := fun h => hd (Or.inl h)
    have ee : e2 ≠ e := fun h => hd (Or.inr (by rw [h]))
    rw [row e2 ee h2]
    refine ⟨(b5 e2 h2 hd2).1, fun f l hf => ?_⟩
    rw [keep f l e2 hf (by omega) (by omega) (by omega)]
    exact (b5 e2 h2 hd2).2 f l hf
  · rcases (q5.2.2.2.1 x h0 h1).mp hx with g | ⟨k, r, g1, g2, g3, g4, g5⟩
    · rw [f1 111 (by omega) (by omega)] at g
      exact b6 x h0 h1 g
    · obtain ⟨i1, i2, i3⟩ := hd5 g2
      have okr := ok.2.2.2.2.2 r (List.mem_of_getElem? g2)
      obtain ⟨c1, c2, c3⟩ := rl_cases okr ok.2.1.2 ok.1.2
      obtain ⟨-, z2, z3, z4, z5, z6, z7⟩ := (c3.resolve_left (fun h => by have := h.1; omega)).resolve_left (fun h => by have := h.1; omega)
      have q0 := okr.2.2.1
      obtain ⟨s1, s2⟩ := rs (hdR r) i1.1 i1.2 g4
      rw [i2, i3] at s1
      have := AD.step g2 s1 (by omega) (Or.inr (Or.inr ⟨g3, Or.inl ⟨rfl, rfl, rfl, rfl⟩⟩))
      unfold nodH at this
      rw [g5, show nxR r / 5 = r.2.2.1 by omega, show nxR r % 5 + 1 = r.2.2.2.1 / 10 by omega, show 10 + nxR r = 10 + 5 * r.2.2.1 + r.2.2.2.1 / 10 - 1 by omega]
      exact this
  · rcases hd with hd | hd
    · exact Or.inl (b7 e2 h0 h1 hd)
    · rw [hd]
      exact Or.inl (hdn (by omega))
