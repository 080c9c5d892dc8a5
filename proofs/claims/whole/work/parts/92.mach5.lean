/-! ===== Machine: the table and the rows are the least ===== -/
def srcI (f : Int) : Int := if f < 0 then -1 else if f < 4 then f else if f < 10 then -1 else if f < 30 then f - 6 else if f < 31 then -1 else if f < 35 then f - 7 else -1
theorem srcI_ok {f : Int} (h : 0 ≤ srcI f) : srcI f < 28 ∧ nodS (srcI f) = f := by
  unfold srcI at h ⊢
  unfold nodS nodE
  by_cases h1 : f < 0
  · rw [if_pos h1] at h; omega
  rw [if_neg h1] at h ⊢
  by_cases h2 : f < 4
  · rw [if_pos h2, if_pos h2]; omega
  rw [if_neg h2] at h ⊢
  by_cases h3 : f < 10
  · rw [if_pos h3] at h; omega
  rw [if_neg h3] at h ⊢
  by_cases h4 : f < 30
  · rw [if_pos h4, if_neg (by omega), if_pos (by omega)]; omega
  rw [if_neg h4] at h ⊢
  by_cases h5 : f < 31
  · rw [if_pos h5] at h; omega
  rw [if_neg h5] at h ⊢
  by_cases h6 : f < 35
  · rw [if_pos h6, if_neg (by omega), if_neg (by omega)]; omega
  · rw [if_neg h6] at h; omega
theorem srcI_nodS {f : Int} (h : 0 ≤ f ∧ f < 28) : srcI (nodS f) = f := by
  unfold nodS nodE
  by_cases h1 : f < 4
  · rw [if_pos h1]
    unfold srcI
    rw [if_neg (by omega), if_pos h1]
  · rw [if_neg h1]
    by_cases h2 : f - 4 < 20
    · rw [if_pos h2]
      unfold srcI
      rw [if_neg (by omega), if_neg (by omega), if_neg (by omega), if_pos (by omega)]
      omega
    · rw [if_neg h2]
      unfold srcI
      rw [if_neg (by omega), if_neg (by omega), if_neg (by omega), if_neg (by omega), if_neg (by omega), if_pos (by omega)]
      omega
theorem srcI_nodE {e : Int} (h : 0 ≤ e ∧ e < 24) : srcI (nodE e) = e + 4 := by
  have := srcI_nodS (f := e + 4) (by omega)
  rw [nodE_sub (by omega), show e + 4 - 4 = e by omega] at this
  exact this
theorem nodE_inj {e e2 : Int} (h : 0 ≤ e ∧ e < 24) (h2 : 0 ≤ e2 ∧ e2 < 24) (he : nodE e = nodE e2) : e = e2 := by
  have a := srcI_nodE h
  have b := srcI_nodE h2
  rw [he] at a
  omega
def Tw (w : Int → Int) (f l s : Int) : Int := if 0 ≤ srcI f ∧ (0 ≤ l ∧ l < 6) ∧ 4 ≤ srcI s then (if w (wx (srcI f) l (srcI s - 4)) = -6 then 1000001 else w (wx (srcI f) l (srcI s - 4))) else 1000001
theorem Tw_le {w : Int → Int} {f l s d : Int} (h : Tw w f l s ≤ d) (hd : d ≤ 1000000) : ∃ (src : Int) (e : Nat), rg src l ∧ e < 24 ∧ nodS src = f ∧ nodE e = s ∧ w (wx src l e) ≠ -6 ∧ w (wx src l e) ≤ d := by
  unfold Tw at h
  by_cases h1 : 0 ≤ srcI f ∧ (0 ≤ l ∧ l < 6) ∧ 4 ≤ srcI s
  · rw [if_pos h1] at h
    have a := srcI_ok h1.1
    have b := srcI_ok (f := s) (by omega)
    by_cases h2 : w (wx (srcI f) l (srcI s - 4)) = -6
    · rw [if_pos h2] at h; omega
    · rw [if_neg h2] at h
      refine ⟨srcI f, (srcI s - 4).toNat, ⟨⟨h1.1, a.1⟩, h1.2.1⟩, by omega, a.2, ?_, ?_, ?_⟩
      · rw [show (((srcI s - 4).toNat : Nat) : Int) = srcI s - 4 by omega, ← nodE_sub h1.2.2]
        exact b.2
      · rw [show (((srcI s - 4).toNat : Nat) : Int) = srcI s - 4 by omega]; exact h2
      · rw [show (((srcI s - 4).toNat : Nat) : Int) = srcI s - 4 by omega]; exact h
  · rw [if_neg h1] at h; omega
theorem Tw_at {w : Int → Int} {f l e : Int} (hf : rg f l) (he : 0 ≤ e ∧ e < 24) : Tw w (nodS f) l (nodE e) = if w (wx f l e) = -6 then 1000001 else w (wx f l e) := by
  unfold Tw
  rw [srcI_nodS hf.1, srcI_nodE he, if_pos ⟨hf.1.1, hf.2, by omega⟩, show e + 4 - 4 = e by omega]
theorem Tw_nn {w : Int → Int} (hw : TWr w) (f l s : Int) : 0 ≤ Tw w f l s := by
  unfold Tw
  split
  · rename_i h1
    have a := srcI_ok h1.1
    have b := srcI_ok (f := s) (by omega)
    split
    · omega
    · rename_i h2
      have r := wx_rng (f := srcI f) (l := l) (e := srcI s - 4) ⟨h1.1, a.1⟩ h1.2.1 (by omega)
      have := hw _ r.1 r.2
      omega
  · omega
/-- all ends are done that are open or of the start stack -/
def DnF (y : Sy) (m : Mem) (x : Int) : Prop := (20 ≤ x ∧ x < 20 + ((dgs y.2.2.2.1).length : Int)) ∨ ((0 ≤ x ∧ x < 20) ∧ m 111 x = 1)
theorem BI.row {y : Sy} (ok : okS y) {m : Mem} {Dn : Int → Prop} (h : BI y m Dn) {e : Nat} (he : e < 24) (hd : Dn e) : (∀ x, 0 ≤ x → x < 20 → 0 ≤ m (86 + e) x ∧ m (86 + e) x ≤ NO) ∧ (∀ (k : Nat) (r : Rl) (i c : Int), y.2.2.2.2[k]? = some r → eS y.1 (m 39) r i c (hdR r) → 0 ≤ c → 0 ≤ i → i < 20 → m (86 + e) (hdR r) + c < NO → m (86 + e) i ≤ m (86 + e) (hdR r) + c) ∧ ∀ x, 0 ≤ x → x < 20 → v0E y (m 84) e x < NO → m (86 + e) x ≤ v0E y (m 84) e x := by
  have hNO := NO_def
  have fe := (h.2.2.2.1 e he hd).1
  have gk := gok_spread ok h.2.2.1.2.2 (v0 := v0E y (m 84) e) (fun x h0 h1 => ⟨(v0E_rng h.1 (by omega) ⟨h0, h1⟩).1, (v0E_rng h.1 (by omega) ⟨h0, h1⟩).2.1⟩)
  refine ⟨fun x h0 h1 => ⟨?_, (fe.1 x h0 h1).1⟩, fun k r i c hr hs c0 i0 i1 hl => ?_, fun x h0 h1 hl => (fe.1 x h0 h1).2.2 _ ⟨x, 0, h0, h1, hl, RC.refl _ _, by omega⟩ hl⟩
  · rcases Int.lt_or_le (m (86 + e) x) NO with hl | hl
    · exact gk.1 x _ ((fe.1 x h0 h1).2.1 hl)
    · omega
  · have okr := ok.2.2.2.2.2 r (List.mem_of_getElem? hr)
    obtain ⟨c1, c2, c3⟩ := rl_cases okr ok.2.1.2 ok.1.2
    have pj := (fe.1 (hdR r) c1.1 c1.2).2.1 (by omega)
    have := (fe.1 i i0 i1).2.2 _ (gk.2.1 k r hr (by omega) i c (hdR r) _ hs (by omega) pj) (by omega)
    omega
theorem BI.rd {y : Sy} (ok : okS y) {m : Mem} (h : BI y m (DnF y m)) {p x s d : Int} (hp : 0 ≤ p ∧ p < y.1) (hx : 1 ≤ x ∧ x ≤ y.2.1) (hd : d ≤ 1000000) (hr : RDa (fun f l s w => Tw (m 84) f l s ≤ w) p x s d) : ∃ e : Nat, e < 24 ∧ DnF y m e ∧ nodE e = s ∧ m (86 + e) (p * 5 + x - 1) < NO ∧ m (86 + e) (p * 5 + x - 1) / 16777216 ≤ d := by
  have hNO := NO_def
  have hS := ok.1
  have hG := ok.2.1
  have hwt := okRs.w (S := y.1) (G := y.2.1) ok.2.2.2.2.2
  have pst : ∀ src : Int, 0 ≤ src → src < 28 → nodS src = p → src = p := fun src h0 h1 e => by
    have := srcI_nodS (f := src) ⟨h0, h1⟩
    rw [e] at this
    have h2 : srcI p = p := by unfold srcI; rw [if_neg (by omega), if_pos (by omega)]
    omega
  have done : ∀ (e : Nat) f l, e < 24 → rg f l → m 84 (wx f l e) ≠ -6 → DnF y m e := fun e f l he hf hne => by
    by_cases hD : DnF y m e
    · exact hD
    · exact absurd ((h.2.2.2.2.1 e he hD).2 f l hf) hne
  rcases hr with hr | ⟨t, d1, d2, ha, hb, hd12⟩
  · obtain ⟨src, e, hf, he, e1, e2, hne, hle⟩ := Tw_le hr hd
    have es := pst src hf.1.1 hf.1.2 e1
    subst es
    have hD := done e _ _ he hf hne
    obtain ⟨rr1, rr2, rr3⟩ := h.row ok he hD
    have fe := (h.2.2.2.1 e he hD).1
    refine ⟨e, he, hD, e2, ?_⟩
    rcases fe.2.1 src x hf with g | ⟨g1, g2⟩ | ⟨k, r, g1, g2, g3, g4, g5⟩
    · exact absurd g hne
    · have : m (86 + e) (src * 5 + x - 1) ≤ 0 := by
        have v : v0E y (m 84) e (src * 5 + x - 1) = 0 := by
          unfold v0E
          rcases g1 with ⟨a, b, c⟩ | ⟨a, b, c⟩ | ⟨a, b, c⟩
          · rw [if_pos a, if_pos (by omega)]
          · rw [if_neg (by omega), if_pos a, if_pos (by omega)]
          · omega
        have := rr3 (src * 5 + x - 1) (by omega) (by omega) (by rw [v]; omega)
        omega
      omega
    · have okr := ok.2.2.2.2.2 r (List.mem_of_getElem? g1)
      obtain ⟨c1, c2, c3⟩ := rl_cases okr ok.2.1.2 ok.1.2
      have q0 := okr.2.2.1
      have n1 : nd r.2.2.2.1 = 1 := by
        unfold tgS at g3
        unfold tgL at g4
        rcases c3 with ⟨n0, d0⟩ | ⟨n1, -⟩ | ⟨n2, z1, z2, z3, z4, z5, z6⟩
        · rw [if_pos n0] at g4; omega
        · exact n1
        · rw [if_pos n2] at g3; omega
      obtain ⟨-, z2, z3, z4, z5⟩ := (c3.resolve_left (fun h => by have := h.1; omega)).resolve_right (fun h => by have := h.1; omega)
      have ei : src * 5 + x - 1 = nxR r := by
        unfold tgS at g3
        unfold tgL at g4
        rw [if_neg (by omega)] at g3
        rw [if_neg (by omega), if_pos n1] at g4
        omega
      have := rr2 k r (nxR r) (cr BB r) g1 (Or.inl ⟨n1, rfl, rfl, rfl⟩) (by omega) (by omega) (by omega) g2
      rw [ei]
      omega
  · have n1 := Tw_nn h.1 p 0 t
    have n2 := Tw_nn h.1 t x s
    obtain ⟨src, et, hf, het, e1, e2, hne, hle⟩ := Tw_le ha (by omega)
    have es := pst src hf.1.1 hf.1.2 e1
    subst es
    obtain ⟨src2, e, hf2, he, e3, e4, hne2, hle2⟩ := Tw_le hb (by omega)
    have hDt := done et _ _ het hf hne
    have hD := done e _ _ he hf2 hne2
    have es2 : src2 = (et : Int) + 4 := by
      have := srcI_nodS (f := src2) hf2.1
      rw [e3, ← e2, srcI_nodE (by omega)] at this
      omega
    subst es2
    obtain ⟨rr1, rr2, rr3⟩ := h.row ok he hD
    have fe := (h.2.2.2.1 e he hD).1
    have sd := (h.2.2.2.1 e he hD).2
    have fet := (h.2.2.2.1 et het hDt).1
    refine ⟨e, he, hD, e4, ?_⟩
    -- the arc with the label 0
    obtain ⟨k2, r2, a1, a2, a3, a4, a5⟩ : ∃ (k : Nat) (r : Rl), y.2.2.2.2[k]? = some r ∧ m (86 + et) (hdR r) + cr BB r < NO ∧ src = tgS r ∧ (0 : Int) = tgL r ∧ m 84 (wx src 0 et) = (m (86 + et) (hdR r) + cr BB r) / 16777216 := by
      rcases fet.2.1 src 0 hf with g | ⟨g1, g2⟩ | g
      · exact absurd g hne
      · rcases g1 with ⟨a, b, c⟩ | ⟨a, b, c⟩ | ⟨a, b, c⟩
        · omega
        · have := getD_sym ok (i := 0) (by have := ok.2.2.2.1.2.1; have := dgs_len y.2.2.2.1; omega)
          have c : 0 = (dgs y.2.2.2.1).getD 0 0 := c
          omega
        · omega
      · exact g
    have okr2 := ok.2.2.2.2.2 r2 (List.mem_of_getElem? a1)
    obtain ⟨c1, c2, c3⟩ := rl_cases okr2 ok.2.1.2 ok.1.2
    have n0 : nd r2.2.2.2.1 = 0 ∧ dgs r2.2.2.2.1 = [] := by
      unfold tgS at a3
      unfold tgL at a4
      rcases c3 with ⟨n0, d0⟩ | ⟨n1, z1, z2, z3, z4⟩ | ⟨n2, z1, z2, z3, z4, z5, z6⟩
      · exact ⟨n0, d0⟩
      · rw [if_neg (by omega), if_pos n1] at a4; omega
      · rw [if_neg (by omega), if_neg (by omega)] at a4; omega
    have eq2 : src = r2.2.2.1 := by
      unfold tgS at a3
      rw [if_neg (by omega)] at a3
      exact a3
    rcases fe.2.1 _ x hf2 with g | ⟨g1, g2⟩ | ⟨k3, r3, b1, b2, b3, b4, b5⟩
    · exact absurd g hne2
    · rcases g1 with ⟨a, b, c⟩ | ⟨a, b, c⟩ | ⟨a, b, c⟩
      · omega
      · have := ok.2.2.1; omega
      · have ee : (e : Int) - 1 = et := by omega
        have v : v0E y (m 84) e (src * 5 + x - 1) = m 84 (wx src 0 et) * 16777216 := by
          unfold v0E
          rw [if_neg (by omega), if_neg (by omega), show (src * 5 + x - 1) / 5 = src by omega, show (src * 5 + x - 1) % 5 + 1 = x by omega, ee, if_pos ⟨⟨c, hp.2⟩, hne⟩]
        have w9 := h.1 _ (wx_rng hf.1 hf.2 (show 0 ≤ (et : Int) ∧ (et : Int) < 24 by omega)).1 (wx_rng hf.1 hf.2 (by omega)).2
        have := rr3 (src * 5 + x - 1) (by omega) (by omega) (by rw [v]; omega)
        rw [v] at this
        omega
    · have okr3 := ok.2.2.2.2.2 r3 (List.mem_of_getElem? b1)
      obtain ⟨f1, f2, f3⟩ := rl_cases okr3 ok.2.1.2 ok.1.2
      have q3 := okr3.2.2.1
      have n3 : nd r3.2.2.2.1 = 2 := by
        unfold tgS at b3
        rcases f3 with ⟨n0, d0⟩ | ⟨n1, -⟩ | ⟨n2, -⟩
        · rw [if_neg (by omega)] at b3; omega
        · rw [if_neg (by omega)] at b3; omega
        · exact n2
      obtain ⟨-, z2, z3, z4, z5, z6, z7⟩ := (f3.resolve_left (fun h => by have := h.1; omega)).resolve_left (fun h => by have := h.1; omega)
      have eet : (et : Int) = nxR r3 := by
        unfold tgS at b3
        rw [if_pos n3] at b3
        omega
      have ex3 : x = blR r3 := by
        unfold tgL at b4
        rw [if_neg (by omega), if_neg (by omega)] at b4
        exact b4
      -- the price of the head
      have pv := (fet.1 (hdR r2) c1.1 c1.2).2.1 (by omega)
      obtain ⟨h0, c', x0, x1, x2, ⟨N, W, x3, x5⟩, x4⟩ := pv
      have x5 : c' = W * 16777216 + N := x5
      have eh0 : h0 = et ∧ v0E y (m 84) et h0 = 0 := by
        unfold v0E at x2 ⊢
        rw [if_pos (by omega)] at x2 ⊢
        by_cases g : h0 = et
        · rw [if_pos g]; exact ⟨g, rfl⟩
        · rw [if_neg g] at x2; exact absurd x2 (Int.lt_irrefl _)
      have hx2 := okr2.2.1
      rw [eh0.1, show hdR r2 / 5 = r2.1 by unfold hdR; omega, show hdR r2 % 5 + 1 = r2.2.1 by unfold hdR; omega] at x3
      have run : Run y.2.2.2.2 (-6) (N + 1) ((et : Int) / 5) [(et : Int) % 5 + 1] src [] (W + r2.2.2.2.2) := by
        have one : Run y.2.2.2.2 (-6) 1 r2.1 [r2.2.1] src [] r2.2.2.2.2 := ⟨k2, r2, [], a1, by omega, rfl, rfl, by rw [n0.2]; exact ⟨eq2.symm, rfl, by omega⟩⟩
        exact Run.trans one x3
      have l1 := x3.le hwt
      have hcr2 : cr BB r2 = r2.2.2.2.2 * 16777216 + 1 := rfl
      have hw2 := okr2.2.2.2.2
      have hcr3 : cr BB r3 = r3.2.2.2.2 * 16777216 + 1 := rfl
      have hw3 := okr3.2.2.2.2
      have pr := h.2.2.1.2.2 (nxR r3 * 4 + src) (by omega) (by omega)
      have pr2 := pr.2.2 ((W + r2.2.2.2.2) * 16777216 + ((N + 1 : Nat) : Int)) (by
        rw [z3, PRi_hd (by omega) q3.1 (by omega)]
        rw [eet, z3, show (r3.2.2.1 * 5 + r3.2.2.2.1 / 10 - 1) / 5 = r3.2.2.1 by omega, show (r3.2.2.1 * 5 + r3.2.2.2.1 / 10 - 1) % 5 + 1 = r3.2.2.2.1 / 10 by omega] at run
        exact ⟨N + 1, _, run, rfl⟩) (by omega)
      have pr0 := h.2.2.1.2.2.rng ok (i := nxR r3 * 4 + src) (by omega) (by omega)
      have cnt := (sd.1 (hdR r3) f1.1 f1.2 (by omega)).2
      have := rr2 k3 r3 (src * 5 + x - 1) (cr BB r3 + m 39 (nxR r3 * 4 + src)) b1 (Or.inr ⟨n3, src, hp.1, hp.2, rfl, by rw [ex3], rfl⟩) (by omega) (by omega) (by omega) (by omega)
      omega
