/-! ===== Search: the costs by height ===== -/
def SQ0 (y : Sy) (ex q : Int) (t : List Int) (c : Nat) : Prop := okS y ∧ isSr c ∧ (-6 ≤ ex ∧ ex < 20) ∧ (0 ≤ q ∧ q < y.1) ∧ (∀ d ∈ t, 1 ≤ d ∧ d ≤ y.2.1) ∧ t.length ≤ 6
def SQ (y : Sy) (ex q : Int) (t : List Int) (m : Mem) (c : Nat) : Prop := PL m y ∧ m (sumS c) 0 = ex ∧ PRok y.2.2.2.2 ex (m (sumS c + 1)) ∧ m c 3 = q ∧ m c 4 = t.length ∧ m c 9 = capS c ∧ AimOK y ex q t m c t.length
theorem SQ.congr {y : Sy} {ex q : Int} {t : List Int} {m m1 : Mem} {c : Nat} (h : SQ y ex q t m c) (hc : isSr c) (hl : t.length ≤ 6) (h1 : ∀ p, p < 42 ∨ (c < p ∧ p < c + 9) → m1 p = m p) (h2 : ∀ j, 3 ≤ j → m1 c j = m c j) : SQ y ex q t m1 c := by
  obtain ⟨a1, a2, a3, a4, a5, a6, a7⟩ := h
  have hsum := sumS_le (c := c)
  exact ⟨a1.congr (fun p p1 p2 => h1 p (by omega)), by rw [h1 _ (by omega)]; exact a2, by rw [h1 _ (by omega)]; exact a3, by rw [h2 _ (by omega)]; exact a4, by rw [h2 _ (by omega)]; exact a5, by rw [h2 _ (by omega)]; exact a6, a7.congr (fun i hi => by rw [h1 _ (by omega)]) (fun i hi => h1 _ (by omega))⟩
def lvlS (y : Sy) (ex q : Int) (t : List Int) (m : Mem) (c : Nat) (s : List Int) : Prop := m (c + 11) s.length = bI (s <:+ t) ∧ ∀ p, 0 ≤ p → p < y.1 → TMn NO (RC BB y.2.2.2.2 ex p s q t) (m (c + 10) (s.length * 4 + p))
def SOK (y : Sy) (ex q : Int) (t : List Int) (m : Mem) (c : Nat) : List Int → Prop
  | [] => lvlS y ex q t m c []
  | x :: s => lvlS y ex q t m c (x :: s) ∧ m (c + 9) s.length = x ∧ SOK y ex q t m c s
theorem SOK.lv {y : Sy} {ex q : Int} {t : List Int} {m : Mem} {c : Nat} : ∀ {s : List Int}, SOK y ex q t m c s → lvlS y ex q t m c s
  | [], h => h
  | _ :: _, h => h.1
theorem SOK.congr {y : Sy} {ex q : Int} {t : List Int} {m m1 : Mem} {c : Nat} (hS : y.1 ≤ 4) : ∀ {s : List Int}, SOK y ex q t m c s → (∀ i : Int, i < s.length → m1 (c + 9) i = m (c + 9) i) → (∀ i : Int, i ≤ s.length → m1 (c + 11) i = m (c + 11) i) → (∀ i : Int, i < (s.length + 1) * 4 → m1 (c + 10) i = m (c + 10) i) → SOK y ex q t m1 c s
  | [], h, h1, h2, h3 => ⟨by rw [h2 _ (by omega)]; exact h.1, fun p p0 p1 => by rw [h3 _ (by rw [List.length_nil]; omega)]; exact h.2 p p0 p1⟩
  | x :: s, h, h1, h2, h3 => by
    have e : ((x :: s).length : Int) = s.length + 1 := by rw [List.length_cons]; omega
    rw [e] at h1 h2 h3
    refine ⟨⟨by rw [e, h2 _ (by omega), ← e]; exact h.1.1, fun p p0 p1 => by rw [e, h3 _ (by omega), ← e]; exact h.1.2 p p0 p1⟩, by rw [h1 _ (by omega)]; exact h.2.1, SOK.congr hS h.2.2 (fun i hi => h1 i (by omega)) (fun i hi => h2 i (by omega)) (fun i hi => h3 i (by omega))⟩
/-- a run that ends with what stood below still there -/
def stayR (y : Sy) (ex q : Int) (t : List Int) (p x : Int) (s : List Int) (c : Int) : Prop := ∃ t', t' ≠ [] ∧ t = t' ++ s ∧ RC BB y.2.2.2.2 ex p [x] q t' c
theorem l_X3_cwt (c : Nat) (mem : Mem) (y : Sy) (ex q : Int) (t s : List Int) (p x : Int) (h0 : SQ0 y ex q t c) (hq : SQ y ex q t mem c) (hs : SOK y ex q t mem c s) (hh : mem c 1 = s.length) (hcap : s.length ≤ capS c) (hp : 0 ≤ p ∧ p < y.1) (hx : 1 ≤ x ∧ x ≤ y.2.1) :
    ∀ (j : Nat) (i L u4 : Int) (u8 u9 : AV), i + j = y.1 → 0 ≤ i → 0 ≤ L → L ≤ NO → (L < NO → RC BB y.2.2.2.2 ex p (x :: s) q t L) → (∀ c0, stayR y ex q t p x s c0 → c0 < NO → L ≤ c0) → (∀ m c1 c2, 0 ≤ m → m < i → RC BB y.2.2.2.2 ex p [x] m [] c1 → RC BB y.2.2.2.2 ex m s q t c2 → c1 + c2 < NO → L ≤ c1 + c2) →
    V cX3_costWithTop RX3 10 (some .long) (rmk 1 23) (mE (fun r m => ∃ z, r = aL z ∧ mem = m ∧ TMn NO (RC BB y.2.2.2.2 ex p (x :: s) q t) z)) 70 [aR c, aI p, aI x, aI (p * 5 + x - 1), aI u4, aL L, aU, aI i, u8, u9] [] mem := by
  obtain ⟨ok, hc, hex, hq2, ht, hlt⟩ := h0
  obtain ⟨hpl, hS0, hpr, g3, g4, g9, ha⟩ := hq
  have hNO := NO_def
  have hS := ok.1
  have hG := ok.2.1
  have hw := okRs.w (S := y.1) (G := y.2.1) ok.2.2.2.2.2
  have hBB : 1 ≤ BB := by unfold BB; omega
  have e29 := hpl.1
  have hcp : capS c ≤ 310 := by unfold capS; split <;> omega
  intro j
  induction j with
  | zero =>
    intro i L u4 u8 u9 h1 i0 L0 L1 L2 L3 L4
    refine v_iload (j := 7) (q := 72) rfl dX3_costWithTop_70 rfl ?_
    refine v_aload_n (j := 0) (q := 73) rfl dX3_costWithTop_72 rfl ?_
    refine v_getR (p' := 29) (q := 76) dX3_costWithTop_73 fl_X3_40 (sr0 hc) rfl (rfc_3_7 (sr0 hc)) rfl ?_
    refine v_getI (j := 0) (q := 79) dX3_costWithTop_76 fl_X3_128 kd_29 rfl rfl rfl ?_
    rw [e29]
    refine v_icmp_ge (tgt := 124) (q := 82) dX3_costWithTop_79 (by decide) rfl (by omega) (by omega) (fun h79 => ?_) (fun h79 => ?_)
    · refine v_lload (j := 5) (q := 126) rfl dX3_costWithTop_124 rfl ?_
      refine v_lret dX3_costWithTop_126 ?_
      refine ⟨L, rfl, rfl, L1, L2, fun c0 hr hl => ?_⟩
      rcases (show RC BB y.2.2.2.2 ex p ([x] ++ s) q t c0 from hr).split with ⟨t', e1, e2⟩ | ⟨m, x1, x2, f1, f2, f3⟩
      · by_cases e : t' = []
        · subst e
          have hm := RC.state (S := y.1) (G := y.2.1) ok.2.2.2.2.2 e2 hp
          have := L4 q c0 0 hm.1 (by omega) e2 (by rw [e1]; exact RC.refl _ _) (by omega)
          omega
        · exact L3 c0 ⟨t', e, e1, e2⟩ hl
      · have hm := RC.state (S := y.1) (G := y.2.1) ok.2.2.2.2.2 f1 hp
        rw [f3]
        exact L4 m x1 x2 hm.1 (by omega) f1 f2 (by omega)
    · exact absurd h79 (by omega)
  | succ j ih =>
    intro i L u4 u8 u9 h1 i0 L0 L1 L2 L3 L4
    obtain ⟨a1, a2, a3⟩ := hpr ((p * 5 + x - 1) * 4 + i) (by omega) (by omega)
    have a0 := hpr.rng ok (i := (p * 5 + x - 1) * 4 + i) (by omega) (by omega)
    rw [PRi_hd (by omega) hp.1 (by omega)] at a2
    have a3 : ∀ c0, RC BB y.2.2.2.2 ex p [x] i [] c0 → c0 < NO → mem (sumS c + 1) ((p * 5 + x - 1) * 4 + i) ≤ c0 := fun c0 h => a3 c0 (by rw [PRi_hd (by omega) hp.1 (by omega)]; exact h)
    obtain ⟨b1, b2, b3⟩ := hs.lv.2 i i0 (by omega)
    have b0 : 0 ≤ mem (c + 10) (s.length * 4 + i) := by
      rcases Int.lt_or_le (mem (c + 10) (s.length * 4 + i)) NO with hl | hl
      · exact RC.nn hw hBB (b2 hl)
      · omega
    obtain ⟨A, hA⟩ : ∃ A, A = mem (sumS c + 1) ((p * 5 + x - 1) * 4 + i) := ⟨_, rfl⟩
    obtain ⟨B, hB⟩ : ∃ B, B = mem (c + 10) (s.length * 4 + i) := ⟨_, rfl⟩
    rw [← hA] at a0 a1 a2 a3
    rw [← hB] at b0 b1 b2 b3
    refine v_iload (j := 7) (q := 72) rfl dX3_costWithTop_70 rfl ?_
    refine v_aload_n (j := 0) (q := 73) rfl dX3_costWithTop_72 rfl ?_
    refine v_getR (p' := 29) (q := 76) dX3_costWithTop_73 fl_X3_40 (sr0 hc) rfl (rfc_3_7 (sr0 hc)) rfl ?_
    refine v_getI (j := 0) (q := 79) dX3_costWithTop_76 fl_X3_128 kd_29 rfl rfl rfl ?_
    rw [e29]
    refine v_icmp_ge (tgt := 124) (q := 82) dX3_costWithTop_79 (by decide) rfl (by omega) (by omega) (fun h79 => ?_) (fun h79 => ?_)
    · exact absurd h79 (by omega)
    · refine v_aload_n (j := 0) (q := 83) rfl dX3_costWithTop_82 rfl ?_
      refine v_getR (p' := sumS c) (q := 86) dX3_costWithTop_83 fl_X3_44 (sr0 hc) rfl (srS hc) rfl ?_
      refine v_iload_n (j := 3) (q := 87) rfl dX3_costWithTop_86 rfl ?_
      refine v_iload (j := 7) (q := 89) rfl dX3_costWithTop_87 rfl ?_
      refine v_cVL2 (q := 92) dX3_costWithTop_89 mlX3_135 mdX5_costOfRemoving (by decide) (sum1 srB) rfl rfl ⟨Nat.le_refl 0, Nat.le_refl 0⟩ (by exact Nat.le_of_ble_eq_true rfl) rfl (c_X5_costOfRemoving (sumS c) (p * 5 + x - 1) i _ srB (by omega) (by omega)) ?_
      rintro _ _ ⟨rfl, rfl⟩
      rw [← hA]
      refine v_aload_n (j := 0) (q := 93) rfl dX3_costWithTop_92 rfl ?_
      refine v_getR (p' := c + 10) (q := 96) dX3_costWithTop_93 fl_X3_54 (sr0 hc) rfl (rfc_3_11 (sr0 hc)) rfl ?_
      refine v_aload_n (j := 0) (q := 97) rfl dX3_costWithTop_96 rfl ?_
      refine v_getI (j := 1) (q := 100) dX3_costWithTop_97 fl_X3_17 (sr0 hc) rfl rfl rfl ?_
      rw [hh]
      refine v_iconst (q := 101) dX3_costWithTop_100 rfl ?_
      refine v_imul (q := 102) dX3_costWithTop_101 rfl ?_
      refine v_iload (j := 7) (q := 104) rfl dX3_costWithTop_102 rfl ?_
      refine v_iadd (q := 105) dX3_costWithTop_104 rfl ?_
      refine v_lald (q := 106) dX3_costWithTop_105 (sr10 hc) (by omega) (by omega) rfl ?_
      rw [← hB]
      refine v_ladd (q := 107) dX3_costWithTop_106 rfl ?_
      refine v_lst8 (q := 109) rfl dX3_costWithTop_107 (by decide) rfl ?_
      refine v_lload (j := 5) (q := 111) rfl dX3_costWithTop_109 rfl ?_
      refine v_lload (j := 8) (q := 113) rfl dX3_costWithTop_111 rfl ?_
      refine v_mminl (q := 116) dX3_costWithTop_113 mlX3_138 (by decide) ⟨Nat.le_refl 0, Nat.le_refl 0⟩ (by exact Nat.le_of_ble_eq_true rfl) rfl (by omega) (by omega) ?_
      refine v_lst5 (q := 118) rfl dX3_costWithTop_116 (by decide) rfl ?_
      refine v_iinc7 (q := 121) rfl dX3_costWithTop_118 (by decide) rfl ?_
      refine v_goto (q := 70) dX3_costWithTop_121 (by decide) ?_
      refine ih (i + 1) _ _ _ _ (by omega) (by omega) (by omega) (by omega) (fun hl => ?_) (fun c0 h9 hl => ?_) (fun m c1 c2 m0 m1 r1 r2 hl => ?_)
      · by_cases hm : L ≤ A + B
        · rw [Int.min_eq_left hm] at hl ⊢
          exact L2 hl
        · rw [Int.min_eq_right (by omega)] at hl ⊢
          exact ((a2 (by omega)).app s).trans (b2 (by omega))
      · have := L3 c0 h9 hl
        omega
      · by_cases e : m = i
        · subst e
          have y1 := RC.nn hw hBB r1
          have y2 := RC.nn hw hBB r2
          have y3 := a3 c1 r1 (by omega)
          have y4 := b3 c2 r2 (by omega)
          omega
        · have := L4 m c1 c2 m0 (by omega) r1 r2 hl
          omega
