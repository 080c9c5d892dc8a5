/-! ===== Summary: a rule lowers the prices ===== -/
def BB : Int := 16777216
def PRi (rs : List Rl) (ex i c : Int) : Prop := RC BB rs ex (i / 4 / 5) [i / 4 % 5 + 1] (i % 4) [] c
theorem PRi_hd {rs : List Rl} {ex p x t c : Int} (hx : 1 ≤ x ∧ x ≤ 5) (hp : 0 ≤ p) (ht : 0 ≤ t ∧ t < 4) : PRi rs ex ((p * 5 + x - 1) * 4 + t) c ↔ RC BB rs ex p [x] t [] c := by
  unfold PRi
  rw [show ((p * 5 + x - 1) * 4 + t) / 4 / 5 = p by omega, show ((p * 5 + x - 1) * 4 + t) / 4 % 5 + 1 = x by omega, show ((p * 5 + x - 1) * 4 + t) % 4 = t by omega]
def SndP (rs : List Rl) (ex : Int) (v : Int → Int) : Prop := ∀ i, 0 ≤ i → i < 80 → 0 ≤ v i ∧ v i ≤ NO ∧ (v i < NO → PRi rs ex i (v i))
def rlxP (S : Int) (r : Rl) (v v' : Int → Int) : Prop :=
  (nd r.2.2.2.1 = 0 → v' (hdR r * 4 + r.2.2.1) ≤ cr BB r) ∧
  (nd r.2.2.2.1 = 1 → ∀ t, 0 ≤ t → t < S → v' (hdR r * 4 + t) ≤ cr BB r + v (nxR r * 4 + t)) ∧
  (nd r.2.2.2.1 = 2 → ∀ m t, 0 ≤ m → m < S → 0 ≤ t → t < S → v' (hdR r * 4 + t) ≤ cr BB r + v (nxR r * 4 + m) + v ((m * 5 + blR r - 1) * 4 + t) ∨ NO ≤ cr BB r + v (nxR r * 4 + m))
/-- the shapes of a rule -/
theorem rl_cases {S G : Int} {r : Rl} (ok : okR S G r) (hG : G ≤ 5) (hS : S ≤ 4) : (0 ≤ hdR r ∧ hdR r < 20) ∧ (0 ≤ cr BB r ∧ 1 ≤ cr BB r ∧ cr BB r ≤ 400000000) ∧
    ((nd r.2.2.2.1 = 0 ∧ dgs r.2.2.2.1 = []) ∨ (nd r.2.2.2.1 = 1 ∧ dgs r.2.2.2.1 = [r.2.2.2.1] ∧ nxR r = r.2.2.1 * 5 + r.2.2.2.1 - 1 ∧ 1 ≤ r.2.2.2.1 ∧ r.2.2.2.1 ≤ G) ∨ (nd r.2.2.2.1 = 2 ∧ dgs r.2.2.2.1 = [r.2.2.2.1 / 10, blR r] ∧ nxR r = r.2.2.1 * 5 + r.2.2.2.1 / 10 - 1 ∧ 1 ≤ r.2.2.2.1 / 10 ∧ r.2.2.2.1 / 10 ≤ G ∧ 1 ≤ blR r ∧ blR r ≤ G)) := by
  obtain ⟨o1, o2, o3, ⟨o4, o4b⟩, o5⟩ := ok
  refine ⟨by unfold hdR; omega, by unfold cr BB; omega, ?_⟩
  rcases dgs_2 o4.1 o4b with ⟨a, b, c⟩ | ⟨a, b, c, d⟩ | ⟨a, b, c, d⟩
  · exact Or.inl ⟨a, c⟩
  · have := o4.2 r.2.2.2.1 (by rw [d]; exact List.mem_cons_self)
    exact Or.inr (Or.inl ⟨a, d, by unfold nxR; rw [if_neg (by omega), if_pos a], this⟩)
  · have h1 := o4.2 (r.2.2.2.1 / 10) (by rw [d]; exact List.mem_cons_self)
    have h2 := o4.2 (r.2.2.2.1 % 10) (by rw [d]; exact List.mem_cons_of_mem _ List.mem_cons_self)
    have e : blR r = r.2.2.2.1 % 10 := by unfold blR; rw [if_pos a]
    exact Or.inr (Or.inr ⟨a, by rw [e]; exact d, by unfold nxR; rw [if_neg (by omega), if_neg (by omega)], h1.1, h1.2, by rw [e]; exact h2.1, by rw [e]; exact h2.2⟩)
theorem thr_le (v : Int → Int) (base h c S : Int) : ∀ i, thr v base h c S i ≤ v i := fun i => by
  unfold thr
  split <;> omega
theorem thr_snd {rs : List Rl} {ex : Int} {v : Int → Int} {g h c S : Int} (hv : SndP rs ex v) (hg : 0 ≤ g ∧ g < 20) (hh : 0 ≤ h ∧ h < 20) (hc : 0 ≤ c) (hS : S ≤ 4) (hp : ∀ t, 0 ≤ t → t < S → v (h * 4 + t) < NO → c + v (h * 4 + t) < NO → PRi rs ex (g * 4 + t) (c + v (h * 4 + t))) : SndP rs ex (thr v (g * 4) h c S) := by
  intro i i0 i1
  obtain ⟨a, b, d⟩ := hv i i0 i1
  unfold thr
  by_cases e : g * 4 ≤ i ∧ i < g * 4 + S
  · rw [if_pos e]
    obtain ⟨a2, b2, d2⟩ := hv (h * 4 + (i - g * 4)) (by omega) (by omega)
    refine ⟨by omega, by omega, fun hl => ?_⟩
    by_cases h3 : v i ≤ c + v (h * 4 + (i - g * 4))
    · rw [Int.min_eq_left h3] at hl ⊢; exact d hl
    · rw [Int.min_eq_right (by omega)] at hl ⊢
      have := hp (i - g * 4) (by omega) (by omega) (by omega) hl
      rwa [show g * 4 + (i - g * 4) = i by omega] at this
  · rw [if_neg e]; exact ⟨a, b, d⟩
theorem thr_at (v : Int → Int) (g h c S : Int) {t : Int} (h0 : 0 ≤ t) (h1 : t < S) : thr v (g * 4) h c S (g * 4 + t) ≤ c + v (h * 4 + t) := by
  unfold thr
  rw [if_pos (by omega), show g * 4 + t - g * 4 = t by omega]
  omega
def byQ (rs : List Rl) (ex S : Int) (b : Nat) (r : Rl) (mem : Mem) (z : Int) (m : Mem) : Prop := ∃ (v' : Int → Int) (C : Prop), m = sm mem (b + 1) v' ∧ bI C = z ∧ (¬ C → ∀ i, v' i = mem (b + 1) i) ∧ (∀ i, v' i ≤ mem (b + 1) i) ∧ SndP rs ex v' ∧ rlxP S r (mem (b + 1)) v'
theorem l_X5_by (b : Nat) (hb : isSum b) (mem : Mem) (y : Sy) (ex k : Int) (kk : Nat) (r : Rl) (hkk : (kk : Int) = k) (hr : y.2.2.2.2[kk]? = some r) (hex : k ≠ ex) (hk20 : k < 20) (ok : okS y) (okr : okR y.1 y.2.1 r) (h29 : mem 29 0 = y.1) (hpl : PLk mem k r) (hv : SndP y.2.2.2.2 ex (mem (b + 1))) (h2 : nd r.2.2.2.1 = 2) : ∀ (j : Nat) (i : Int) (M : Mem) (v : Int → Int) (C : Prop) (u7 u8 : AV), i + j = y.1 → 0 ≤ i → M = sm mem (b + 1) v → SndP y.2.2.2.2 ex v → (∀ q, v q ≤ mem (b + 1) q) → (¬ C → ∀ q, v q = mem (b + 1) q) → (∀ m t, 0 ≤ m → m < i → 0 ≤ t → t < y.1 → v (hdR r * 4 + t) ≤ cr BB r + mem (b + 1) (nxR r * 4 + m) + mem (b + 1) ((m * 5 + blR r - 1) * 4 + t) ∨ NO ≤ cr BB r + mem (b + 1) (nxR r * 4 + m)) →
    V cX5_lowerPricesBy RX5 9 (some .boolean) (rmk 2 49) (mE (fun q m => ∃ z, q = aI z ∧ byQ y.2.2.2.2 ex y.1 b r mem z m)) 89 [aR b, aI k, aI (hdR r * 4), aL (cr BB r), aU, aI (bI C), aI i, u7, u8] [] M := by
  have hNO := NO_def
  have hbn : ∀ q, 29 ≤ q → q ≤ 37 → q ≠ b + 1 := fun q q1 q2 => by rcases hb with rfl | rfl <;> omega
  obtain ⟨c1, c2, c3⟩ := rl_cases okr ok.2.1.2 ok.1.2
  have c3 := (c3.resolve_left (fun h => by have := h.1; omega)).resolve_left (fun h => by have := h.1; omega)
  obtain ⟨-, d1, d2, d3, d4, d5, d6⟩ := c3
  have hS := ok.1
  have hG := ok.2.1
  obtain ⟨p32, p33, p34, p35, p36, p37⟩ := hpl
  obtain ⟨q0, q1⟩ := okr.2.2.1
  intro j
  induction j with
  | zero =>
    intro i M v C u7 u8 h1 h3 hM hs hle hC hr2
    subst hM
    have e29 : sm mem (b + 1) v 29 = mem 29 := sm_ne _ _ (hbn 29 (by omega) (by omega))
    refine v_iload (j := 6) (q := 91) rfl dX5_lowerPricesBy_89 rfl ?_
    refine v_aload_n (j := 0) (q := 92) rfl dX5_lowerPricesBy_91 rfl ?_
    refine v_getR (p' := 29) (q := 95) dX5_lowerPricesBy_92 fl_X5_19 (sum1 hb) rfl (rfc_5_1 (sum1 hb)) rfl ?_
    refine v_getI (j := 0) (q := 98) dX5_lowerPricesBy_95 fl_X5_64 kd_29 rfl rfl rfl ?_
    rw [e29, h29]
    refine v_icmp_ge (tgt := 162) (q := 101) dX5_lowerPricesBy_98 (by decide) rfl (by omega) (by omega) (fun h98 => ?_) (fun h98 => ?_)
    · refine v_iload (j := 5) (q := 164) rfl dX5_lowerPricesBy_162 rfl ?_
      refine v_zret (by first | exact Or.inl rfl | exact Or.inr rfl | exact bI_01 _ | omega) dX5_lowerPricesBy_164 ?_
      exact ⟨_, rfl, v, C, rfl, rfl, hC, hle, hs, fun h => by omega, fun h => by omega, fun _ m t m0 m1 t0 t1 => hr2 m t m0 (by omega) t0 t1⟩
    · exact absurd h98 (by omega)
  | succ j ih =>
    intro i M v C u7 u8 h1 h3 hM hs hle hC hr2
    have e29 : M 29 = mem 29 := by rw [hM, sm_ne _ _ (hbn 29 (by omega) (by omega))]
    have e35 : M 35 k = nxR r := by rw [hM, sm_ne _ _ (hbn 35 (by omega) (by omega)), p35]
    have e36 : M 36 k = blR r := by rw [hM, sm_ne _ _ (hbn 36 (by omega) (by omega)), p36]
    have ev : M (b + 1) = v := by rw [hM, sm_same]
    obtain ⟨w0, w1, w2⟩ := hs (nxR r * 4 + i) (by omega) (by omega)
    have hle1 := hle (nxR r * 4 + i)
    have hA : ∀ w7 w8, NO ≤ cr BB r + v (nxR r * 4 + i) → V cX5_lowerPricesBy RX5 9 (some .boolean) (rmk 2 49) (mE (fun q m => ∃ z, q = aI z ∧ byQ y.2.2.2.2 ex y.1 b r mem z m)) 89 [aR b, aI k, aI (hdR r * 4), aL (cr BB r), aU, aI (bI C), aI (i + 1), w7, w8] [] M := fun w7 w8 hx => ih (i + 1) M v C _ _ (by omega) (by omega) hM hs hle hC (fun m t m0 m1 t0 t1 => by
      by_cases em : m = i
      · subst em
        exact Or.inr (by omega)
      · exact hr2 m t m0 (by omega) t0 t1)
    obtain ⟨T, hT⟩ : ∃ T, T = thr v (hdR r * 4) (i * 5 + blR r - 1) (cr BB r + v (nxR r * 4 + i)) y.1 := ⟨_, rfl⟩
    have hsn : cr BB r + v (nxR r * 4 + i) < NO → SndP y.2.2.2.2 ex T := fun hx => by
      rw [hT]
      refine thr_snd hs c1 (by omega) (by omega) (by omega) (fun t t0 t1 g1 g2 => ?_)
      have k1 := w2 (by omega)
      rw [d2, PRi_hd (by omega) q0 (by omega)] at k1
      have k2 := (hs ((i * 5 + blR r - 1) * 4 + t) (by omega) (by omega)).2.2 g1
      rw [PRi_hd (by omega) h3 (by omega)] at k2
      unfold hdR
      rw [PRi_hd (by have := okr.2.1; omega) okr.1.1 (by omega)]
      have k3 := (k1.app [blR r]).trans k2
      have k4 := RC.step (B := BB) (ex := ex) (s := []) hr (by rw [hkk]; exact hex) (by rw [List.append_nil, d1]; exact k3)
      rw [d2, Int.add_assoc]
      exact k4
    have hle2 : ∀ q, T q ≤ mem (b + 1) q := fun q => by rw [hT]; exact Int.le_trans (thr_le _ _ _ _ _ q) (hle q)
    have hr3 : ∀ m t, 0 ≤ m → m < i + 1 → 0 ≤ t → t < y.1 → T (hdR r * 4 + t) ≤ cr BB r + mem (b + 1) (nxR r * 4 + m) + mem (b + 1) ((m * 5 + blR r - 1) * 4 + t) ∨ NO ≤ cr BB r + mem (b + 1) (nxR r * 4 + m) := fun m t m0 m1 t0 t1 => by
      rw [hT]
      by_cases em : m = i
      · subst em
        have a1 := thr_at v (hdR r) (m * 5 + blR r - 1) (cr BB r + v (nxR r * 4 + m)) y.1 t0 t1
        have a2 := hle ((m * 5 + blR r - 1) * 4 + t)
        exact Or.inl (by omega)
      · rcases hr2 m t m0 (by omega) t0 t1 with a1 | a1
        · exact Or.inl (Int.le_trans (thr_le _ _ _ _ _ _) a1)
        · exact Or.inr a1
    have hB : ∀ w7 w8, cr BB r + v (nxR r * 4 + i) < NO → ¬ (∃ t, 0 ≤ t ∧ t < y.1 ∧ cr BB r + v (nxR r * 4 + i) + v ((i * 5 + blR r - 1) * 4 + t) < v (hdR r * 4 + t)) → V cX5_lowerPricesBy RX5 9 (some .boolean) (rmk 2 49) (mE (fun q m => ∃ z, q = aI z ∧ byQ y.2.2.2.2 ex y.1 b r mem z m)) 89 [aR b, aI k, aI (hdR r * 4), aL (cr BB r), aU, aI (bI C), aI (i + 1), w7, w8] [] (sm mem (b + 1) T) := fun w7 w8 hx hn9 => ih (i + 1) _ T C _ _ (by omega) (by omega) rfl (hsn hx) hle2 (fun hc q => by
      have e0 : T q = v q := by
        rw [hT]
        unfold thr
        by_cases eq : hdR r * 4 ≤ q ∧ q < hdR r * 4 + y.1
        · rw [if_pos eq]
          have hn : ¬ (cr BB r + v (nxR r * 4 + i) + v ((i * 5 + blR r - 1) * 4 + (q - hdR r * 4)) < v (hdR r * 4 + (q - hdR r * 4))) := fun hx => hn9 ⟨q - hdR r * 4, by omega, by omega, hx⟩
          rw [show hdR r * 4 + (q - hdR r * 4) = q by omega] at hn
          omega
        · rw [if_neg eq]
      rw [e0]; exact hC hc q) hr3
    have hD : ∀ w7 w8, cr BB r + v (nxR r * 4 + i) < NO → V cX5_lowerPricesBy RX5 9 (some .boolean) (rmk 2 49) (mE (fun q m => ∃ z, q = aI z ∧ byQ y.2.2.2.2 ex y.1 b r mem z m)) 89 [aR b, aI k, aI (hdR r * 4), aL (cr BB r), aU, aI 1, aI (i + 1), w7, w8] [] (sm mem (b + 1) T) := fun w7 w8 hx => by
      have hk := ih (i + 1) _ T True w7 w8 (by omega) (by omega) rfl (hsn hx) hle2 (fun hc => absurd trivial hc) hr3
      rw [← bI_1] at hk
      exact hk
    refine v_iload (j := 6) (q := 91) rfl dX5_lowerPricesBy_89 rfl ?_
    refine v_aload_n (j := 0) (q := 92) rfl dX5_lowerPricesBy_91 rfl ?_
    refine v_getR (p' := 29) (q := 95) dX5_lowerPricesBy_92 fl_X5_19 (sum1 hb) rfl (rfc_5_1 (sum1 hb)) rfl ?_
    refine v_getI (j := 0) (q := 98) dX5_lowerPricesBy_95 fl_X5_64 kd_29 rfl rfl rfl ?_
    rw [e29, h29]
    refine v_icmp_ge (tgt := 162) (q := 101) dX5_lowerPricesBy_98 (by decide) rfl (by omega) (by omega) (fun h98 => ?_) (fun h98 => ?_)
    · exact absurd h98 (by omega)
    · refine v_lload_n (j := 3) (q := 102) rfl dX5_lowerPricesBy_101 rfl ?_
      refine v_aload_n (j := 0) (q := 103) rfl dX5_lowerPricesBy_102 rfl ?_
      refine v_aload_n (j := 0) (q := 104) rfl dX5_lowerPricesBy_103 rfl ?_
      refine v_getR (p' := 29) (q := 107) dX5_lowerPricesBy_104 fl_X5_19 (sum1 hb) rfl (rfc_5_1 (sum1 hb)) rfl ?_
      refine v_getR (p' := 35) (q := 110) dX5_lowerPricesBy_107 fl_X5_57 kd_29 rfl (rfc_2_7 kd_29) rfl ?_
      refine v_iload_n (j := 1) (q := 111) rfl dX5_lowerPricesBy_110 rfl ?_
      refine v_iald (q := 112) dX5_lowerPricesBy_111 kd_35 (by omega) (by omega) rfl ?_
      rw [e35]
      refine v_iload (j := 6) (q := 114) rfl dX5_lowerPricesBy_112 rfl ?_
      refine v_cVL2 (q := 117) dX5_lowerPricesBy_114 mlX5_67 mdX5_costOfRemoving (by decide) (sum1 hb) rfl rfl ⟨Nat.le_refl 0, Nat.le_refl 0⟩ (by exact Nat.le_of_ble_eq_true rfl) rfl (c_X5_costOfRemoving b (nxR r) i M hb (by omega) (by omega)) ?_
      rintro _ _ ⟨rfl, rfl⟩
      rw [ev]
      refine v_ladd (q := 118) dX5_lowerPricesBy_117 rfl ?_
      refine v_lst7 (q := 120) (by first | rfl | assumption) dX5_lowerPricesBy_118 (by decide) rfl ?_
      refine v_lload (j := 7) (q := 122) rfl dX5_lowerPricesBy_120 rfl ?_
      refine v_ldc2 (n := 16777232777216) (q := 125) klX5_23 rfl dX5_lowerPricesBy_122 rfl ?_
      refine v_lcmp_ge (tgt := 156) (q := 129) dX5_lowerPricesBy_125 dX5_lowerPricesBy_126 (by decide) rfl (by omega) (by omega) (fun h125 => ?_) (fun h125 => ?_)
      · refine v_iinc6 (q := 159) (by first | rfl | assumption) dX5_lowerPricesBy_156 (by decide) rfl ?_
        refine v_goto (q := 89) dX5_lowerPricesBy_159 (by decide) ?_
        exact hA _ _ (by omega)
      · refine v_aload_n (j := 0) (q := 130) rfl dX5_lowerPricesBy_129 rfl ?_
        refine v_iload_n (j := 2) (q := 131) rfl dX5_lowerPricesBy_130 rfl ?_
        refine v_iload (j := 6) (q := 133) rfl dX5_lowerPricesBy_131 rfl ?_
        refine v_aload_n (j := 0) (q := 134) rfl dX5_lowerPricesBy_133 rfl ?_
        refine v_getR (p' := 29) (q := 137) dX5_lowerPricesBy_134 fl_X5_19 (sum1 hb) rfl (rfc_5_1 (sum1 hb)) rfl ?_
        refine v_getR (p' := 36) (q := 140) dX5_lowerPricesBy_137 fl_X5_71 kd_29 rfl (rfc_2_8 kd_29) rfl ?_
        refine v_iload_n (j := 1) (q := 141) rfl dX5_lowerPricesBy_140 rfl ?_
        refine v_iald (q := 142) dX5_lowerPricesBy_141 kd_36 (by omega) (by omega) rfl ?_
        rw [e36]
        refine v_cSNI2 (q := 145) dX5_lowerPricesBy_142 mlX5_74 mdX9_headOf (by decide) ⟨Nat.le_refl 0, Nat.le_refl 0⟩ (by exact Nat.le_of_ble_eq_true rfl) rfl (c_X9_headOf i (blR r) M) ?_
        rintro _ _ ⟨rfl, rfl⟩
        refine v_lload (j := 7) (q := 147) rfl dX5_lowerPricesBy_145 rfl ?_
        refine v_cVI3 (q := 150) dX5_lowerPricesBy_147 mlX5_60 mdX5_lowerPricesThrough (by decide) (sum1 hb) rfl rfl ⟨Nat.le_refl 0, Nat.le_refl 0⟩ (by exact Nat.le_of_ble_eq_true rfl) rfl (c_X5_lowerPricesThrough b hb M (hdR r * 4) (i * 5 + blR r - 1) (cr BB r + v (nxR r * 4 + i)) y.1 ⟨hdR r, rfl, c1.1, c1.2⟩ (by omega) (by omega) hS (by rw [e29, h29]) (by rw [ev]; exact fun q q0 q1 => ⟨(hs q q0 q1).1, (hs q q0 q1).2.1⟩)) ?_
        rintro _ _ ⟨rfl, rfl⟩
        rw [ev, hM, sm_sm, ← hT]
        refine v_if_eqB (tgt := 156) (q := 153) dX5_lowerPricesBy_150 (by decide) rfl (fun h150 => ?_) (fun h150 => ?_)
        · have hh150 := h150
          refine v_iinc6 (q := 159) (by first | rfl | assumption) dX5_lowerPricesBy_156 (by decide) rfl ?_
          refine v_goto (q := 89) dX5_lowerPricesBy_159 (by decide) ?_
          first | exact hB _ _ (by omega) hh150 | exact hD _ _ (by omega)
        · have hh151 := h150
          refine v_iconst (q := 154) dX5_lowerPricesBy_153 rfl ?_
          refine v_ist5 (q := 156) (by first | rfl | assumption) dX5_lowerPricesBy_154 (by decide) rfl ?_
          refine v_iinc6 (q := 159) (by first | rfl | assumption) dX5_lowerPricesBy_156 (by decide) rfl ?_
          refine v_goto (q := 89) dX5_lowerPricesBy_159 (by decide) ?_
          first | exact hB _ _ (by omega) hh150 | exact hD _ _ (by omega)
