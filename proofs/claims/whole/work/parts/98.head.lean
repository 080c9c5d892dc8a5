/-! ===== Machine: distances of heads ===== -/
/-- a stack with the labels u below the top, and the weight with which it is read -/
def DSt (y : Sy) (p x : Int) (u : List Int) (w : Int) : Prop := ∃ s d W, RDa (AD y) p x s d ∧ PTH y u s (finN y) W ∧ w = d + W
noncomputable def hdw (y : Sy) (p x : Int) : Int := lsw (fun w => ∃ u, DSt y p x u w)
theorem DSt.nn {y : Sy} (ok : okS y) {p x : Int} {u : List Int} {w : Int} (h : DSt y p x u w) : 0 ≤ w ∧ (u.length : Int) ≤ w + 3 := by
  obtain ⟨s, d, W, a, b, c⟩ := h
  have n := (a.nn ok)
  have l := PTH.len ok n.2 b
  have r := isN_rng ok n.2
  omega
theorem hdw_ok {y : Sy} (ok : okS y) (p x : Int) : TMn 1000001 (fun w => ∃ u, DSt y p x u w) (hdw y p x) := lsw_ok (fun c ⟨u, h⟩ => (h.nn ok).1)
theorem hdw_rng {y : Sy} (ok : okS y) (p x : Int) : 0 ≤ hdw y p x ∧ hdw y p x ≤ 1000001 := by
  have h := hdw_ok ok p x
  refine ⟨?_, h.1⟩
  rcases Int.lt_or_le (hdw y p x) 1000001 with hl | hl
  · obtain ⟨u, hu⟩ := h.2.1 hl
    exact (hu.nn ok).1
  · omega
def HC (y : Sy) (p x c : Int) : Prop := ∃ u w, DSt y p x u w ∧ c = w * 16777216 + 1 + (u.length : Int)
theorem HC.inf {y : Sy} (ok : okS y) {p x c : Int} (h : TMn NO (HC y p x) c) : (0 ≤ c ∧ c ≤ 16777232777216) ∧ (c < 16777232777216 → hdw y p x = c / 16777216 ∧ hdw y p x < 1000001 ∧ (∃ u, DSt y p x u (c / 16777216) ∧ (u.length : Int) + 1 = c % 16777216) ∧ ∀ u, DSt y p x u (c / 16777216) → c % 16777216 ≤ (u.length : Int) + 1) ∧ (16777232777216 ≤ c → hdw y p x = 1000001) := by
  have hNO := NO_def
  have hh := hdw_ok ok p x
  have hr := hdw_rng ok p x
  have low : ∀ u w, DSt y p x u w → w ≤ 1000000 → c ≤ w * 16777216 + 1 + (u.length : Int) := fun u w hu hw => by
    have := hu.nn ok
    exact h.2.2 _ ⟨u, w, hu, rfl⟩ (by omega)
  refine ⟨⟨?_, by have := h.1; omega⟩, fun hc => ?_, fun hc => ?_⟩
  · rcases Int.lt_or_le c NO with hl | hl
    · obtain ⟨u, w, hu, e⟩ := h.2.1 hl
      have := hu.nn ok
      omega
    · omega
  · obtain ⟨u, w, hu, e⟩ := h.2.1 (by omega)
    have n := hu.nn ok
    have ew : w = c / 16777216 := by omega
    have eu : (u.length : Int) + 1 = c % 16777216 := by omega
    have h1 := hh.2.2 w ⟨u, hu⟩ (by omega)
    obtain ⟨u2, hu2⟩ := hh.2.1 (by omega)
    have n2 := hu2.nn ok
    have h2 := low u2 _ hu2 (by omega)
    rw [← ew]
    refine ⟨by omega, by omega, ⟨u, hu, eu⟩, fun u3 hu3 => ?_⟩
    have := low u3 w hu3 (by omega)
    omega
  · rcases Int.lt_or_le (hdw y p x) 1000001 with hl | hl
    · obtain ⟨u2, hu2⟩ := hh.2.1 hl
      have n2 := hu2.nn ok
      have h2 := low u2 _ hu2 (by omega)
      omega
    · omega
/-- what goes through an end -/
def thr9 (m : Mem) (e h : Int) : Int := if m (86 + e.toNat) h < 16777232777216 then m (86 + e.toNat) h / 16777216 * 16777216 + 1 + m 110 e else 16777232777216
theorem MO.home {y : Sy} (ok : okS y) {m : Mem} (h : MO m y) {e : Int} (he : 0 ≤ e ∧ e < 24) : 0 ≤ m 110 e ∧ m 110 e ≤ 16777232777216 := by
  have hNO := NO_def
  have t := h.2.2.2.2.2 e.toNat (by omega)
  rw [show ((e.toNat : Nat) : Int) = e by omega] at t
  refine ⟨?_, by have := t.1; omega⟩
  rcases Int.lt_or_le (m 110 e) NO with hl | hl
  · exact (HWy.nn ok he.1 (t.2.1 hl)).1
  · omega
theorem thr9_rng {y : Sy} (ok : okS y) {m : Mem} (h : MO m y) {e x : Int} (he : 0 ≤ e ∧ e < 24) (hx : 0 ≤ x ∧ x < 20) : 0 ≤ thr9 m e x ∧ thr9 m e x ≤ 40000000000000 := by
  have hNO := NO_def
  have r := (h.2.2.1 e.toNat (by omega) x hx.1 hx.2).1
  have r2 := h.home ok he
  unfold thr9
  split <;> omega
theorem c_X1_costThrough (e : Nat) (x : Int) (mem : Mem) (y : Sy) (ok : okS y) (hm : MO mem y) (he : e < 24) (hx : 0 ≤ x ∧ x < 20) : CtrL mX1_costThrough [aR 83, aI (e : Int), aI x] mem (fun z m => mem = m ∧ thr9 mem e x = z) := by
  have hNO := NO_def
  have hg := rowE he
  have r := (hm.2.2.1 e he x hx.1 hx.2).1
  have r2 := hm.home ok (e := (e : Int)) (by omega)
  have et : (e : Int).toNat = e := by omega
  refine Ctr.ofV (ls := [aR 83, aI (e : Int), aI x, aU, aU]) rfl (by decide) rfl (Nat.le_of_ble_eq_true rfl) ?_
  refine v_aload_n (j := 0) (q := 1) rfl dX1_costThrough_0 rfl ?_
  refine v_getR (p' := 85) (q := 4) dX1_costThrough_1 fl_X1_25 kd_83 rfl (rfc_1_5 kd_83) rfl ?_
  refine v_iload_n (j := 1) (q := 5) rfl dX1_costThrough_4 rfl ?_
  refine v_aaldL (q := 6) dX1_costThrough_5 kd_85 (by omega) (by omega) rfl ?_
  refine v_iload_n (j := 2) (q := 7) rfl dX1_costThrough_6 rfl ?_
  refine v_lald (q := 8) dX1_costThrough_7 hg (by omega) (by omega) rfl ?_
  rw [show mem (85 + 1 + (e : Int).toNat) x = mem (86 + e) x from rfl]
  refine v_lst3 (q := 9) rfl dX1_costThrough_8 (by decide) rfl ?_
  refine v_lload_n (j := 3) (q := 10) rfl dX1_costThrough_9 rfl ?_
  refine v_ldc2 (n := 16777232777216) (q := 13) klX1_65 rfl dX1_costThrough_10 rfl ?_
  refine v_lcmp_lt (tgt := 23) (q := 17) dX1_costThrough_13 dX1_costThrough_14 (by decide) rfl (by omega) (by omega) (fun h13 => ?_) (fun h13 => ?_)
  · refine v_lload_n (j := 3) (q := 24) rfl dX1_costThrough_23 rfl ?_
    refine v_cSNI1 (q := 27) dX1_costThrough_24 mlX1_158 mdX9_weightOf (by decide) ⟨Nat.le_refl 0, Nat.le_refl 0⟩ (by exact Nat.le_of_ble_eq_true rfl) rfl (c_X9_weightOf (mem (86 + e) x) mem (by omega)) ?_
    rintro _ _ ⟨rfl, rfl⟩
    refine v_cSNL1 (q := 30) dX1_costThrough_27 mlX1_122 mdX9_costOfWeight (by decide) ⟨Nat.le_refl 0, Nat.le_refl 0⟩ (by exact Nat.le_of_ble_eq_true rfl) rfl (c_X9_costOfWeight (mem (86 + e) x / 16777216) mem (by omega)) ?_
    rintro _ _ ⟨rfl, rfl⟩
    refine v_lconst1 (q := 31) dX1_costThrough_30 rfl ?_
    refine v_ladd (q := 32) dX1_costThrough_31 rfl ?_
    refine v_aload_n (j := 0) (q := 33) rfl dX1_costThrough_32 rfl ?_
    refine v_getR (p' := 110) (q := 36) dX1_costThrough_33 fl_X1_28 kd_83 rfl (rfc_1_6 kd_83) rfl ?_
    refine v_iload_n (j := 1) (q := 37) rfl dX1_costThrough_36 rfl ?_
    refine v_lald (q := 38) dX1_costThrough_37 kd_110 (by omega) (by omega) rfl ?_
    refine v_ladd (q := 39) dX1_costThrough_38 rfl ?_
    refine v_lret dX1_costThrough_39 ?_
    refine ⟨_, rfl, rfl, ?_⟩
    unfold thr9
    rw [et]
    first
      | rw [if_pos (by omega)]
      | rw [if_neg (by omega)]
  · refine v_ldc2 (n := 16777232777216) (q := 20) klX1_65 rfl dX1_costThrough_17 rfl ?_
    refine v_goto (q := 39) dX1_costThrough_20 (by decide) ?_
    refine v_lret dX1_costThrough_39 ?_
    refine ⟨_, rfl, rfl, ?_⟩
    unfold thr9
    rw [et]
    first
      | rw [if_pos (by omega)]
      | rw [if_neg (by omega)]
/-- the least cost of a head -/
theorem HC_of {y : Sy} (ok : okS y) {m : Mem} (h : MO m y) {x c : Int} (hx : 0 ≤ x ∧ x < 20) (h1 : c ≤ 16777232777216) (h2 : c < 16777232777216 → ∃ e, 0 ≤ e ∧ e < 24 ∧ thr9 m e x = c) (h3 : ∀ e, 0 ≤ e → e < 24 → c ≤ thr9 m e x) : TMn NO (HC y (x / 5) (x % 5 + 1)) c := by
  have hNO := NO_def
  refine ⟨by omega, fun hl => ?_, fun c2 hc2 hl => ?_⟩
  · obtain ⟨e, e0, e1, e2⟩ := h2 (by omega)
    unfold thr9 at e2
    by_cases g : m (86 + e.toNat) x < 16777232777216
    · rw [if_pos g] at e2
      obtain ⟨r1, r2, r3⟩ := h.2.2.1 e.toNat (by omega) x hx.1 hx.2
      have r4 := r2 (by omega)
      have rr := rdw_ok ok (x / 5) (x % 5 + 1) (nodE e.toNat)
      have rd := rr.2.1 (by omega)
      have t := h.2.2.2.2.2 e.toNat (by omega)
      rw [show ((e.toNat : Nat) : Int) = e by omega] at t rd r4
      have hh := t.2.1 (by omega)
      obtain ⟨u, hu, hl2⟩ := (HWy.nn ok e0 hh).2 (by omega)
      exact ⟨u, _, ⟨_, _, _, rd, hu, rfl⟩, by omega⟩
    · rw [if_neg g] at e2; omega
  · obtain ⟨u, w, ⟨s, d, W, a, b, e9⟩, e8⟩ := hc2
    have n := a.nn ok
    have l := PTH.len ok n.2 b
    obtain ⟨e, he, het⟩ := isN_E ok n.2
    subst het
    have rr := rdw_ok ok (x / 5) (x % 5 + 1) (nodE e)
    have rd := rr.2.2 d a (by omega)
    obtain ⟨r1, r2, r3⟩ := h.2.2.1 e he x hx.1 hx.2
    have r4 := r3 (by omega)
    have r5 := r2 r4
    have t := (h.2.2.2.2.2 e he).2.2 (W * 16777216 + (u.length : Int)) ⟨u, W, b, rfl⟩ (by omega)
    have := h3 e (by omega) (by omega)
    unfold thr9 at this
    rw [show (e : Int).toNat = e by omega, if_pos (by omega)] at this
    omega
theorem l_X1_costOfHead (x : Int) (mem : Mem) (y : Sy) (ok : okS y) (hm : MO mem y) (hx : 0 ≤ x ∧ x < 20) :
    ∀ (n k : Nat) (c : Int), k + n = 24 → 0 ≤ c → c ≤ 16777232777216 → (c < 16777232777216 → ∃ e, 0 ≤ e ∧ e < 24 ∧ thr9 mem e x = c) → (∀ e : Int, 0 ≤ e → e < k → c ≤ thr9 mem e x) → V cX1_costOfHead RX1 5 (some .long) (rmk 2 45) (mE (fun r m => ∃ z, r = aL z ∧ mem = m ∧ TMn NO (HC y (x / 5) (x % 5 + 1)) z ∧ (z < 16777232777216 → ∃ e, 0 ≤ e ∧ e < 24 ∧ thr9 mem e x = z))) 7 [aR 83, aI x, aL c, aU, aI (k : Int)] [] mem := by
  intro n
  induction n with
  | zero =>
    intro k c h1 h2 h3 h4 h5
    have hk : k = 24 := by omega
    subst hk
    refine v_iload (j := 4) (q := 9) rfl dX1_costOfHead_7 rfl ?_
    refine v_bipush (q := 11) (by decide) dX1_costOfHead_9 rfl ?_
    refine v_icmp_ge (tgt := 32) (q := 14) dX1_costOfHead_11 (by decide) rfl (by omega) (by omega) (fun h11 => ?_) (fun h11 => ?_)
    · refine v_lload_n (j := 2) (q := 33) rfl dX1_costOfHead_32 rfl ?_
      refine v_lret dX1_costOfHead_33 ?_
      exact ⟨_, rfl, rfl, HC_of ok hm hx h3 h4 (fun e e0 e1 => h5 e e0 (by omega)), h4⟩
    · exact absurd h11 (by omega)
  | succ n ih =>
    intro k c h1 h2 h3 h4 h5
    have tr := thr9_rng ok hm (e := (k : Int)) (x := x) (by omega) hx
    obtain ⟨t, ht⟩ : ∃ t, t = thr9 mem k x := ⟨_, rfl⟩
    rw [← ht] at tr
    refine v_iload (j := 4) (q := 9) rfl dX1_costOfHead_7 rfl ?_
    refine v_bipush (q := 11) (by decide) dX1_costOfHead_9 rfl ?_
    refine v_icmp_ge (tgt := 32) (q := 14) dX1_costOfHead_11 (by decide) rfl (by omega) (by omega) (fun h11 => ?_) (fun h11 => ?_)
    · exact absurd h11 (by omega)
    · refine v_lload_n (j := 2) (q := 15) rfl dX1_costOfHead_14 rfl ?_
      refine v_aload_n (j := 0) (q := 16) rfl dX1_costOfHead_15 rfl ?_
      refine v_iload (j := 4) (q := 18) rfl dX1_costOfHead_16 rfl ?_
      refine v_iload_n (j := 1) (q := 19) rfl dX1_costOfHead_18 rfl ?_
      refine v_cVL2 (q := 22) dX1_costOfHead_19 mlX1_176 mdX1_costThrough (by decide) kd_83 rfl rfl ⟨Nat.le_refl 0, Nat.le_refl 0⟩ (by exact Nat.le_of_ble_eq_true rfl) rfl (c_X1_costThrough k x mem y ok hm (by omega) hx) ?_
      rw [← ht]
      rintro _ _ ⟨rfl, rfl⟩
      refine v_mminl (q := 25) dX1_costOfHead_22 mlX1_180 (by decide) ⟨Nat.le_refl 0, Nat.le_refl 0⟩ (by exact Nat.le_of_ble_eq_true rfl) rfl (by omega) (by omega) ?_
      refine v_lst2 (q := 26) rfl dX1_costOfHead_25 (by decide) rfl ?_
      refine v_iinc4 (q := 29) rfl dX1_costOfHead_26 (by decide) rfl ?_
      refine v_goto (q := 7) dX1_costOfHead_29 (by decide) ?_
      refine ih (k + 1) (min c t) (by omega) (by omega) (by omega) (fun h => ?_) (fun e e0 e1 => ?_)
      · by_cases g : c ≤ t
        · rw [Int.min_eq_left g] at h ⊢; exact h4 h
        · exact ⟨k, by omega, by omega, by rw [← ht]; omega⟩
      · by_cases g : e = k
        · rw [g, ← ht]; omega
        · have := h5 e e0 (by omega)
          omega
theorem c_X1_costOfHead (x : Int) (mem : Mem) (y : Sy) (ok : okS y) (hm : MO mem y) (hx : 0 ≤ x ∧ x < 20) : CtrL mX1_costOfHead [aR 83, aI x] mem (fun z m => mem = m ∧ TMn NO (HC y (x / 5) (x % 5 + 1)) z ∧ (z < 16777232777216 → ∃ e, 0 ≤ e ∧ e < 24 ∧ thr9 mem e x = z)) := by
  refine Ctr.ofV (ls := [aR 83, aI x, aU, aU, aU]) rfl (by decide) rfl (Nat.le_of_ble_eq_true rfl) ?_
  refine v_ldc2 (n := 16777232777216) (q := 3) klX1_65 rfl dX1_costOfHead_0 rfl ?_
  refine v_lst2 (q := 4) rfl dX1_costOfHead_3 (by decide) rfl ?_
  refine v_iconst (q := 5) dX1_costOfHead_4 rfl ?_
  refine v_ist4 (q := 7) rfl dX1_costOfHead_5 (by decide) rfl ?_
  exact l_X1_costOfHead x mem y ok hm hx 24 0 _ (by omega) (by omega) (by omega) (fun h => absurd h (by omega)) (fun e e0 e1 => by omega)
def hval (y : Sy) (p x : Int) : Prop := (0 ≤ p ∧ p < y.1) ∧ (1 ≤ x ∧ x ≤ y.2.1)
noncomputable def sHd (y : Sy) (p x : Int) : Int := by
  classical
  exact if hval y p x then (if hdw y p x = 1000001 then -6 else hdw y p x) else -1
noncomputable def sHds (y : Sy) : Int := cP (fun h => hdw y (h / 5) (h % 5 + 1) < 1000001) 20
theorem KQ.mach {mem m : Mem} {A : AS} (h : KI MO mem A) (h1 : ∀ p, p ≠ 0 → (p < 29 ∨ (39 < p ∧ p < 83) ∨ 115 < p) → m p = mem p) (h2 : CA MO m A.1) : KQ MO mem A m := KQ.of h.1 (fun _ _ _ => rfl) (fun r r0 r1 => h1 r r0 (by omega)) h2
theorem c_X9_headDistance (p x : Int) (mem : Mem) (A : AS) (h : KI MO mem A) (hp : R32 p) (hx : R32 x) : CtrI mX9_headDistance [aR 0, aI p, aI x] mem (fun z m => sHd A.1 p x = z ∧ KQ MO mem A m) := by
  have f := h.1.1.facts
  obtain ⟨a1, a2, a3, a4, a5, hc⟩ := eA h.1.1
  have ok := h.1.1.2.2.1
  have hS := ok.1
  have hG := ok.2.1
  refine Ctr.ofV (ls := [aR 0, aI p, aI x]) rfl (by decide) rfl (Nat.le_of_ble_eq_true rfl) ?_
  refine v_aload_n (j := 0) (q := 1) rfl dX9_headDistance_0 rfl ?_
  refine v_iload_n (j := 1) (q := 2) rfl dX9_headDistance_1 rfl ?_
  refine v_cVI1 (q := 5) dX9_headDistance_2 mlX9_104 mdX9_isState (by decide) kd_0 rfl rfl ⟨Nat.le_refl 0, Nat.le_refl 0⟩ (by exact Nat.le_of_ble_eq_true rfl) rfl (c_X9_isState p mem hp (by omega)) ?_
  rw [← a1]
  rintro _ _ ⟨rfl, rfl⟩
  refine v_if_eqB (tgt := 16) (q := 8) dX9_headDistance_5 (by decide) rfl (fun h5 => ?_) (fun h5 => ?_)
  · refine v_iconst (q := 17) dX9_headDistance_16 rfl ?_
    refine v_iret dX9_headDistance_17 ?_
    refine ⟨_, rfl, ?_, h.1, h.2, fun _ _ => rfl⟩
    unfold sHd
    rw [if_neg]
    intro hv
    first
      | exact h5 hv.1
      | exact h13 hv.2
  · refine v_aload_n (j := 0) (q := 9) rfl dX9_headDistance_8 rfl ?_
    refine v_iload_n (j := 2) (q := 10) rfl dX9_headDistance_9 rfl ?_
    refine v_cVI1 (q := 13) dX9_headDistance_10 mlX9_108 mdX9_isSymbol (by decide) kd_0 rfl rfl ⟨Nat.le_refl 0, Nat.le_refl 0⟩ (by exact Nat.le_of_ble_eq_true rfl) rfl (c_X9_isSymbol x mem hx (by omega)) ?_
    rw [← a2]
    rintro _ _ ⟨rfl, rfl⟩
    refine v_if_neB (tgt := 18) (q := 16) dX9_headDistance_13 (by decide) rfl (fun h13 => ?_) (fun h13 => ?_)
    · refine v_aload_n (j := 0) (q := 19) rfl dX9_headDistance_18 rfl ?_
      refine v_cVV0 (q := 22) dX9_headDistance_19 mlX9_199 mdX9_buildMachine (by decide) kd_0 rfl rfl ⟨Nat.le_refl 0, Nat.le_refl 0⟩ (by exact Nat.le_of_ble_eq_true rfl) rfl (c_X9_buildMachine mem A.1 h.1.1 h.2) ?_
      rintro m1 ⟨o1, o2, o3⟩
      refine v_aload_n (j := 0) (q := 23) rfl dX9_headDistance_22 rfl ?_
      refine v_getR (p' := 83) (q := 26) dX9_headDistance_23 fl_X9_89 kd_0 rfl (rfc_9_13 kd_0) rfl ?_
      refine v_iload_n (j := 1) (q := 27) rfl dX9_headDistance_26 rfl ?_
      refine v_iload_n (j := 2) (q := 28) rfl dX9_headDistance_27 rfl ?_
      refine v_cSI2 (q := 31) dX9_headDistance_28 mlX9_202 mdX9_headOf (by decide) ⟨Nat.le_refl 0, Nat.le_refl 0⟩ (by exact Nat.le_of_ble_eq_true rfl) rfl (c_X9_headOf p x m1) ?_
      rintro _ _ ⟨rfl, rfl⟩
      refine v_cVL1 (q := 34) dX9_headDistance_31 mlX9_205 mdX1_costOfHead (by decide) kd_83 rfl rfl ⟨Nat.le_refl 0, Nat.le_refl 0⟩ (by exact Nat.le_of_ble_eq_true rfl) rfl (c_X1_costOfHead (p * 5 + x - 1) m1 A.1 ok o3 (by omega)) ?_
      rw [show (p * 5 + x - 1) / 5 = p by omega, show (p * 5 + x - 1) % 5 + 1 = x by omega]
      rintro z _ ⟨rfl, g1, -⟩
      obtain ⟨k1, k2, k3⟩ := HC.inf ok g1
      refine v_cSI1 (q := 37) dX9_headDistance_34 mlX9_177 mdX9_weightOrNone (by decide) ⟨Nat.le_refl 0, Nat.le_refl 0⟩ (by exact Nat.le_of_ble_eq_true rfl) rfl (c_X9_weightOrNone z m1 (by omega)) ?_
      rintro _ _ ⟨rfl, rfl⟩
      refine v_iret dX9_headDistance_37 ?_
      refine ⟨_, rfl, ?_, KQ.mach h o1 o2⟩
      unfold sHd
      rw [if_pos ⟨h5, h13⟩]
      by_cases g : 16777232777216 ≤ z
      · rw [if_pos g, if_pos (k3 g)]
      · have := k2 (by omega)
        rw [if_neg g, if_neg (by omega)]
        exact this.1
    · refine v_iconst (q := 17) dX9_headDistance_16 rfl ?_
      refine v_iret dX9_headDistance_17 ?_
      refine ⟨_, rfl, ?_, h.1, h.2, fun _ _ => rfl⟩
      unfold sHd
      rw [if_neg]
      intro hv
      first
        | exact h5 hv.1
        | exact h13 hv.2
theorem l_X9_heads {Post : AV → Mem → Prop} (mem : Mem) (y : Sy) (ok : okS y) (hm : MO mem y) (hP : Post (aI (sHds y)) mem) :
    ∀ (n k : Nat), k + n = 20 → V cX9_heads RX9 3 (some .int) (rmk 7 162) (mE Post) 8 [aR 0, aI (cP (fun h => hdw y (h / 5) (h % 5 + 1) < 1000001) k), aI (k : Int)] [] mem := by
  intro n
  induction n with
  | zero =>
    intro k h1
    have hk : k = 20 := by omega
    subst hk
    refine v_iload_n (j := 2) (q := 9) rfl dX9_heads_8 rfl ?_
    refine v_bipush (q := 11) (by decide) dX9_heads_9 rfl ?_
    refine v_icmp_ge (tgt := 38) (q := 14) dX9_heads_11 (by decide) rfl (by omega) (by omega) (fun h11 => ?_) (fun h11 => ?_)
    · refine v_iload_n (j := 1) (q := 39) rfl dX9_heads_38 rfl ?_
      refine v_iret dX9_heads_39 ?_
      exact hP
    · exact absurd h11 (by omega)
  | succ n ih =>
    intro k h1
    have hk := ih (k + 1) (by omega)
    have hr := cP_rng (fun h => hdw y (h / 5) (h % 5 + 1) < 1000001) k
    refine v_iload_n (j := 2) (q := 9) rfl dX9_heads_8 rfl ?_
    refine v_bipush (q := 11) (by decide) dX9_heads_9 rfl ?_
    refine v_icmp_ge (tgt := 38) (q := 14) dX9_heads_11 (by decide) rfl (by omega) (by omega) (fun h11 => ?_) (fun h11 => ?_)
    · exact absurd h11 (by omega)
    · refine v_aload_n (j := 0) (q := 15) rfl dX9_heads_14 rfl ?_
      refine v_getR (p' := 83) (q := 18) dX9_heads_15 fl_X9_89 kd_0 rfl (rfc_9_13 kd_0) rfl ?_
      refine v_iload_n (j := 2) (q := 19) rfl dX9_heads_18 rfl ?_
      refine v_cVL1 (q := 22) dX9_heads_19 mlX9_205 mdX1_costOfHead (by decide) kd_83 rfl rfl ⟨Nat.le_refl 0, Nat.le_refl 0⟩ (by exact Nat.le_of_ble_eq_true rfl) rfl (c_X1_costOfHead k mem y ok hm (by omega)) ?_
      rintro z _ ⟨rfl, g1, -⟩
      obtain ⟨k1, k2, k3⟩ := HC.inf ok g1
      refine v_ldc2 (n := 16777232777216) (q := 25) klX9_181 rfl dX9_heads_22 rfl ?_
      refine v_lcmp_ge (tgt := 32) (q := 29) dX9_heads_25 dX9_heads_26 (by decide) rfl (by omega) (by omega) (fun h25 => ?_) (fun h25 => ?_)
      · refine v_iinc2 (q := 35) rfl dX9_heads_32 (by decide) rfl ?_
        refine v_goto (q := 8) dX9_heads_35 (by decide) ?_
        first
          | (rw [cP_t (P := fun h => hdw y (h / 5) (h % 5 + 1) < 1000001) (k2 (by omega)).2.1] at hk
             exact hk)
          | (rw [cP_f (P := fun h => hdw y (h / 5) (h % 5 + 1) < 1000001) (fun h9 => by have := k3 (by omega); omega)] at hk
             exact hk)
      · refine v_iinc1 (q := 32) rfl dX9_heads_29 (by decide) rfl ?_
        refine v_iinc2 (q := 35) rfl dX9_heads_32 (by decide) rfl ?_
        refine v_goto (q := 8) dX9_heads_35 (by decide) ?_
        first
          | (rw [cP_t (P := fun h => hdw y (h / 5) (h % 5 + 1) < 1000001) (k2 (by omega)).2.1] at hk
             exact hk)
          | (rw [cP_f (P := fun h => hdw y (h / 5) (h % 5 + 1) < 1000001) (fun h9 => by have := k3 (by omega); omega)] at hk
             exact hk)
theorem c_X9_heads (mem : Mem) (A : AS) (h : KI MO mem A) : CtrI mX9_heads [aR 0] mem (fun z m => sHds A.1 = z ∧ KQ MO mem A m) := by
  have ok := h.1.1.2.2.1
  refine Ctr.ofV (ls := [aR 0, aU, aU]) rfl (by decide) rfl (Nat.le_of_ble_eq_true rfl) ?_
  refine v_aload_n (j := 0) (q := 1) rfl dX9_heads_0 rfl ?_
  refine v_cVV0 (q := 4) dX9_heads_1 mlX9_199 mdX9_buildMachine (by decide) kd_0 rfl rfl ⟨Nat.le_refl 0, Nat.le_refl 0⟩ (by exact Nat.le_of_ble_eq_true rfl) rfl (c_X9_buildMachine mem A.1 h.1.1 h.2) ?_
  rintro m1 ⟨o1, o2, o3⟩
  refine v_iconst (q := 5) dX9_heads_4 rfl ?_
  refine v_ist1 (q := 6) rfl dX9_heads_5 (by decide) rfl ?_
  refine v_iconst (q := 7) dX9_heads_6 rfl ?_
  refine v_ist2 (q := 8) rfl dX9_heads_7 (by decide) rfl ?_
  exact l_X9_heads m1 A.1 ok o3 ⟨_, rfl, rfl, KQ.mach h o1 o2⟩ 20 0 (by omega)
