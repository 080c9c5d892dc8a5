/-! ===== StackLab: questions about costs ===== -/
def askd (y : Sy) (p w : Int) : Prop := (0 ≤ p ∧ p < y.1) ∧ isW w y.2.1 ∧ nd w ≤ 6
def wv (o : Option (Int × Int)) : Int := match o with
  | some a => a.1
  | none => -6
def nv (o : Option (Int × Int)) : Int := match o with
  | some a => a.2
  | none => -6
/-- the lightest and shortest run from the start, perhaps without a rule -/
noncomputable def lmS (y : Sy) (ex q : Int) (t : List Int) : Option (Int × Int) := lm y.2.2.2.2 ex y.2.2.1 (dgs y.2.2.2.1) q t
noncomputable def sDis (y : Sy) (p w : Int) : Int := by
  classical
  exact if askd y p w then wv (lmS y (-6) p (dgs w)) else -1
noncomputable def sStp (y : Sy) (p w : Int) : Int := by
  classical
  exact if askd y p w then nv (lmS y (-6) p (dgs w)) else -1
noncomputable def sWop (y : Sy) (p w q : Int) : Int := by
  classical
  exact if askd y p w ∧ (0 ≤ q ∧ q < y.1) then wv (lm y.2.2.2.2 (-6) p (dgs w) q []) else -1
noncomputable def sPri (y : Sy) (p x q : Int) : Int := by
  classical
  exact if (0 ≤ p ∧ p < y.1) ∧ (1 ≤ x ∧ x ≤ y.2.1) ∧ (0 ≤ q ∧ q < y.1) then wv (lm y.2.2.2.2 (-6) p [x] q []) else -1
noncomputable def sWot (y : Sy) (r p w : Int) : Int := by
  classical
  exact if (0 ≤ r ∧ r < y.2.2.2.2.length) ∧ askd y p w then wv (lmS y r p (dgs w)) else -1
noncomputable def sTol (y : Sy) (r p w : Int) : Int := by
  classical
  exact if (0 ≤ r ∧ r < y.2.2.2.2.length) ∧ askd y p w then (if lmS y (-6) p (dgs w) = none then -6 else if wv (lmS y r p (dgs w)) = wv (lmS y (-6) p (dgs w)) then 20 - (y.2.2.2.2.getD r.toNat (0, 0, 0, 0, 0)).2.2.2.2 else 0) else -1
/-- what a question of the class leaves -/
def KI (MO : Mem → Sy → Prop) (m : Mem) (A : AS) : Prop := SI m A ∧ CA MO m A.1
def KQ (MO : Mem → Sy → Prop) (mem : Mem) (A : AS) (m : Mem) : Prop := SI m A ∧ CA MO m A.1 ∧ ∀ q, 116 ≤ q → m q = mem q
theorem KI.wd {MO : Mem → Sy → Prop} (hMO : MOc MO) {mem m : Mem} {A : AS} (h : KI MO mem A) (h1 : ∀ q, q ≠ 25 → q ≠ 26 → m q = mem q) : KI MO m A := ⟨h.1.wd h1, h.2.congr hMO (fun p hp => h1 p (by omega) (by omega)) (by rw [h1 54 (by omega) (by omega)]) (by rw [h1 66 (by omega) (by omega)])⟩
theorem KQ.of {MO : Mem → Sy → Prop} {mem m1 m : Mem} {A : AS} (h : SI m1 A) (h0 : ∀ q, q ≠ 25 → q ≠ 26 → m1 q = mem q) (h1 : ∀ r, r ≠ 0 → (r < 29 ∨ 115 < r) → m r = m1 r) (h2 : CA MO m A.1) : KQ MO mem A m := ⟨h.congr (fun q a b _ _ => h1 q (by omega) (by omega)), h2, fun q hq => by rw [h1 q (by omega) (by omega), h0 q (by omega) (by omega)]⟩
theorem wv_C {y : Sy} (ok : okS y) {ex p : Int} {s : List Int} {q : Int} {t : List Int} {z : Int} (h : TMn NO (RC BB y.2.2.2.2 ex p s q t) z) : wv (lm y.2.2.2.2 ex p s q t) = if 16777232777216 ≤ z then -6 else z / 16777216 := by
  obtain ⟨a, b, c⟩ := lm_C ok h
  by_cases hz : 16777232777216 ≤ z
  · rw [if_pos hz, c hz]; rfl
  · rw [if_neg hz, (b (by omega)).1]; rfl
theorem c_X9_costWithout {MO : Mem → Sy → Prop} (hMO : MOc MO) (mem : Mem) (y : Sy) (hy : SR mem 1 y) (hc : CA MO mem y) (r p : Int) (t : List Int) (hr : 0 ≤ r ∧ r < 20) (hp : 0 ≤ p ∧ p < y.1) (ht : ∀ d ∈ t, 1 ≤ d ∧ d ≤ y.2.1) (ht6 : t.length ≤ 6) (hwd : WdIs mem 25 t) : CtrL mX9_costWithout [aR 0, aI r, aI p] mem (fun z m => (∀ q, q ≠ 0 → (q < 29 ∨ (41 < q ∧ q < 66) ∨ 77 < q) → m q = mem q) ∧ TMn NO (RC BB y.2.2.2.2 r y.2.2.1 (dgs y.2.2.2.1) p t) z ∧ CA MO m y ∧ m 0 14 = 1) := by
  have ok := hy.2.2.1
  have hS := ok.1
  have hG := ok.2.1
  have h66 : isSr 66 := Or.inr (Or.inr rfl)
  have s0 : SQ0 y r p t 66 := ⟨ok, h66, by omega, hp, ht, ht6⟩
  refine Ctr.ofV (ls := [aR 0, aI r, aI p]) rfl (by decide) rfl (Nat.le_of_ble_eq_true rfl) ?_
  refine v_aload_n (j := 0) (q := 1) rfl dX9_costWithout_0 rfl ?_
  refine v_cVV0 (q := 4) dX9_costWithout_1 mlX9_211 mdX9_makePlan (by decide) kd_0 rfl rfl ⟨Nat.le_refl 0, Nat.le_refl 0⟩ (by exact Nat.le_of_ble_eq_true rfl) rfl (c_X9_makePlan mem y hy hc) ?_
  rintro m1 ⟨o1, p1, c1, pl⟩
  refine v_aload_n (j := 0) (q := 5) rfl dX9_costWithout_4 rfl ?_
  refine v_getR (p' := 40) (q := 8) dX9_costWithout_5 fl_X9_59 kd_0 rfl (rfc_9_8 kd_0) rfl ?_
  refine v_iload_n (j := 1) (q := 9) rfl dX9_costWithout_8 rfl ?_
  refine v_cVV1 (q := 12) dX9_costWithout_9 mlX9_271 mdX5_compute (by decide) kd_40 rfl rfl ⟨Nat.le_refl 0, Nat.le_refl 0⟩ (by exact Nat.le_of_ble_eq_true rfl) rfl (c_X5_compute 40 (Or.inr rfl) m1 y r ok pl.1 (by omega)) ?_
  rintro _ ⟨v, rfl, hv⟩
  obtain ⟨m2, hm2⟩ : ∃ m2, m2 = sm (um m1 40 0 r) (40 + 1) v := ⟨_, rfl⟩
  rw [← hm2]
  have o2 : ∀ q, q ≠ 40 → q ≠ 41 → m2 q = m1 q := fun q h1 h2 => by rw [hm2, sm_ne _ _ h2, um_ne _ _ _ h1]
  have w2 : WdIs m2 25 t := hwd.congr (by rw [o2 25 (by decide) (by decide)]; exact o1 25 (by decide) (by decide)) (by rw [o2 26 (by decide) (by decide)]; exact o1 26 (by decide) (by decide))
  have pl2 : PL m2 y := pl.1.congr (fun q a b => o2 q (by omega) (by omega))
  have x0 : m2 40 0 = r := by rw [hm2, sm_ne _ _ (by decide), um_same, ui_same]
  have x1 : PRok y.2.2.2.2 r (m2 41) := by rw [hm2, sm_same]; exact hv
  refine v_aload_n (j := 0) (q := 13) rfl dX9_costWithout_12 rfl ?_
  refine v_getR (p' := 66) (q := 16) dX9_costWithout_13 fl_X9_74 kd_0 rfl (rfc_9_11 kd_0) rfl ?_
  refine v_iload_n (j := 2) (q := 17) rfl dX9_costWithout_16 rfl ?_
  refine v_aload_n (j := 0) (q := 18) rfl dX9_costWithout_17 rfl ?_
  refine v_getR (p' := 25) (q := 21) dX9_costWithout_18 fl_X9_36 kd_0 rfl (rfc_9_4 kd_0) rfl ?_
  refine v_cVV2 (q := 24) dX9_costWithout_21 mlX9_218 mdX3_aimAt (by decide) kd_66 rfl rfl ⟨Nat.le_refl 0, Nat.le_refl 0⟩ (by exact Nat.le_of_ble_eq_true rfl) rfl (c_X3_aimAt 66 25 h66 (by unfold isWd; decide) m2 y r p t ok pl2 x0 (by omega) x1 hp ht ht6 w2) ?_
  rintro m3 ⟨a1, a2⟩
  obtain ⟨q2, q3⟩ := SQ_aim h66 pl2 x0 x1 (by rw [o2 66 (by decide) (by decide)]; exact c1.2.2.2.2.2.1) a1 a2
  have e29 : m3 29 2 = y.2.2.1 := q2.1.2.2.1
  refine v_aload_n (j := 0) (q := 25) rfl dX9_costWithout_24 rfl ?_
  refine v_getR (p' := 66) (q := 28) dX9_costWithout_25 fl_X9_74 kd_0 rfl (rfc_9_11 kd_0) rfl ?_
  refine v_aload_n (j := 0) (q := 29) rfl dX9_costWithout_28 rfl ?_
  refine v_getR (p' := 29) (q := 32) dX9_costWithout_29 fl_X9_46 kd_0 rfl (rfc_9_6 kd_0) rfl ?_
  refine v_getI (j := 2) (q := 35) dX9_costWithout_32 fl_X9_281 kd_29 rfl rfl rfl ?_
  rw [e29]
  refine v_aload_n (j := 0) (q := 36) rfl dX9_costWithout_35 rfl ?_
  refine v_getR (p' := 29) (q := 39) dX9_costWithout_36 fl_X9_46 kd_0 rfl (rfc_9_6 kd_0) rfl ?_
  refine v_getR (p' := 30) (q := 42) dX9_costWithout_39 fl_X9_282 kd_29 rfl (rfc_2_3 kd_29) rfl ?_
  refine v_cVL2 (q := 45) dX9_costWithout_42 mlX9_222 mdX3_costFrom (by decide) kd_66 rfl rfl ⟨Nat.le_refl 0, Nat.le_refl 0⟩ (by exact Nat.le_of_ble_eq_true rfl) rfl (c_X3_costFrom 66 30 m3 y r p t (dgs y.2.2.2.1) y.2.2.1 s0 q2 (by unfold isWd; decide) ok.st.1 (by have := ok.st.2; omega) q2.1.2.2.2.1 ok.2.2.1) ?_
  rintro z m4 ⟨f1, f2, f3, f4, f5, f6⟩
  refine v_lret dX9_costWithout_45 ?_
  have lo : ∀ q, q ≠ 40 → q ≠ 41 → (q < 66 ∨ 77 < q) → m4 q = m1 q := fun q h1 h2 h3 => by rw [f1 q (by omega) (by omega) (by omega) (by omega), a1 q (by omega), aimF_ne _ _ _ (by omega)]; exact o2 q h1 h2
  have e9 : m4 66 9 = m1 66 9 := by
    have u1 := q2.2.2.2.2.2.1
    have u2 : m1 66 9 = 6 := c1.2.2.2.2.2.1
    rw [f2 9 (by omega) (by omega), u2, u1]; rfl
  exact ⟨z, rfl, fun q h1 h2 => by rw [lo q (by omega) (by omega) (by omega)]; exact o1 q h1 (by omega), f6, c1.congr hMO (fun q hq => lo q (by omega) (by omega) (by omega)) (by rw [lo 54 (by omega) (by omega) (by omega)]) e9, by rw [lo 0 (by omega) (by omega) (by omega)]; exact p1⟩
