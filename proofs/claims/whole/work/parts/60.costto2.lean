/-! ===== StackLab.costTo, costWithout ===== -/
theorem getD_ext {t t' : List Int} (h0 : (t.length : Int) = t'.length) (h : ∀ k : Nat, k < t.length → t.getD k 0 = t'.getD k 0) : t = t' := by
  refine List.ext_getElem (by omega) (fun k h1 h2 => ?_)
  have := h k h1
  rw [List.getD_eq_getElem?_getD, List.getD_eq_getElem?_getD, List.getElem?_eq_getElem h1, List.getElem?_eq_getElem h2] at this
  exact this
/-- a search has been aimed: it is ready -/
theorem SQ_aim {y : Sy} {ex q : Int} {t : List Int} {mem m : Mem} {c : Nat} (hc : isSr c) (hpl : PL mem y) (hS0 : mem (sumS c) 0 = ex) (hpr : PRok y.2.2.2.2 ex (mem (sumS c + 1))) (h9 : mem c 9 = capS c) (h1 : ∀ p, p ≤ c ∨ c + 8 < p ∨ p = c + 2 → m p = aimF mem c q t.length p) (h2 : AimOK y ex q t m c t.length) : SQ y ex q t m c ∧ m c 2 = 1 := by
  have hsum := sumS_le (c := c)
  have hc2 := hc.ge
  have lo : ∀ p, p < 42 → m p = mem p := fun p hp => by rw [h1 p (by omega), aimF_ne _ _ _ (by omega)]
  have e : m c = aimF mem c q t.length c := h1 c (by omega)
  refine ⟨⟨hpl.congr (fun p _ _ => lo p (by omega)), by rw [lo _ (by omega)]; exact hS0, by rw [lo _ (by omega)]; exact hpr, ?_, ?_, ?_, h2⟩, ?_⟩
  · rw [e]; unfold aimF; rw [um_same, ui_ne _ _ (by omega), um_same, ui_same]
  · rw [e]; unfold aimF; rw [um_same, ui_same]
  · rw [e]; unfold aimF; rw [um_same, ui_ne _ _ (by omega), um_same, ui_ne _ _ (by omega), um_same, ui_ne _ _ (by omega)]; exact h9
  · rw [e]; unfold aimF; rw [um_same, ui_ne _ _ (by omega), um_same, ui_ne _ _ (by omega), um_same, ui_same]
/-- the start word of a system -/
theorem okS.st {y : Sy} (ok : okS y) : (∀ d ∈ dgs y.2.2.2.1, 1 ≤ d ∧ d ≤ y.2.1) ∧ (dgs y.2.2.2.1).length ≤ 4 := by
  refine ⟨ok.2.2.2.1.1.2, ?_⟩
  have a := dgs_len y.2.2.2.1
  have b := ok.2.2.2.1.2.2
  omega
theorem AIM_rng {MO : Mem → Sy → Prop} {m : Mem} {y : Sy} (h : CA MO m y) : m 42 2 = 0 ∨ (m 42 2 = 1 ∧ R32 (m 42 3) ∧ R32 (m 42 4) ∧ ∀ i, 0 ≤ i → i < m 42 4 → R32 (m 43 i)) := by
  refine h.2.1.elim Or.inl (fun ⟨x1, x2, q, t, ⟨ok, h2, h3, h4, h5, h6⟩, sq, _⟩ => Or.inr ⟨x1, ?_, ?_, fun i i0 i1 => ?_⟩)
  · have := sq.2.2.2.1
    have := ok.1
    omega
  · have := sq.2.2.2.2.1
    omega
  · have e := sq.2.2.2.2.1
    have := sq.2.2.2.2.2.2.1 i.toNat (by omega)
    rw [show ((i.toNat : Nat) : Int) = i by omega] at this
    have e2 : m 43 i = t.getD i.toNat 0 := this
    rw [e2, List.getD_eq_getElem?_getD, List.getElem?_eq_getElem (by omega)]
    have := h5 _ (List.getElem_mem (show i.toNat < t.length by omega))
    have := ok.2.1
    show R32 t[i.toNat]
    omega
theorem c_X9_costTo {MO : Mem → Sy → Prop} (hMO : MOc MO) (mem : Mem) (y : Sy) (hy : SR mem 1 y) (hc : CA MO mem y) (p : Int) (t : List Int) (hp : 0 ≤ p ∧ p < y.1) (ht : ∀ d ∈ t, 1 ≤ d ∧ d ≤ y.2.1) (ht6 : t.length ≤ 6) (hwd : WdIs mem 25 t) : CtrL mX9_costTo [aR 0, aI p] mem (fun z m => (∀ r, r ≠ 0 → (r < 29 ∨ (53 < r ∧ r ≠ 78)) → m r = mem r) ∧ m 42 0 = z ∧ TMn NO (RC BB y.2.2.2.2 (-6) y.2.2.1 (dgs y.2.2.2.1) p t) z ∧ CA MO m y ∧ m 0 14 = 1 ∧ m 42 2 = 1 ∧ AIM m y p t) := by
  have ok := hy.2.2.1
  have hS := ok.1
  have hG := ok.2.1
  have s0 : SQ0 y (-6) p t 42 := ⟨ok, Or.inl rfl, by omega, hp, ht, ht6⟩
  have h6 : capS 42 = 310 := rfl
  refine Ctr.ofV (ls := [aR 0, aI p]) rfl (by decide) rfl (Nat.le_of_ble_eq_true rfl) ?_
  refine v_aload_n (j := 0) (q := 1) rfl dX9_costTo_0 rfl ?_
  refine v_cVV0 (q := 4) dX9_costTo_1 mlX9_211 mdX9_makePlan (by decide) kd_0 rfl rfl ⟨Nat.le_refl 0, Nat.le_refl 0⟩ (by exact Nat.le_of_ble_eq_true rfl) rfl (c_X9_makePlan mem y hy hc) ?_
  rintro m1 ⟨o1, p1, c1, pl⟩
  have hA : m1 42 2 = 0 ∨ (m1 42 2 = 1 ∧ R32 (m1 42 3) ∧ R32 (m1 42 4) ∧ ∀ i, 0 ≤ i → i < m1 42 4 → R32 (m1 43 i)) := (AIM_rng c1)
  have w1 : WdIs m1 25 t := hwd.congr (o1 25 (by decide) (by decide)) (o1 26 (by decide) (by decide))
  refine v_aload_n (j := 0) (q := 5) rfl dX9_costTo_4 rfl ?_
  refine v_getR (p' := 42) (q := 8) dX9_costTo_5 fl_X9_67 kd_0 rfl (rfc_9_9 kd_0) rfl ?_
  refine v_iload_n (j := 1) (q := 9) rfl dX9_costTo_8 rfl ?_
  refine v_aload_n (j := 0) (q := 10) rfl dX9_costTo_9 rfl ?_
  refine v_getR (p' := 25) (q := 13) dX9_costTo_10 fl_X9_36 kd_0 rfl (rfc_9_4 kd_0) rfl ?_
  refine v_cVI2 (q := 16) dX9_costTo_13 mlX9_277 mdX3_isAimedAt (by decide) kd_42 rfl rfl ⟨Nat.le_refl 0, Nat.le_refl 0⟩ (by exact Nat.le_of_ble_eq_true rfl) rfl (c_X3_isAimedAt m1 p t (by omega) ht6 hA w1 (fun d hd => by have := ht d hd; omega)) ?_
  rintro _ _ ⟨rfl, C, rfl, hC⟩
  refine v_if_neB (tgt := 61) (q := 19) dX9_costTo_16 (by decide) rfl (fun h16 => ?_) (fun h16 => ?_)
  · refine v_aload_n (j := 0) (q := 62) rfl dX9_costTo_61 rfl ?_
    refine v_getR (p' := 42) (q := 65) dX9_costTo_62 fl_X9_67 kd_0 rfl (rfc_9_9 kd_0) rfl ?_
    refine v_getL (j := 0) (q := 68) dX9_costTo_65 fl_X9_288 kd_42 rfl rfl rfl ?_
    refine v_lret dX9_costTo_68 ?_
    first
      | (obtain ⟨q', t', ha⟩ := (c1.2.1.resolve_left (by have := hC h16; omega)).2.2
         have hx := hC h16
         have e1 : q' = p := by have := ha.2.1.2.2.2.1; omega
         have e2 : t' = t := getD_ext (by have := ha.2.1.2.2.2.2.1; omega) (fun k hk => by
           rw [← ha.2.1.2.2.2.2.2.2.1 k hk]
           exact hx.2.2.2 k (by have := ha.2.1.2.2.2.2.1; omega))
         rw [e1, e2] at ha
         exact ⟨_, rfl, fun r r0 r1 => o1 r r0 (by omega), rfl, ha.2.2.1, c1, p1, hx.1, ha⟩)
      | (have g3 : um m3 78 0 0 42 = m3 42 := um_ne _ _ _ (by decide)
         have lo : ∀ r, r < 42 ∨ (53 < r ∧ r ≠ 78) → um m3 78 0 0 r = m1 r := fun r hr => by rw [um_ne _ _ _ (by omega), f1 r (by omega) (by omega) (by omega) (by omega), a1 r (by omega), aimF_ne _ _ _ (by omega)]
         have sq : SQ y (-6) p t (um m3 78 0 0) 42 := q2.congr (Or.inl rfl) ht6 (fun r hr => by rw [um_ne _ _ _ (by omega), f1 r (by omega) (by omega) (by omega) (by omega)]) (fun j hj => by rw [g3]; exact f2 j (by omega) (by omega))
         have ai : AIM (um m3 78 0 0) y p t := ⟨s0, sq, by rw [g3, f3]; exact f6, Or.inl (by rw [um_same, ui_same])⟩
         have m2' : um m3 78 0 0 42 2 = 1 := by rw [g3, f2 2 (by omega) (by omega)]; exact q3
         have p9 : um m3 78 0 0 0 14 = 1 := by rw [lo 0 (by omega)]; exact p1
         refine ⟨_, rfl, fun r r0 r1 => by rw [lo r (by omega)]; exact o1 r r0 (by omega), rfl, ?_, ⟨Or.inr ⟨p9, pl.congr (fun r _ _ => lo r (by omega))⟩, Or.inr ⟨m2', p9, p, t, ai⟩, ?_, sq.2.2.2.2.2.1, by rw [lo 54 (by omega)]; exact c1.2.2.2.2.1, by rw [lo 66 (by omega)]; exact c1.2.2.2.2.2.1, c1.2.2.2.2.2.2.congr (lo 27 (by omega)) (lo 28 (by omega))⟩, p9, m2', ai⟩
         · rw [g3, f3]; exact f6
         · rw [lo 83 (by omega), lo 0 (by omega)]
           exact c1.2.2.1.elim Or.inl (fun ⟨x1, x2, x3⟩ => Or.inr ⟨x1, x2, hMO _ _ _ x3 (fun r _ _ => lo r (by omega))⟩))
  · refine v_aload_n (j := 0) (q := 20) rfl dX9_costTo_19 rfl ?_
    refine v_getR (p' := 42) (q := 23) dX9_costTo_20 fl_X9_67 kd_0 rfl (rfc_9_9 kd_0) rfl ?_
    refine v_iload_n (j := 1) (q := 24) rfl dX9_costTo_23 rfl ?_
    refine v_aload_n (j := 0) (q := 25) rfl dX9_costTo_24 rfl ?_
    refine v_getR (p' := 25) (q := 28) dX9_costTo_25 fl_X9_36 kd_0 rfl (rfc_9_4 kd_0) rfl ?_
    refine v_cVV2 (q := 31) dX9_costTo_28 mlX9_218 mdX3_aimAt (by decide) kd_42 rfl rfl ⟨Nat.le_refl 0, Nat.le_refl 0⟩ (by exact Nat.le_of_ble_eq_true rfl) rfl (c_X3_aimAt 42 25 (Or.inl rfl) (by unfold isWd; decide) m1 y (-6) p t ok pl.1 pl.2.1 (by omega) pl.2.2 hp ht ht6 w1) ?_
    rintro m2 ⟨a1, a2⟩
    obtain ⟨q2, q3⟩ := SQ_aim (Or.inl rfl) pl.1 pl.2.1 pl.2.2 c1.2.2.2.1 a1 a2
    have e29 : m2 29 2 = y.2.2.1 := q2.1.2.2.1
    refine v_aload_n (j := 0) (q := 32) rfl dX9_costTo_31 rfl ?_
    refine v_getR (p' := 42) (q := 35) dX9_costTo_32 fl_X9_67 kd_0 rfl (rfc_9_9 kd_0) rfl ?_
    refine v_aload_n (j := 0) (q := 36) rfl dX9_costTo_35 rfl ?_
    refine v_getR (p' := 29) (q := 39) dX9_costTo_36 fl_X9_46 kd_0 rfl (rfc_9_6 kd_0) rfl ?_
    refine v_getI (j := 2) (q := 42) dX9_costTo_39 fl_X9_281 kd_29 rfl rfl rfl ?_
    rw [e29]
    refine v_aload_n (j := 0) (q := 43) rfl dX9_costTo_42 rfl ?_
    refine v_getR (p' := 29) (q := 46) dX9_costTo_43 fl_X9_46 kd_0 rfl (rfc_9_6 kd_0) rfl ?_
    refine v_getR (p' := 30) (q := 49) dX9_costTo_46 fl_X9_282 kd_29 rfl (rfc_2_3 kd_29) rfl ?_
    refine v_cVL2 (q := 52) dX9_costTo_49 mlX9_222 mdX3_costFrom (by decide) kd_42 rfl rfl ⟨Nat.le_refl 0, Nat.le_refl 0⟩ (by exact Nat.le_of_ble_eq_true rfl) rfl (c_X3_costFrom 42 30 m2 y (-6) p t (dgs y.2.2.2.1) y.2.2.1 s0 q2 (by unfold isWd; decide) ok.st.1 (by have := ok.st.2; omega) q2.1.2.2.2.1 ok.2.2.1) ?_
    rintro z m3 ⟨f1, f2, f3, f4, f5, f6⟩
    refine v_pop2 (q := 53) rfl dX9_costTo_52 rfl ?_
    refine v_aload_n (j := 0) (q := 54) rfl dX9_costTo_53 rfl ?_
    refine v_getR (p' := 78) (q := 57) dX9_costTo_54 fl_X9_80 kd_0 rfl (rfc_9_12 kd_0) rfl ?_
    refine v_iconst (q := 58) dX9_costTo_57 rfl ?_
    refine v_putZ (j := 0) (q := 61) (by first | exact Or.inl rfl | exact Or.inr rfl | exact bI_01 _ | omega) dX9_costTo_58 fl_X9_285 kd_78 rfl rfl rfl ?_
    refine v_aload_n (j := 0) (q := 62) rfl dX9_costTo_61 rfl ?_
    refine v_getR (p' := 42) (q := 65) dX9_costTo_62 fl_X9_67 kd_0 rfl (rfc_9_9 kd_0) rfl ?_
    refine v_getL (j := 0) (q := 68) dX9_costTo_65 fl_X9_288 kd_42 rfl rfl rfl ?_
    refine v_lret dX9_costTo_68 ?_
    first
      | (obtain ⟨q', t', ha⟩ := (c1.2.1.resolve_left (by have := hC h16; omega)).2.2
         have hx := hC h16
         have e1 : q' = p := by have := ha.2.1.2.2.2.1; omega
         have e2 : t' = t := getD_ext (by have := ha.2.1.2.2.2.2.1; omega) (fun k hk => by
           rw [← ha.2.1.2.2.2.2.2.2.1 k hk]
           exact hx.2.2.2 k (by have := ha.2.1.2.2.2.2.1; omega))
         rw [e1, e2] at ha
         exact ⟨_, rfl, fun r r0 r1 => o1 r r0 (by omega), rfl, ha.2.2.1, c1, p1, hx.1, ha⟩)
      | (have g3 : um m3 78 0 0 42 = m3 42 := um_ne _ _ _ (by decide)
         have lo : ∀ r, r < 42 ∨ (53 < r ∧ r ≠ 78) → um m3 78 0 0 r = m1 r := fun r hr => by rw [um_ne _ _ _ (by omega), f1 r (by omega) (by omega) (by omega) (by omega), a1 r (by omega), aimF_ne _ _ _ (by omega)]
         have sq : SQ y (-6) p t (um m3 78 0 0) 42 := q2.congr (Or.inl rfl) ht6 (fun r hr => by rw [um_ne _ _ _ (by omega), f1 r (by omega) (by omega) (by omega) (by omega)]) (fun j hj => by rw [g3]; exact f2 j (by omega) (by omega))
         have ai : AIM (um m3 78 0 0) y p t := ⟨s0, sq, by rw [g3, f3]; exact f6, Or.inl (by rw [um_same, ui_same])⟩
         have m2' : um m3 78 0 0 42 2 = 1 := by rw [g3, f2 2 (by omega) (by omega)]; exact q3
         have p9 : um m3 78 0 0 0 14 = 1 := by rw [lo 0 (by omega)]; exact p1
         refine ⟨_, rfl, fun r r0 r1 => by rw [lo r (by omega)]; exact o1 r r0 (by omega), rfl, ?_, ⟨Or.inr ⟨p9, pl.congr (fun r _ _ => lo r (by omega))⟩, Or.inr ⟨m2', p9, p, t, ai⟩, ?_, sq.2.2.2.2.2.1, by rw [lo 54 (by omega)]; exact c1.2.2.2.2.1, by rw [lo 66 (by omega)]; exact c1.2.2.2.2.2.1, c1.2.2.2.2.2.2.congr (lo 27 (by omega)) (lo 28 (by omega))⟩, p9, m2', ai⟩
         · rw [g3, f3]; exact f6
         · rw [lo 83 (by omega), lo 0 (by omega)]
           exact c1.2.2.1.elim Or.inl (fun ⟨x1, x2, x3⟩ => Or.inr ⟨x1, x2, hMO _ _ _ x3 (fun r _ _ => lo r (by omega))⟩))
