/-! ===== Summary.spread ===== -/
theorem l_X5_sby (P : Int → Int → Prop) (b g : Nat) (hb : isSum b) (hg : isRow g) (mem : Mem) (y : Sy) (ex k : Int) (kk : Nat) (r : Rl) (hkk : (kk : Int) = k) (hr : y.2.2.2.2[kk]? = some r) (hex : k ≠ ex) (hk20 : k < 20) (ok : okS y) (okr : okR y.1 y.2.1 r) (h29 : mem 29 0 = y.1) (hpl : PLk mem k r) (hpr : PRok y.2.2.2.2 ex (mem (b + 1))) (hcl : ∀ i c j d, eS y.1 (mem (b + 1)) r i c j → c + d < NO → P j d → P i (c + d)) (h2 : nd r.2.2.2.1 = 2) (hw : 0 ≤ mem g (hdR r) ∧ mem g (hdR r) < NO) (hwP : P (hdR r) (mem g (hdR r))) : ∀ (j : Nat) (i : Int) (v : Int → Int) (C : Prop) (u8 u9 : AV), i + j = y.1 → 0 ≤ i → GSnd P v → (∀ q, v q ≤ mem g q) → (¬ C → ∀ q, v q = mem g q) → (∀ m, 0 ≤ m → m < i → v (m * 5 + blR r - 1) ≤ mem g (hdR r) + cr BB r + mem (b + 1) (nxR r * 4 + m)) →
    V cX5_spreadBy RX5 9 (some .boolean) (rmk 1 23) (mE (fun q m => ∃ z, q = aI z ∧ rowQ P (eS y.1 (mem (b + 1))) g r mem z m)) 70 [aR b, aI k, aR g, aL (mem g (hdR r) + cr BB r), aU, aI (bI C), aI i, u8, u9] [] (sm mem g v) := by
  have hNO := NO_def
  obtain ⟨hg1, hg2⟩ := hg
  have hbn : ∀ q, q ≤ 41 → q ≠ g := fun q q2 => by omega
  have hbb : b + 1 ≤ 41 := by rcases hb with rfl | rfl <;> omega
  obtain ⟨c1, c2, c3⟩ := rl_cases okr ok.2.1.2 ok.1.2
  have c3 := (c3.resolve_left (fun h => by have := h.1; omega)).resolve_left (fun h => by have := h.1; omega)
  obtain ⟨-, d1, d2, d3, d4, d5, d6⟩ := c3
  have hS := ok.1
  have hG := ok.2.1
  obtain ⟨p32, p33, p34, p35, p36, p37⟩ := hpl
  obtain ⟨q0, q1⟩ := okr.2.2.1
  intro j
  induction j with
  | zero =>
    intro i v C u8 u9 h1 h3 hs hle hC hr2
    have e29 : sm mem g v 29 = mem 29 := sm_ne _ _ (hbn 29 (by omega))
    refine v_iload (j := 6) (q := 72) rfl dX5_spreadBy_70 rfl ?_
    refine v_aload_n (j := 0) (q := 73) rfl dX5_spreadBy_72 rfl ?_
    refine v_getR (p' := 29) (q := 76) dX5_spreadBy_73 fl_X5_19 (sum1 hb) rfl (rfc_5_1 (sum1 hb)) rfl ?_
    refine v_getI (j := 0) (q := 79) dX5_spreadBy_76 fl_X5_64 kd_29 rfl rfl rfl ?_
    rw [e29, h29]
    refine v_icmp_ge (tgt := 133) (q := 82) dX5_spreadBy_79 (by decide) rfl (by omega) (by omega) (fun h79 => ?_) (fun h79 => ?_)
    · refine v_iload (j := 5) (q := 135) rfl dX5_spreadBy_133 rfl ?_
      refine v_zret (by first | exact Or.inl rfl | exact Or.inr rfl | exact bI_01 _ | omega) dX5_spreadBy_135 ?_
      refine ⟨_, rfl, v, C, rfl, rfl, hC, hle, hs, fun i2 c j2 he hj => ?_⟩
      rcases he with ⟨e1, -⟩ | ⟨-, m, m0, m1, rfl, rfl, rfl⟩
      · omega
      · have := hr2 m m0 (by omega)
        omega
    · exact absurd h79 (by omega)
  | succ j ih =>
    intro i v C u8 u9 h1 h3 hs hle hC hr2
    have e29 : sm mem g v 29 = mem 29 := sm_ne _ _ (hbn 29 (by omega))
    have e35 : sm mem g v 35 k = nxR r := by rw [sm_ne _ _ (hbn 35 (by omega)), p35]
    have e36 : sm mem g v 36 k = blR r := by rw [sm_ne _ _ (hbn 36 (by omega)), p36]
    have ev : sm mem g v g = v := sm_same _ _ _
    have eb : sm mem g v (b + 1) = mem (b + 1) := sm_ne _ _ (hbn _ hbb)
    have w := hpr.rng ok (i := nxR r * 4 + i) (by omega) (by omega)
    obtain ⟨w0, w1, w2⟩ := hs (i * 5 + blR r - 1) (by omega) (by omega)
    obtain ⟨c, hc⟩ : ∃ c, c = mem g (hdR r) + cr BB r + mem (b + 1) (nxR r * 4 + i) := ⟨_, rfl⟩
    have fin : ∀ (C2 : Prop) (u8 u9 : AV), (¬ C2 → ¬ C ∧ ¬ c < v (i * 5 + blR r - 1)) → V cX5_spreadBy RX5 9 (some .boolean) (rmk 1 23) (mE (fun q m => ∃ z, q = aI z ∧ rowQ P (eS y.1 (mem (b + 1))) g r mem z m)) 70 [aR b, aI k, aR g, aL (mem g (hdR r) + cr BB r), aU, aI (bI C2), aI (i + 1), u8, u9] [] (sm mem g (lw v (i * 5 + blR r - 1) c)) := fun C2 u8 u9 hC2 => by
      refine ih (i + 1) (lw v (i * 5 + blR r - 1) c) C2 u8 u9 (by omega) (by omega) (hs.low (by omega) (by omega) (fun hlt => ?_)) (fun q => Int.le_trans (lw_le _ _ _ q) (hle q)) (fun h9 q => ?_) (fun m m0 m1 => ?_)
      · rw [show c = cr BB r + mem (b + 1) (nxR r * 4 + i) + mem g (hdR r) by omega]
        exact hcl _ _ _ _ (Or.inr ⟨h2, i, h3, by omega, rfl, rfl, rfl⟩) (by omega) hwP
      · rw [lw_no (hC2 h9).2]
        exact hC (hC2 h9).1 q
      · by_cases em : m = i
        · subst em
          have := lw_at v (m * 5 + blR r - 1) c
          omega
        · have := hr2 m m0 (by omega)
          have := lw_le v (i * 5 + blR r - 1) c (m * 5 + blR r - 1)
          omega
    refine v_iload (j := 6) (q := 72) rfl dX5_spreadBy_70 rfl ?_
    refine v_aload_n (j := 0) (q := 73) rfl dX5_spreadBy_72 rfl ?_
    refine v_getR (p' := 29) (q := 76) dX5_spreadBy_73 fl_X5_19 (sum1 hb) rfl (rfc_5_1 (sum1 hb)) rfl ?_
    refine v_getI (j := 0) (q := 79) dX5_spreadBy_76 fl_X5_64 kd_29 rfl rfl rfl ?_
    rw [e29, h29]
    refine v_icmp_ge (tgt := 133) (q := 82) dX5_spreadBy_79 (by decide) rfl (by omega) (by omega) (fun h79 => ?_) (fun h79 => ?_)
    · exact absurd h79 (by omega)
    · refine v_lload_n (j := 3) (q := 83) rfl dX5_spreadBy_82 rfl ?_
      refine v_aload_n (j := 0) (q := 84) rfl dX5_spreadBy_83 rfl ?_
      refine v_aload_n (j := 0) (q := 85) rfl dX5_spreadBy_84 rfl ?_
      refine v_getR (p' := 29) (q := 88) dX5_spreadBy_85 fl_X5_19 (sum1 hb) rfl (rfc_5_1 (sum1 hb)) rfl ?_
      refine v_getR (p' := 35) (q := 91) dX5_spreadBy_88 fl_X5_57 kd_29 rfl (rfc_2_7 kd_29) rfl ?_
      refine v_iload_n (j := 1) (q := 92) rfl dX5_spreadBy_91 rfl ?_
      refine v_iald (q := 93) dX5_spreadBy_92 kd_35 (by omega) (by omega) rfl ?_
      rw [e35]
      refine v_iload (j := 6) (q := 95) rfl dX5_spreadBy_93 rfl ?_
      refine v_cVL2 (q := 98) dX5_spreadBy_95 mlX5_67 mdX5_costOfRemoving (by decide) (sum1 hb) rfl rfl ⟨Nat.le_refl 0, Nat.le_refl 0⟩ (by exact Nat.le_of_ble_eq_true rfl) rfl (c_X5_costOfRemoving b (nxR r) i _ hb (by omega) (by omega)) ?_
      rintro _ _ ⟨rfl, rfl⟩
      rw [eb]
      refine v_ladd (q := 99) dX5_spreadBy_98 rfl ?_
      refine v_lst7 (q := 101) rfl dX5_spreadBy_99 (by decide) rfl ?_
      refine v_aload_n (j := 2) (q := 102) rfl dX5_spreadBy_101 rfl ?_
      refine v_iload (j := 6) (q := 104) rfl dX5_spreadBy_102 rfl ?_
      refine v_aload_n (j := 0) (q := 105) rfl dX5_spreadBy_104 rfl ?_
      refine v_getR (p' := 29) (q := 108) dX5_spreadBy_105 fl_X5_19 (sum1 hb) rfl (rfc_5_1 (sum1 hb)) rfl ?_
      refine v_getR (p' := 36) (q := 111) dX5_spreadBy_108 fl_X5_71 kd_29 rfl (rfc_2_8 kd_29) rfl ?_
      refine v_iload_n (j := 1) (q := 112) rfl dX5_spreadBy_111 rfl ?_
      refine v_iald (q := 113) dX5_spreadBy_112 kd_36 (by omega) (by omega) rfl ?_
      rw [e36]
      refine v_cSNI2 (q := 116) dX5_spreadBy_113 mlX5_74 mdX9_headOf (by decide) ⟨Nat.le_refl 0, Nat.le_refl 0⟩ (by exact Nat.le_of_ble_eq_true rfl) rfl (c_X9_headOf i (blR r) _) ?_
      rintro _ _ ⟨rfl, rfl⟩
      refine v_lload (j := 7) (q := 118) rfl dX5_spreadBy_116 rfl ?_
      refine v_cSNI3 (q := 121) dX5_spreadBy_118 mlX5_53 mdX9_lower (by decide) ⟨Nat.le_refl 0, Nat.le_refl 0⟩ (by exact Nat.le_of_ble_eq_true rfl) rfl (c_X9_lower g 20 (i * 5 + blR r - 1) _ _ hg1 (by omega) (by omega) (by omega) (by rw [ev]; omega)) ?_
      rw [← hc, lw_mem, sm_sm, ev]
      rintro _ _ ⟨rfl, rfl⟩
      refine v_if_eqB (tgt := 127) (q := 124) dX5_spreadBy_121 (by decide) rfl (fun h121 => ?_) (fun h121 => ?_)
      · refine v_iinc6 (q := 130) rfl dX5_spreadBy_127 (by decide) rfl ?_
        refine v_goto (q := 70) dX5_spreadBy_130 (by decide) ?_
        first
          | exact fin C _ _ (fun h => ⟨h, h121⟩)
          | (have hk := fin True (aL c) aU (fun h => absurd trivial h)
             rw [← bI_1] at hk
             exact hk)
      · refine v_iconst (q := 125) dX5_spreadBy_124 rfl ?_
        refine v_ist5 (q := 127) rfl dX5_spreadBy_125 (by decide) rfl ?_
        refine v_iinc6 (q := 130) rfl dX5_spreadBy_127 (by decide) rfl ?_
        refine v_goto (q := 70) dX5_spreadBy_130 (by decide) ?_
        first
          | exact fin C _ _ (fun h => ⟨h, h121⟩)
          | (have hk := fin True (aL c) aU (fun h => absurd trivial h)
             rw [← bI_1] at hk
             exact hk)
theorem c_X5_spreadBy (P : Int → Int → Prop) (b g : Nat) (hb : isSum b) (hg : isRow g) (mem : Mem) (y : Sy) (ex k : Int) (kk : Nat) (r : Rl) (hkk : (kk : Int) = k) (hr : y.2.2.2.2[kk]? = some r) (hex : k ≠ ex) (hk20 : k < 20) (ok : okS y) (okr : okR y.1 y.2.1 r) (h29 : mem 29 0 = y.1) (hpl : PLk mem k r) (hpr : PRok y.2.2.2.2 ex (mem (b + 1))) (hcl : ∀ i c j d, eS y.1 (mem (b + 1)) r i c j → c + d < NO → P j d → P i (c + d)) (hs : GSnd P (mem g)) (hlt : mem g (hdR r) < NO) : CtrI mX5_spreadBy [aR b, aI k, aR g] mem (rowQ P (eS y.1 (mem (b + 1))) g r mem) := by
  have hNO := NO_def
  obtain ⟨hg1, hg2⟩ := id hg
  obtain ⟨c1, c2, c3⟩ := rl_cases okr ok.2.1.2 ok.1.2
  have hS := ok.1
  have hG := ok.2.1
  obtain ⟨p32, p33, p34, p35, p36, p37⟩ := id hpl
  have p37 : mem 37 k = cr BB r := p37
  obtain ⟨q0, q1⟩ := okr.2.2.1
  have hn0 := nd_nn r.2.2.2.1
  have hn2 := okr.2.2.2.1.2
  have w3 := hs (hdR r) c1.1 c1.2
  refine Ctr.ofV (ls := [aR b, aI k, aR g, aU, aU, aU, aU, aU, aU]) rfl (by decide) rfl (Nat.le_of_ble_eq_true rfl) ?_
  refine v_aload_n (j := 2) (q := 1) rfl dX5_spreadBy_0 rfl ?_
  refine v_aload_n (j := 0) (q := 2) rfl dX5_spreadBy_1 rfl ?_
  refine v_getR (p' := 29) (q := 5) dX5_spreadBy_2 fl_X5_19 (sum1 hb) rfl (rfc_5_1 (sum1 hb)) rfl ?_
  refine v_getR (p' := 32) (q := 8) dX5_spreadBy_5 fl_X5_40 kd_29 rfl (rfc_2_4 kd_29) rfl ?_
  refine v_iload_n (j := 1) (q := 9) rfl dX5_spreadBy_8 rfl ?_
  refine v_iald (q := 10) dX5_spreadBy_9 kd_32 (by omega) (by omega) rfl ?_
  rw [p32]
  refine v_lald (q := 11) dX5_spreadBy_10 hg1 (by omega) (by omega) rfl ?_
  refine v_aload_n (j := 0) (q := 12) rfl dX5_spreadBy_11 rfl ?_
  refine v_getR (p' := 29) (q := 15) dX5_spreadBy_12 fl_X5_19 (sum1 hb) rfl (rfc_5_1 (sum1 hb)) rfl ?_
  refine v_getR (p' := 37) (q := 18) dX5_spreadBy_15 fl_X5_44 kd_29 rfl (rfc_2_9 kd_29) rfl ?_
  refine v_iload_n (j := 1) (q := 19) rfl dX5_spreadBy_18 rfl ?_
  refine v_lald (q := 20) dX5_spreadBy_19 kd_37 (by omega) (by omega) rfl ?_
  rw [p37]
  refine v_ladd (q := 21) dX5_spreadBy_20 rfl ?_
  refine v_lst3 (q := 22) rfl dX5_spreadBy_21 (by decide) rfl ?_
  refine v_aload_n (j := 0) (q := 23) rfl dX5_spreadBy_22 rfl ?_
  refine v_getR (p' := 29) (q := 26) dX5_spreadBy_23 fl_X5_19 (sum1 hb) rfl (rfc_5_1 (sum1 hb)) rfl ?_
  refine v_getR (p' := 34) (q := 29) dX5_spreadBy_26 fl_X5_47 kd_29 rfl (rfc_2_6 kd_29) rfl ?_
  refine v_iload_n (j := 1) (q := 30) rfl dX5_spreadBy_29 rfl ?_
  refine v_iald (q := 31) dX5_spreadBy_30 kd_34 (by omega) (by omega) rfl ?_
  rw [p34]
  refine v_iconst (q := 32) dX5_spreadBy_31 rfl ?_
  refine v_icmp_ne (tgt := 50) (q := 35) dX5_spreadBy_32 (by decide) rfl (by omega) (by omega) (fun h32 => ?_) (fun h32 => ?_)
  · refine v_aload_n (j := 0) (q := 51) rfl dX5_spreadBy_50 rfl ?_
    refine v_getR (p' := 29) (q := 54) dX5_spreadBy_51 fl_X5_19 (sum1 hb) rfl (rfc_5_1 (sum1 hb)) rfl ?_
    refine v_getR (p' := 34) (q := 57) dX5_spreadBy_54 fl_X5_47 kd_29 rfl (rfc_2_6 kd_29) rfl ?_
    refine v_iload_n (j := 1) (q := 58) rfl dX5_spreadBy_57 rfl ?_
    refine v_iald (q := 59) dX5_spreadBy_58 kd_34 (by omega) (by omega) rfl ?_
    rw [p34]
    refine v_if_ne (tgt := 64) (q := 62) dX5_spreadBy_59 (by decide) rfl (by omega) (fun h59 => ?_) (fun h59 => ?_)
    · refine v_iconst (q := 65) dX5_spreadBy_64 rfl ?_
      refine v_ist5 (q := 67) rfl dX5_spreadBy_65 (by decide) rfl ?_
      refine v_iconst (q := 68) dX5_spreadBy_67 rfl ?_
      refine v_ist6 (q := 70) rfl dX5_spreadBy_68 (by decide) rfl ?_
      have hk := l_X5_sby P b g hb hg mem y ex k kk r hkk hr hex hk20 ok okr h29 hpl hpr hcl (by omega) ⟨w3.1, hlt⟩ (w3.2.2 hlt) y.1.toNat 0 (mem g) False aU aU (by omega) (by omega) hs (fun _ => Int.le_refl _) (fun _ _ => rfl) (fun m m0 m1 => by omega)
      rw [sm_id mem g (fun _ => rfl), ← bI_0] at hk
      exact hk
    · refine v_iconst (q := 63) dX5_spreadBy_62 rfl ?_
      refine v_zret (by first | exact Or.inl rfl | exact Or.inr rfl | exact bI_01 _ | omega) dX5_spreadBy_63 ?_
      exact ⟨_, rfl, mem g, False, (sm_id mem g (fun _ => rfl)).symm, bI_0.symm, fun _ _ => rfl, fun _ => Int.le_refl _, hs, fun i2 c j2 he hj => by rcases he with ⟨e1, -⟩ | ⟨e1, -⟩ <;> omega⟩
  · obtain ⟨z1, z2, z3, z4, z5⟩ := (c3.resolve_left (fun h => by have := h.1; omega)).resolve_right (fun h => by have := h.1; omega)
    have z6 : 0 ≤ nxR r ∧ nxR r < 20 := by omega
    have z7 := hs (nxR r) z6.1 z6.2
    refine v_aload_n (j := 2) (q := 36) rfl dX5_spreadBy_35 rfl ?_
    refine v_aload_n (j := 0) (q := 37) rfl dX5_spreadBy_36 rfl ?_
    refine v_getR (p' := 29) (q := 40) dX5_spreadBy_37 fl_X5_19 (sum1 hb) rfl (rfc_5_1 (sum1 hb)) rfl ?_
    refine v_getR (p' := 35) (q := 43) dX5_spreadBy_40 fl_X5_57 kd_29 rfl (rfc_2_7 kd_29) rfl ?_
    refine v_iload_n (j := 1) (q := 44) rfl dX5_spreadBy_43 rfl ?_
    refine v_iald (q := 45) dX5_spreadBy_44 kd_35 (by omega) (by omega) rfl ?_
    rw [p35]
    refine v_lload_n (j := 3) (q := 46) rfl dX5_spreadBy_45 rfl ?_
    refine v_cSNI3 (q := 49) dX5_spreadBy_46 mlX5_53 mdX9_lower (by decide) ⟨Nat.le_refl 0, Nat.le_refl 0⟩ (by exact Nat.le_of_ble_eq_true rfl) rfl (c_X9_lower g 20 (nxR r) _ _ hg1 z6.1 z6.2 (by omega) (by omega)) ?_
    rw [lw_mem]
    rintro _ _ ⟨rfl, rfl⟩
    refine v_zret (by first | exact Or.inl rfl | exact Or.inr rfl | exact bI_01 _ | omega) dX5_spreadBy_49 ?_
    refine ⟨_, rfl, _, _, rfl, rfl, fun h i => by rw [lw_no h], lw_le _ _ _, hs.low z6 (by omega) (fun hlt2 => ?_), fun i2 c j2 he hj => ?_⟩
    · rw [Int.add_comm]
      exact hcl _ _ _ _ (Or.inl ⟨z1, rfl, rfl, rfl⟩) (by omega) (w3.2.2 hlt)
    · rcases he with ⟨e1, rfl, rfl, rfl⟩ | ⟨e1, -⟩
      · have := lw_at (mem g) (nxR r) (mem g (hdR r) + cr BB r)
        omega
      · omega
