/-! ===== Summary.gather ===== -/
theorem l_X5_gby (P : Int → Int → Prop) (b g : Nat) (hb : isSum b) (hg : isRow g) (mem : Mem) (y : Sy) (ex k : Int) (kk : Nat) (r : Rl) (hkk : (kk : Int) = k) (hr : y.2.2.2.2[kk]? = some r) (hex : k ≠ ex) (hk20 : k < 20) (ok : okS y) (okr : okR y.1 y.2.1 r) (h29 : mem 29 0 = y.1) (hpl : PLk mem k r) (hpr : PRok y.2.2.2.2 ex (mem (b + 1))) (hcl : ∀ i c j d, eG y.1 (mem (b + 1)) r i c j → c + d < NO → P j d → P i (c + d)) (h2 : nd r.2.2.2.1 = 2) : ∀ (j : Nat) (i : Int) (v : Int → Int) (C : Prop) (u8 u9 : AV), i + j = y.1 → 0 ≤ i → GSnd P v → (∀ q, v q ≤ mem g q) → (¬ C → ∀ q, v q = mem g q) → (∀ m, 0 ≤ m → m < i → v (hdR r) ≤ cr BB r + mem (b + 1) (nxR r * 4 + m) + mem g (m * 5 + blR r - 1)) →
    V cX5_gatherBy RX5 10 (some .boolean) (rmk 1 23) (mE (fun q m => ∃ z, q = aI z ∧ rowQ P (eG y.1 (mem (b + 1))) g r mem z m)) 74 [aR b, aI k, aR g, aI (hdR r), aL (cr BB r), aU, aI (bI C), aI i, u8, u9] [] (sm mem g v) := by
  have hNO := NO_def
  obtain ⟨hg1, hg2⟩ := hg
  have hbn : ∀ q, q ≤ 41 → q ≠ g := fun q q2 => by omega
  have hbb : b + 1 ≤ 41 := by rcases hb with rfl | rfl <;> omega
  obtain ⟨c1, c2, c3⟩ := rl_cases okr ok.2.1.2 ok.1.2
  have c3 := (c3.resolve_left (fun h => by have := h.1; omega)).resolve_left (fun h => by have := h.1; omega)
  obtain ⟨-, d1, d2, d3, d4, d5, d6⟩ := c3
  have hS := ok.1
  have hG := ok.2.1
  obtain ⟨p32, p33, p34, p35, p36, p37⟩ := hpl
  obtain ⟨q0, q1⟩ := okr.2.2.1
  intro j
  induction j with
  | zero =>
    intro i v C u8 u9 h1 h3 hs hle hC hr2
    have e29 : sm mem g v 29 = mem 29 := sm_ne _ _ (hbn 29 (by omega))
    refine v_iload (j := 7) (q := 76) rfl dX5_gatherBy_74 rfl ?_
    refine v_aload_n (j := 0) (q := 77) rfl dX5_gatherBy_76 rfl ?_
    refine v_getR (p' := 29) (q := 80) dX5_gatherBy_77 fl_X5_19 (sum1 hb) rfl (rfc_5_1 (sum1 hb)) rfl ?_
    refine v_getI (j := 0) (q := 83) dX5_gatherBy_80 fl_X5_64 kd_29 rfl rfl rfl ?_
    rw [e29, h29]
    refine v_icmp_ge (tgt := 142) (q := 86) dX5_gatherBy_83 (by decide) rfl (by omega) (by omega) (fun h83 => ?_) (fun h83 => ?_)
    · refine v_iload (j := 6) (q := 144) rfl dX5_gatherBy_142 rfl ?_
      refine v_zret (by first | exact Or.inl rfl | exact Or.inr rfl | exact bI_01 _ | omega) dX5_gatherBy_144 ?_
      refine ⟨_, rfl, v, C, rfl, rfl, hC, hle, hs, fun i2 c j2 he hj => ?_⟩
      rcases he with ⟨e1, -⟩ | ⟨-, m, m0, m1, rfl, rfl, rfl⟩
      · omega
      · exact hr2 m m0 (by omega)
    · exact absurd h83 (by omega)
  | succ j ih =>
    intro i v C u8 u9 h1 h3 hs hle hC hr2
    have e29 : sm mem g v 29 = mem 29 := sm_ne _ _ (hbn 29 (by omega))
    have e35 : sm mem g v 35 k = nxR r := by rw [sm_ne _ _ (hbn 35 (by omega)), p35]
    have e36 : sm mem g v 36 k = blR r := by rw [sm_ne _ _ (hbn 36 (by omega)), p36]
    have ev : sm mem g v g = v := sm_same _ _ _
    have eb : sm mem g v (b + 1) = mem (b + 1) := sm_ne _ _ (hbn _ hbb)
    have w := hpr.rng ok (i := nxR r * 4 + i) (by omega) (by omega)
    obtain ⟨w0, w1, w2⟩ := hs (i * 5 + blR r - 1) (by omega) (by omega)
    have w3 := hs (hdR r) c1.1 c1.2
    have hle1 := hle (i * 5 + blR r - 1)
    obtain ⟨c, hc⟩ : ∃ c, c = cr BB r + mem (b + 1) (nxR r * 4 + i) + v (i * 5 + blR r - 1) := ⟨_, rfl⟩
    have fin : ∀ (C2 : Prop) (u8 u9 : AV), (¬ C2 → ¬ C ∧ ¬ c < v (hdR r)) → V cX5_gatherBy RX5 10 (some .boolean) (rmk 1 23) (mE (fun q m => ∃ z, q = aI z ∧ rowQ P (eG y.1 (mem (b + 1))) g r mem z m)) 74 [aR b, aI k, aR g, aI (hdR r), aL (cr BB r), aU, aI (bI C2), aI (i + 1), u8, u9] [] (sm mem g (lw v (hdR r) c)) := fun C2 u8 u9 hC2 => by
      refine ih (i + 1) (lw v (hdR r) c) C2 u8 u9 (by omega) (by omega) (hs.low c1 (by omega) (fun hlt => ?_)) (fun q => Int.le_trans (lw_le _ _ _ q) (hle q)) (fun h9 q => ?_) (fun m m0 m1 => ?_)
      · rw [hc]
        exact hcl _ _ _ _ (Or.inr ⟨h2, i, h3, by omega, rfl, rfl, rfl⟩) (by omega) (w2 (by omega))
      · rw [lw_no (hC2 h9).2]
        exact hC (hC2 h9).1 q
      · by_cases em : m = i
        · subst em
          have := lw_at v (hdR r) c
          omega
        · have := hr2 m m0 (by omega)
          have := lw_le v (hdR r) c (hdR r)
          omega
    refine v_iload (j := 7) (q := 76) rfl dX5_gatherBy_74 rfl ?_
    refine v_aload_n (j := 0) (q := 77) rfl dX5_gatherBy_76 rfl ?_
    refine v_getR (p' := 29) (q := 80) dX5_gatherBy_77 fl_X5_19 (sum1 hb) rfl (rfc_5_1 (sum1 hb)) rfl ?_
    refine v_getI (j := 0) (q := 83) dX5_gatherBy_80 fl_X5_64 kd_29 rfl rfl rfl ?_
    rw [e29, h29]
    refine v_icmp_ge (tgt := 142) (q := 86) dX5_gatherBy_83 (by decide) rfl (by omega) (by omega) (fun h83 => ?_) (fun h83 => ?_)
    · exact absurd h83 (by omega)
    · refine v_lload (j := 4) (q := 88) rfl dX5_gatherBy_86 rfl ?_
      refine v_aload_n (j := 0) (q := 89) rfl dX5_gatherBy_88 rfl ?_
      refine v_aload_n (j := 0) (q := 90) rfl dX5_gatherBy_89 rfl ?_
      refine v_getR (p' := 29) (q := 93) dX5_gatherBy_90 fl_X5_19 (sum1 hb) rfl (rfc_5_1 (sum1 hb)) rfl ?_
      refine v_getR (p' := 35) (q := 96) dX5_gatherBy_93 fl_X5_57 kd_29 rfl (rfc_2_7 kd_29) rfl ?_
      refine v_iload_n (j := 1) (q := 97) rfl dX5_gatherBy_96 rfl ?_
      refine v_iald (q := 98) dX5_gatherBy_97 kd_35 (by omega) (by omega) rfl ?_
      rw [e35]
      refine v_iload (j := 7) (q := 100) rfl dX5_gatherBy_98 rfl ?_
      refine v_cVL2 (q := 103) dX5_gatherBy_100 mlX5_67 mdX5_costOfRemoving (by decide) (sum1 hb) rfl rfl ⟨Nat.le_refl 0, Nat.le_refl 0⟩ (by exact Nat.le_of_ble_eq_true rfl) rfl (c_X5_costOfRemoving b (nxR r) i _ hb (by omega) (by omega)) ?_
      rintro _ _ ⟨rfl, rfl⟩
      rw [eb]
      refine v_ladd (q := 104) dX5_gatherBy_103 rfl ?_
      refine v_lst8 (q := 106) rfl dX5_gatherBy_104 (by decide) rfl ?_
      refine v_aload_n (j := 2) (q := 107) rfl dX5_gatherBy_106 rfl ?_
      refine v_iload_n (j := 3) (q := 108) rfl dX5_gatherBy_107 rfl ?_
      refine v_lload (j := 8) (q := 110) rfl dX5_gatherBy_108 rfl ?_
      refine v_aload_n (j := 2) (q := 111) rfl dX5_gatherBy_110 rfl ?_
      refine v_iload (j := 7) (q := 113) rfl dX5_gatherBy_111 rfl ?_
      refine v_aload_n (j := 0) (q := 114) rfl dX5_gatherBy_113 rfl ?_
      refine v_getR (p' := 29) (q := 117) dX5_gatherBy_114 fl_X5_19 (sum1 hb) rfl (rfc_5_1 (sum1 hb)) rfl ?_
      refine v_getR (p' := 36) (q := 120) dX5_gatherBy_117 fl_X5_71 kd_29 rfl (rfc_2_8 kd_29) rfl ?_
      refine v_iload_n (j := 1) (q := 121) rfl dX5_gatherBy_120 rfl ?_
      refine v_iald (q := 122) dX5_gatherBy_121 kd_36 (by omega) (by omega) rfl ?_
      rw [e36]
      refine v_cSNI2 (q := 125) dX5_gatherBy_122 mlX5_74 mdX9_headOf (by decide) ⟨Nat.le_refl 0, Nat.le_refl 0⟩ (by exact Nat.le_of_ble_eq_true rfl) rfl (c_X9_headOf i (blR r) _) ?_
      rintro _ _ ⟨rfl, rfl⟩
      refine v_lald (q := 126) dX5_gatherBy_125 hg1 (by omega) (by omega) rfl ?_
      rw [ev]
      refine v_ladd (q := 127) dX5_gatherBy_126 rfl ?_
      refine v_cSNI3 (q := 130) dX5_gatherBy_127 mlX5_53 mdX9_lower (by decide) ⟨Nat.le_refl 0, Nat.le_refl 0⟩ (by exact Nat.le_of_ble_eq_true rfl) rfl (c_X9_lower g 20 (hdR r) _ _ hg1 c1.1 c1.2 (by omega) (by rw [ev]; omega)) ?_
      rw [← hc, lw_mem, sm_sm, ev]
      rintro _ _ ⟨rfl, rfl⟩
      refine v_if_eqB (tgt := 136) (q := 133) dX5_gatherBy_130 (by decide) rfl (fun h130 => ?_) (fun h130 => ?_)
      · refine v_iinc7 (q := 139) rfl dX5_gatherBy_136 (by decide) rfl ?_
        refine v_goto (q := 74) dX5_gatherBy_139 (by decide) ?_
        first
          | exact fin C _ _ (fun h => ⟨h, h130⟩)
          | (have hk := fin True (aL (cr BB r + mem (b + 1) (nxR r * 4 + i))) aU (fun h => absurd trivial h)
             rw [← bI_1] at hk
             exact hk)
      · refine v_iconst (q := 134) dX5_gatherBy_133 rfl ?_
        refine v_ist6 (q := 136) rfl dX5_gatherBy_134 (by decide) rfl ?_
        refine v_iinc7 (q := 139) rfl dX5_gatherBy_136 (by decide) rfl ?_
        refine v_goto (q := 74) dX5_gatherBy_139 (by decide) ?_
        first
          | exact fin C _ _ (fun h => ⟨h, h130⟩)
          | (have hk := fin True (aL (cr BB r + mem (b + 1) (nxR r * 4 + i))) aU (fun h => absurd trivial h)
             rw [← bI_1] at hk
             exact hk)
theorem c_X5_gatherBy (P : Int → Int → Prop) (b g : Nat) (hb : isSum b) (hg : isRow g) (mem : Mem) (y : Sy) (ex k : Int) (kk : Nat) (r : Rl) (hkk : (kk : Int) = k) (hr : y.2.2.2.2[kk]? = some r) (hex : k ≠ ex) (hk20 : k < 20) (ok : okS y) (okr : okR y.1 y.2.1 r) (h29 : mem 29 0 = y.1) (hpl : PLk mem k r) (hpr : PRok y.2.2.2.2 ex (mem (b + 1))) (hcl : ∀ i c j d, eG y.1 (mem (b + 1)) r i c j → c + d < NO → P j d → P i (c + d)) (hs : GSnd P (mem g)) : CtrI mX5_gatherBy [aR b, aI k, aR g] mem (rowQ P (eG y.1 (mem (b + 1))) g r mem) := by
  have hNO := NO_def
  obtain ⟨hg1, hg2⟩ := id hg
  obtain ⟨c1, c2, c3⟩ := rl_cases okr ok.2.1.2 ok.1.2
  have hS := ok.1
  have hG := ok.2.1
  obtain ⟨p32, p33, p34, p35, p36, p37⟩ := id hpl
  have p37 : mem 37 k = cr BB r := p37
  obtain ⟨q0, q1⟩ := okr.2.2.1
  have hn0 := nd_nn r.2.2.2.1
  have hn2 := okr.2.2.2.1.2
  have w3 := hs (hdR r) c1.1 c1.2
  refine Ctr.ofV (ls := [aR b, aI k, aR g, aU, aU, aU, aU, aU, aU, aU]) rfl (by decide) rfl (Nat.le_of_ble_eq_true rfl) ?_
  refine v_aload_n (j := 0) (q := 1) rfl dX5_gatherBy_0 rfl ?_
  refine v_getR (p' := 29) (q := 4) dX5_gatherBy_1 fl_X5_19 (sum1 hb) rfl (rfc_5_1 (sum1 hb)) rfl ?_
  refine v_getR (p' := 32) (q := 7) dX5_gatherBy_4 fl_X5_40 kd_29 rfl (rfc_2_4 kd_29) rfl ?_
  refine v_iload_n (j := 1) (q := 8) rfl dX5_gatherBy_7 rfl ?_
  refine v_iald (q := 9) dX5_gatherBy_8 kd_32 (by omega) (by omega) rfl ?_
  rw [p32]
  refine v_ist3 (q := 10) rfl dX5_gatherBy_9 (by decide) rfl ?_
  refine v_aload_n (j := 0) (q := 11) rfl dX5_gatherBy_10 rfl ?_
  refine v_getR (p' := 29) (q := 14) dX5_gatherBy_11 fl_X5_19 (sum1 hb) rfl (rfc_5_1 (sum1 hb)) rfl ?_
  refine v_getR (p' := 37) (q := 17) dX5_gatherBy_14 fl_X5_44 kd_29 rfl (rfc_2_9 kd_29) rfl ?_
  refine v_iload_n (j := 1) (q := 18) rfl dX5_gatherBy_17 rfl ?_
  refine v_lald (q := 19) dX5_gatherBy_18 kd_37 (by omega) (by omega) rfl ?_
  rw [p37]
  refine v_lst4 (q := 21) rfl dX5_gatherBy_19 (by decide) rfl ?_
  refine v_aload_n (j := 0) (q := 22) rfl dX5_gatherBy_21 rfl ?_
  refine v_getR (p' := 29) (q := 25) dX5_gatherBy_22 fl_X5_19 (sum1 hb) rfl (rfc_5_1 (sum1 hb)) rfl ?_
  refine v_getR (p' := 34) (q := 28) dX5_gatherBy_25 fl_X5_47 kd_29 rfl (rfc_2_6 kd_29) rfl ?_
  refine v_iload_n (j := 1) (q := 29) rfl dX5_gatherBy_28 rfl ?_
  refine v_iald (q := 30) dX5_gatherBy_29 kd_34 (by omega) (by omega) rfl ?_
  rw [p34]
  refine v_iconst (q := 31) dX5_gatherBy_30 rfl ?_
  refine v_icmp_ne (tgt := 54) (q := 34) dX5_gatherBy_31 (by decide) rfl (by omega) (by omega) (fun h31 => ?_) (fun h31 => ?_)
  · refine v_aload_n (j := 0) (q := 55) rfl dX5_gatherBy_54 rfl ?_
    refine v_getR (p' := 29) (q := 58) dX5_gatherBy_55 fl_X5_19 (sum1 hb) rfl (rfc_5_1 (sum1 hb)) rfl ?_
    refine v_getR (p' := 34) (q := 61) dX5_gatherBy_58 fl_X5_47 kd_29 rfl (rfc_2_6 kd_29) rfl ?_
    refine v_iload_n (j := 1) (q := 62) rfl dX5_gatherBy_61 rfl ?_
    refine v_iald (q := 63) dX5_gatherBy_62 kd_34 (by omega) (by omega) rfl ?_
    rw [p34]
    refine v_if_ne (tgt := 68) (q := 66) dX5_gatherBy_63 (by decide) rfl (by omega) (fun h63 => ?_) (fun h63 => ?_)
    · refine v_iconst (q := 69) dX5_gatherBy_68 rfl ?_
      refine v_ist6 (q := 71) rfl dX5_gatherBy_69 (by decide) rfl ?_
      refine v_iconst (q := 72) dX5_gatherBy_71 rfl ?_
      refine v_ist7 (q := 74) rfl dX5_gatherBy_72 (by decide) rfl ?_
      have hk := l_X5_gby P b g hb hg mem y ex k kk r hkk hr hex hk20 ok okr h29 hpl hpr hcl (by omega) y.1.toNat 0 (mem g) False aU aU (by omega) (by omega) hs (fun _ => Int.le_refl _) (fun _ _ => rfl) (fun m m0 m1 => by omega)
      rw [sm_id mem g (fun _ => rfl), ← bI_0] at hk
      exact hk
    · refine v_iconst (q := 67) dX5_gatherBy_66 rfl ?_
      refine v_zret (by first | exact Or.inl rfl | exact Or.inr rfl | exact bI_01 _ | omega) dX5_gatherBy_67 ?_
      exact ⟨_, rfl, mem g, False, (sm_id mem g (fun _ => rfl)).symm, bI_0.symm, fun _ _ => rfl, fun _ => Int.le_refl _, hs, fun i2 c j2 he hj => by rcases he with ⟨e1, -⟩ | ⟨e1, -⟩ <;> omega⟩
  · obtain ⟨z1, z2, z3, z4, z5⟩ := (c3.resolve_left (fun h => by have := h.1; omega)).resolve_right (fun h => by have := h.1; omega)
    have z6 : 0 ≤ nxR r ∧ nxR r < 20 := by omega
    have z7 := hs (nxR r) z6.1 z6.2
    refine v_aload_n (j := 2) (q := 35) rfl dX5_gatherBy_34 rfl ?_
    refine v_iload_n (j := 3) (q := 36) rfl dX5_gatherBy_35 rfl ?_
    refine v_lload (j := 4) (q := 38) rfl dX5_gatherBy_36 rfl ?_
    refine v_aload_n (j := 2) (q := 39) rfl dX5_gatherBy_38 rfl ?_
    refine v_aload_n (j := 0) (q := 40) rfl dX5_gatherBy_39 rfl ?_
    refine v_getR (p' := 29) (q := 43) dX5_gatherBy_40 fl_X5_19 (sum1 hb) rfl (rfc_5_1 (sum1 hb)) rfl ?_
    refine v_getR (p' := 35) (q := 46) dX5_gatherBy_43 fl_X5_57 kd_29 rfl (rfc_2_7 kd_29) rfl ?_
    refine v_iload_n (j := 1) (q := 47) rfl dX5_gatherBy_46 rfl ?_
    refine v_iald (q := 48) dX5_gatherBy_47 kd_35 (by omega) (by omega) rfl ?_
    rw [p35]
    refine v_lald (q := 49) dX5_gatherBy_48 hg1 (by omega) (by omega) rfl ?_
    refine v_ladd (q := 50) dX5_gatherBy_49 rfl ?_
    refine v_cSNI3 (q := 53) dX5_gatherBy_50 mlX5_53 mdX9_lower (by decide) ⟨Nat.le_refl 0, Nat.le_refl 0⟩ (by exact Nat.le_of_ble_eq_true rfl) rfl (c_X9_lower g 20 (hdR r) _ _ hg1 c1.1 c1.2 (by omega) (by omega)) ?_
    rw [lw_mem]
    rintro _ _ ⟨rfl, rfl⟩
    refine v_zret (by first | exact Or.inl rfl | exact Or.inr rfl | exact bI_01 _ | omega) dX5_gatherBy_53 ?_
    refine ⟨_, rfl, _, _, rfl, rfl, fun h i => by rw [lw_no h], lw_le _ _ _, hs.low c1 (by omega) (fun hlt => ?_), fun i2 c j2 he hj => ?_⟩
    · exact hcl _ _ _ _ (Or.inl ⟨z1, rfl, rfl, rfl⟩) (by omega) (z7.2.2 (by omega))
    · rcases he with ⟨e1, rfl, rfl, rfl⟩ | ⟨e1, -⟩
      · exact lw_at _ _ _
      · omega
