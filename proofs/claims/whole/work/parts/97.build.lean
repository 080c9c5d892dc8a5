/-! ===== Machine.build, StackLab.buildMachine ===== -/
def MO (m : Mem) (y : Sy) : Prop := TWr (m 84) ∧ tabOK y (m 84) ∧ rowOK y m ∧ LSi (m 84) m 4032 ∧ cP (fun i => m 84 i ≠ -6) 4032 ≤ 504 ∧ homeOK y (m 110)
theorem MO_c : MOc MO := fun m m1 y h h1 => by
  obtain ⟨a, b, c, d, e, f⟩ := h
  have e84 := h1 84 (by omega) (by omega)
  unfold MO
  rw [e84, h1 110 (by omega) (by omega)]
  refine ⟨a, b, fun e he x h0 h9 => ?_, ?_, e, f⟩
  · rw [h1 (86 + e) (by omega) (by omega)]
    exact c e he x h0 h9
  · unfold LSi
    rw [h1 83 (by omega) (by omega), h1 113 (by omega) (by omega), h1 114 (by omega) (by omega), h1 115 (by omega) (by omega)]
    exact d
theorem sumO_0 {f : Int → Int} {n : Nat} (h : ∀ i : Int, 0 ≤ i → i < n → f i = 0) : ∀ k : Nat, k ≤ n → sumO f k = 0
  | 0, _ => rfl
  | k + 1, hk => by
    unfold sumO
    rw [sumO_0 h k (by omega), h k (by omega) (by omega)]
    rfl
def blQ (y : Sy) (mem m : Mem) : Prop := (∀ p, p < 83 ∨ 115 < p → m p = mem p) ∧ m 83 0 = 1 ∧ MO m y
theorem l_X1_queue (y : Sy) (ok : okS y) (mem : Mem) :
    ∀ (n : Nat) (k : Int) (M : Mem), k + n = 20 → 0 ≤ k → k ≤ M 83 9 → (∀ p, p < 83 ∨ 115 < p → M p = mem p) → BI y M (fun x => (20 ≤ x ∧ x < 20 + ((dgs y.2.2.2.1).length : Int)) ∨ ((0 ≤ x ∧ x < 20) ∧ ∃ j, 0 ≤ j ∧ j < k ∧ M 112 j = x)) →
    V cX1_build RX1 2 none (rmk 5 121) (mE (fun r m => r = aU ∧ blQ y mem m)) 75 [aR 83, aI k] [] M := by
  have hend : ∀ (k : Int) (M : Mem), k = M 83 9 → (∀ p, p < 83 ∨ 115 < p → M p = mem p) → BI y M (fun x => (20 ≤ x ∧ x < 20 + ((dgs y.2.2.2.1).length : Int)) ∨ ((0 ≤ x ∧ x < 20) ∧ ∃ j, 0 ≤ j ∧ j < k ∧ M 112 j = x)) → V cX1_build RX1 2 none (rmk 5 121) (mE (fun r m => r = aU ∧ blQ y mem m)) 105 [aR 83, aI k] [] M := fun k M hk hf hb => by
    have hb2 : BI y M (DnF y M) := by
      rw [show (fun x => (20 ≤ x ∧ x < 20 + ((dgs y.2.2.2.1).length : Int)) ∨ ((0 ≤ x ∧ x < 20) ∧ ∃ j, 0 ≤ j ∧ j < k ∧ M 112 j = x)) = DnF y M from funext (fun x => propext ⟨fun h => h.imp id (fun ⟨h1, j, j0, j1, j2⟩ => ⟨h1, by have := (hb.2.1.2.2.1 j j0 (by omega)).2; rw [j2] at this; exact this⟩), fun h => h.imp id (fun ⟨h1, h2⟩ => ⟨h1, by obtain ⟨j, j0, j1, j2⟩ := hb.2.1.2.2.2.1 x h1.1 h1.2 h2; exact ⟨j, j0, by omega, j2⟩⟩)⟩)] at hb
      exact hb
    have tk := hb2.tabOK ok
    have rk := hb2.rowOK ok
    have cp := hb2.cap ok
    refine v_aload_n (j := 0) (q := 106) rfl dX1_build_105 rfl ?_
    refine v_cVV0 (q := 109) dX1_build_106 mlX1_77 mdX1_listArcs (by decide) kd_83 rfl rfl ⟨Nat.le_refl 0, Nat.le_refl 0⟩ (by exact Nat.le_of_ble_eq_true rfl) rfl (c_X1_listArcs M hb2.1 cp) ?_
    rintro m1 ⟨g1, g2⟩
    have e84 : m1 84 = M 84 := g1.1 84 (by omega)
    have pl1 : PL m1 y := hb2.2.2.1.1.congr (fun p h1 h2 => g1.1 p (by omega))
    refine v_aload_n (j := 0) (q := 110) rfl dX1_build_109 rfl ?_
    refine v_cVV0 (q := 113) dX1_build_110 mlX1_80 mdX1_findWaysHome (by decide) kd_83 rfl rfl ⟨Nat.le_refl 0, Nat.le_refl 0⟩ (by exact Nat.le_of_ble_eq_true rfl) rfl (c_X1_findWaysHome y ok m1 pl1 (by rw [e84]; exact hb2.1) (by rw [e84]; exact tk) (by rw [e84]; exact g2) (by rw [e84]; exact cp)) ?_
    rintro m2 ⟨v, rfl, hv⟩
    refine v_aload_n (j := 0) (q := 114) rfl dX1_build_113 rfl ?_
    refine v_iconst (q := 115) dX1_build_114 rfl ?_
    refine v_putZ (j := 0) (q := 118) (by first | exact Or.inl rfl | exact Or.inr rfl | exact bI_01 _ | omega) dX1_build_115 fl_X1_9 kd_83 rfl rfl rfl ?_
    refine v_vret dX1_build_118 ?_
    obtain ⟨M9, hM9⟩ : ∃ M9, M9 = um (sm m1 110 v) 83 0 1 := ⟨_, rfl⟩
    rw [← hM9]
    have o : ∀ p, p ≠ 83 → p ≠ 110 → M9 p = m1 p := fun p h1 h2 => by rw [hM9, um_ne _ _ _ h1, sm_ne _ _ h2]
    refine ⟨rfl, fun p hp => by rw [o p (by omega) (by omega), g1.1 p (by omega)]; exact hf p hp, by rw [hM9, um_same, ui_same], ?_⟩
    have f84 : M9 84 = M 84 := by rw [o 84 (by decide) (by decide), e84]
    unfold MO
    rw [f84]
    refine ⟨hb2.1, tk, fun e he x h0 h1 => ?_, ?_, cp, ?_⟩
    · rw [o (86 + e) (by omega) (by omega), g1.1 (86 + e) (by omega)]
      exact rk e he x h0 h1
    · unfold LSi
      rw [o 113 (by decide) (by decide), o 114 (by decide) (by decide), o 115 (by decide) (by decide), show M9 83 1 = m1 83 1 by rw [hM9, um_same, ui_ne _ _ (by omega), sm_ne _ _ (by decide)]]
      exact g2
    · rw [show M9 110 = v by rw [hM9, um_ne _ _ _ (by decide), sm_same]]
      exact hv
  intro n
  induction n with
  | zero =>
    intro k M h1 h2 h3 h4 h5
    have r := h5.2.1.rng
    refine v_iload_n (j := 1) (q := 76) rfl dX1_build_75 rfl ?_
    refine v_aload_n (j := 0) (q := 77) rfl dX1_build_76 rfl ?_
    refine v_getI (j := 9) (q := 80) dX1_build_77 fl_X1_39 kd_83 rfl rfl rfl ?_
    refine v_icmp_ge (tgt := 105) (q := 83) dX1_build_80 (by decide) rfl (by omega) (by omega) (fun h80 => ?_) (fun h80 => ?_)
    · exact hend k M (by omega) h4 h5
    · exact absurd h80 (by omega)
  | succ n ih =>
    intro k M h1 h2 h3 h4 h5
    have r := h5.2.1.rng
    refine v_iload_n (j := 1) (q := 76) rfl dX1_build_75 rfl ?_
    refine v_aload_n (j := 0) (q := 77) rfl dX1_build_76 rfl ?_
    refine v_getI (j := 9) (q := 80) dX1_build_77 fl_X1_39 kd_83 rfl rfl rfl ?_
    refine v_icmp_ge (tgt := 105) (q := 83) dX1_build_80 (by decide) rfl (by omega) (by omega) (fun h80 => ?_) (fun h80 => ?_)
    · first | exact hend k M (by omega) h4 h5 | (exfalso; omega)
    · refine v_iload_n (j := 1) (q := 84) rfl dX1_build_83 rfl ?_
      refine v_bipush (q := 86) (by decide) dX1_build_84 rfl ?_
      refine v_icmp_ge (tgt := 105) (q := 89) dX1_build_86 (by decide) rfl (by omega) (by omega) (fun h86 => ?_) (fun h86 => ?_)
      · first | exact hend k M (by omega) h4 h5 | (exfalso; omega)
      · obtain ⟨e, he⟩ : ∃ e : Nat, (e : Int) = M 112 k := ⟨(M 112 k).toNat, by have := (h5.2.1.2.2.1 k h2 (by omega)).1; omega⟩
        have oq := h5.2.1.2.2.1 k h2 (by omega)
        rw [← he] at oq
        have hn : ¬ ((20 ≤ (e : Int) ∧ (e : Int) < 20 + ((dgs y.2.2.2.1).length : Int)) ∨ ((0 ≤ (e : Int) ∧ (e : Int) < 20) ∧ ∃ j, 0 ≤ j ∧ j < k ∧ M 112 j = e)) := (fun h => h.elim (fun h => by omega) (fun ⟨_, j, j0, j1, j2⟩ => h5.2.1.2.2.2.2 j k j0 j1 (by omega) (by rw [j2, he])))
        refine v_aload_n (j := 0) (q := 90) rfl dX1_build_89 rfl ?_
        refine v_aload_n (j := 0) (q := 91) rfl dX1_build_90 rfl ?_
        refine v_getR (p' := 112) (q := 94) dX1_build_91 fl_X1_36 kd_83 rfl (rfc_1_8 kd_83) rfl ?_
        refine v_iload_n (j := 1) (q := 95) rfl dX1_build_94 rfl ?_
        refine v_iald (q := 96) dX1_build_95 kd_112 (by omega) (by omega) rfl ?_
        rw [← he]
        refine v_cVV1 (q := 99) dX1_build_96 mlX1_73 mdX1_readFromHead (by decide) kd_83 rfl rfl ⟨Nat.le_refl 0, Nat.le_refl 0⟩ (by exact Nat.le_of_ble_eq_true rfl) rfl (c_X1_readFromHead y ok e (by omega) M _ h5 hn oq.2) ?_
        rintro m1 ⟨g1, g2, g3⟩
        refine v_iinc1 (q := 102) rfl dX1_build_99 (by decide) rfl ?_
        refine v_goto (q := 75) dX1_build_102 (by decide) ?_
        refine ih (k + 1) m1 (by omega) (by omega) (by have := g3.2.1; omega) (fun p hp => by rw [g2.1 p (by omega)]; exact h4 p hp) ?_
        have old : ∀ j, 0 ≤ j → j ≤ k → m1 112 j = M 112 j := fun j j0 j1 => g3.2.2.1 j j0 (by omega)
        rw [show (fun x => ((20 ≤ x ∧ x < 20 + ((dgs y.2.2.2.1).length : Int)) ∨ ((0 ≤ x ∧ x < 20) ∧ ∃ j, 0 ≤ j ∧ j < k ∧ M 112 j = x)) ∨ x = (e : Int)) = (fun x => (20 ≤ x ∧ x < 20 + ((dgs y.2.2.2.1).length : Int)) ∨ ((0 ≤ x ∧ x < 20) ∧ ∃ j, 0 ≤ j ∧ j < k + 1 ∧ m1 112 j = x)) from funext (fun x => propext ⟨?_, ?_⟩)] at g1
        · exact g1
        · rintro ((h | ⟨h, j, j0, j1, j2⟩) | h)
          · exact Or.inl h
          · exact Or.inr ⟨h, j, j0, by omega, by rw [old j j0 (by omega)]; exact j2⟩
          · exact Or.inr ⟨by rw [h]; exact oq.1, k, h2, by omega, by rw [old k h2 (by omega), ← he, h]⟩
        · rintro (h | ⟨h, j, j0, j1, j2⟩)
          · exact Or.inl (Or.inl h)
          · rw [old j j0 (by omega)] at j2
            by_cases ej : j = k
            · exact Or.inr (by rw [← j2, ej, he])
            · exact Or.inl (Or.inr ⟨h, j, j0, by omega, j2⟩)
theorem l_X1_openclr {Post : AV → Mem → Prop} (mem : Mem) (K : ∀ v, (∀ h, 0 ≤ h → h < 20 → v h = 0) → V cX1_build RX1 2 none (rmk 5 121) (mE Post) 64 [aR 83, aI 20] [] (sm mem 111 v)) :
    ∀ (n : Nat) (k : Int) (v : Int → Int), k + n = 20 → 0 ≤ k → (∀ h, 0 ≤ h → h < k → v h = 0) → V cX1_build RX1 2 none (rmk 5 121) (mE Post) 45 [aR 83, aI k] [] (sm mem 111 v) := by
  intro n
  induction n with
  | zero =>
    intro k v h1 h2 h3
    have hk : k = 20 := by omega
    subst hk
    refine v_iload_n (j := 1) (q := 46) rfl dX1_build_45 rfl ?_
    refine v_bipush (q := 48) (by decide) dX1_build_46 rfl ?_
    refine v_icmp_ge (tgt := 64) (q := 51) dX1_build_48 (by decide) rfl (by omega) (by omega) (fun h48 => ?_) (fun h48 => ?_)
    · exact K v h3
    · exact absurd h48 (by omega)
  | succ n ih =>
    intro k v h1 h2 h3
    have em : um (sm mem 111 v) 111 k 0 = sm mem 111 (ui v k 0) := eq_sm (fun p hp => by rw [um_ne _ _ _ hp, sm_ne _ _ hp]) (fun i => by rw [um_same, sm_same])
    refine v_iload_n (j := 1) (q := 46) rfl dX1_build_45 rfl ?_
    refine v_bipush (q := 48) (by decide) dX1_build_46 rfl ?_
    refine v_icmp_ge (tgt := 64) (q := 51) dX1_build_48 (by decide) rfl (by omega) (by omega) (fun h48 => ?_) (fun h48 => ?_)
    · exact absurd h48 (by omega)
    · refine v_aload_n (j := 0) (q := 52) rfl dX1_build_51 rfl ?_
      refine v_getR (p' := 111) (q := 55) dX1_build_52 fl_X1_32 kd_83 rfl (rfc_1_7 kd_83) rfl ?_
      refine v_iload_n (j := 1) (q := 56) rfl dX1_build_55 rfl ?_
      refine v_iconst (q := 57) dX1_build_56 rfl ?_
      refine v_zast (q := 58) (by first | exact Or.inl rfl | exact Or.inr rfl | exact bI_01 _ | omega) dX1_build_57 kd_111 (by omega) (by omega) rfl ?_
      refine v_iinc1 (q := 61) rfl dX1_build_58 (by decide) rfl ?_
      refine v_goto (q := 45) dX1_build_61 (by decide) ?_
      rw [em]
      refine ih (k + 1) _ (by omega) (by omega) (fun h h0 h9 => ?_)
      by_cases e : h = k
      · rw [e, ui_same]
      · rw [ui_ne _ _ e]; exact h3 h h0 (by omega)
theorem l_X1_rowfill {Post : AV → Mem → Prop} (mem : Mem) (K : ∀ M, (∀ p, p < 86 ∨ 109 < p → M p = mem p) → (∀ e : Nat, e < 24 → ∀ h, 0 ≤ h → h < 20 → M (86 + e) h = NO) → V cX1_build RX1 2 none (rmk 5 121) (mE Post) 43 [aR 83, aI 24] [] M) :
    ∀ (n k : Nat) (M : Mem), k + n = 24 → (∀ p, p < 86 ∨ 109 < p → M p = mem p) → (∀ e : Nat, e < k → ∀ h, 0 ≤ h → h < 20 → M (86 + e) h = NO) → V cX1_build RX1 2 none (rmk 5 121) (mE Post) 19 [aR 83, aI (k : Int)] [] M := by
  intro n
  induction n with
  | zero =>
    intro k M h1 h2 h3
    have hk : k = 24 := by omega
    subst hk
    refine v_iload_n (j := 1) (q := 20) rfl dX1_build_19 rfl ?_
    refine v_bipush (q := 22) (by decide) dX1_build_20 rfl ?_
    refine v_icmp_ge (tgt := 43) (q := 25) dX1_build_22 (by decide) rfl (by omega) (by omega) (fun h22 => ?_) (fun h22 => ?_)
    · exact K M h2 h3
    · exact absurd h22 (by omega)
  | succ n ih =>
    intro k M h1 h2 h3
    have hg := rowE (e := k) (by omega)
    refine v_iload_n (j := 1) (q := 20) rfl dX1_build_19 rfl ?_
    refine v_bipush (q := 22) (by decide) dX1_build_20 rfl ?_
    refine v_icmp_ge (tgt := 43) (q := 25) dX1_build_22 (by decide) rfl (by omega) (by omega) (fun h22 => ?_) (fun h22 => ?_)
    · exact absurd h22 (by omega)
    · refine v_aload_n (j := 0) (q := 26) rfl dX1_build_25 rfl ?_
      refine v_getR (p' := 85) (q := 29) dX1_build_26 fl_X1_25 kd_83 rfl (rfc_1_5 kd_83) rfl ?_
      refine v_iload_n (j := 1) (q := 30) rfl dX1_build_29 rfl ?_
      refine v_aaldL (q := 31) dX1_build_30 kd_85 (by omega) (by omega) rfl ?_
      refine v_ldc2 (n := 16777232777216) (q := 34) klX1_65 rfl dX1_build_31 rfl ?_
      refine v_cSV2 (q := 37) dX1_build_34 mlX1_67 mdJ7_fill_d0a16 (by decide) ⟨Nat.le_refl 0, Nat.le_refl 0⟩ (by exact Nat.le_of_ble_eq_true rfl) rfl (c_J7_fill_d0a16 (86 + k) 20 16777232777216 M hg) ?_
      rintro _ rfl
      refine v_iinc1 (q := 40) rfl dX1_build_37 (by decide) rfl ?_
      refine v_goto (q := 19) dX1_build_40 (by decide) ?_
      refine ih (k + 1) _ (by omega) (fun p hp => ?_) (fun e he h h0 h9 => ?_)
      · unfold flm
        rw [if_neg (by omega)]
        exact h2 p hp
      · by_cases g : e = k
        · subst g
          rw [flm_at, if_pos ⟨h0, h9⟩]
          rfl
        · unfold flm
          rw [if_neg (by omega)]
          exact h3 e (by omega) h h0 h9
theorem c_X1_build (y : Sy) (ok : okS y) (mem : Mem) (hpn : PLN mem y) (hb : mem 83 0 = 0 ∨ (mem 83 0 = 1 ∧ MO mem y)) : CtrV mX1_build [aR 83] mem (blQ y mem) := by
  have h01 : mem 83 0 = 0 ∨ mem 83 0 = 1 := hb.elim Or.inl (fun h => Or.inr h.1)
  obtain ⟨F, hF⟩ : ∃ F, F = flm mem 84 0 ((4032 : Nat) : Int) (-6) := ⟨_, rfl⟩
  have fo : ∀ p, p ≠ 84 → F p = mem p := fun p hp => by rw [hF]; unfold flm; rw [if_neg hp]
  have f84 : ∀ i, 0 ≤ i → i < 4032 → F 84 i = -6 := fun i h0 h1 => by rw [hF, flm_at, if_pos ⟨h0, by omega⟩]
  refine Ctr.ofV (ls := [aR 83, aU]) rfl (by decide) rfl (Nat.le_of_ble_eq_true rfl) ?_
  refine v_aload_n (j := 0) (q := 1) rfl dX1_build_0 rfl ?_
  refine v_getI (j := 0) (q := 4) dX1_build_1 fl_X1_9 kd_83 rfl rfl rfl ?_
  refine v_if_eq (tgt := 8) (q := 7) dX1_build_4 (by decide) rfl (by omega) (fun h4 => ?_) (fun h4 => ?_)
  · refine v_aload_n (j := 0) (q := 9) rfl dX1_build_8 rfl ?_
    refine v_getR (p' := 84) (q := 12) dX1_build_9 fl_X1_19 kd_83 rfl (rfc_1_4 kd_83) rfl ?_
    refine v_bipush (q := 14) (by decide) dX1_build_12 rfl ?_
    refine v_cSV2 (q := 17) dX1_build_14 mlX1_59 mdJ7_fill_53178 (by decide) ⟨Nat.le_refl 0, Nat.le_refl 0⟩ (by exact Nat.le_of_ble_eq_true rfl) rfl (c_J7_fill_53178 84 4032 (-6) mem kd_84) ?_
    rintro _ rfl
    rw [← hF]
    refine v_iconst (q := 18) dX1_build_17 rfl ?_
    refine v_ist1 (q := 19) rfl dX1_build_18 (by decide) rfl ?_
    refine l_X1_rowfill (Post := (fun r m => r = aU ∧ blQ y mem m)) F (fun M g1 g2 => ?_) 24 0 F (by omega) (fun _ _ => rfl) (fun e he => absurd he (by omega))
    refine v_iconst (q := 44) dX1_build_43 rfl ?_
    refine v_ist1 (q := 45) rfl dX1_build_44 (by decide) rfl ?_
    have hk := l_X1_openclr (Post := (fun r m => r = aU ∧ blQ y mem m)) M (fun v hv => ?_) 20 0 (M 111) (by omega) (by omega) (fun h h0 h1 => by omega)
    · rw [sm_id M 111 (fun _ => rfl)] at hk
      exact hk
    · obtain ⟨Z, hZ⟩ : ∃ Z, Z = um (sm M 111 v) 83 9 0 := ⟨_, rfl⟩
      have zo : ∀ p, p ≠ 83 → p ≠ 111 → Z p = M p := fun p h1 h2 => by rw [hZ, um_ne _ _ _ h1, sm_ne _ _ h2]
      have z111 : ∀ h, 0 ≤ h → h < 20 → Z 111 h = 0 := fun h h0 h1 => by rw [hZ, um_ne _ _ _ (by decide), sm_same]; exact hv h h0 h1
      have z9 : Z 83 9 = 0 := by rw [hZ, um_same, ui_same]
      have z84 : ∀ i, 0 ≤ i → i < 4032 → Z 84 i = -6 := fun i h0 h1 => by rw [zo 84 (by decide) (by decide), g1 84 (by omega)]; exact f84 i h0 h1
      have zf : ∀ p, p < 83 ∨ 115 < p → Z p = mem p := fun p hp => by rw [zo p (by omega) (by omega), g1 p (by omega), fo p (by omega)]
      have bi : BI y Z (fun _ => False) := by
        refine ⟨fun i h0 h1 => Or.inl (z84 i h0 h1), ⟨?_, fun h h0 h1 => Or.inl (z111 h h0 h1), fun j j0 j1 => by omega, fun h h0 h1 h9 => by have := z111 h h0 h1; omega, fun i j i0 ij j1 => by omega⟩, hpn.congr (fun p h1 h2 => zf p (by omega)), fun e _ h => h.elim, fun e he _ => ⟨fun h h0 h1 => ?_, fun f l hf => ?_⟩, fun h h0 h1 h9 => by have := z111 h h0 h1; omega, fun e _ _ h => h.elim⟩
        · rw [z9, sumO_0 (n := 20) (f := Z 111) (fun i h0 h1 => z111 i h0 (by omega)) 20 (Nat.le_refl _)]
        · rw [zo (86 + e) (by omega) (by omega)]
          exact g2 e he h h0 h1
        · exact z84 _ (wx_rng hf.1 hf.2 (by omega)).1 (wx_rng hf.1 hf.2 (by omega)).2
      refine v_aload_n (j := 0) (q := 65) rfl dX1_build_64 rfl ?_
      refine v_iconst (q := 66) dX1_build_65 rfl ?_
      refine v_putI (j := 9) (q := 69) dX1_build_66 fl_X1_39 kd_83 rfl rfl rfl ?_
      rw [← hZ]
      refine v_aload_n (j := 0) (q := 70) rfl dX1_build_69 rfl ?_
      refine v_cVV0 (q := 73) dX1_build_70 mlX1_70 mdX1_readStartStack (by decide) kd_83 rfl rfl ⟨Nat.le_refl 0, Nat.le_refl 0⟩ (by exact Nat.le_of_ble_eq_true rfl) rfl (c_X1_readStartStack y ok Z bi) ?_
      rintro m1 ⟨r1, r2⟩
      refine v_iconst (q := 74) dX1_build_73 rfl ?_
      refine v_ist1 (q := 75) rfl dX1_build_74 (by decide) rfl ?_
      refine l_X1_queue y ok mem 20 0 m1 (by omega) (by omega) r2.2.1.rng.1 (fun p hp => by rw [r1.1 p (by omega)]; exact zf p hp) ?_
      rw [show (fun x => (20 ≤ x ∧ x < 20 + ((dgs y.2.2.2.1).length : Int)) ∨ ((0 ≤ x ∧ x < 20) ∧ ∃ j, 0 ≤ j ∧ j < 0 ∧ m1 112 j = x)) = (fun x => 20 ≤ x ∧ x < 20 + ((dgs y.2.2.2.1).length : Int)) from funext (fun x => propext ⟨fun h => h.resolve_right (fun ⟨_, j, j0, j1, _⟩ => by omega), Or.inl⟩)]
      exact r2
  · refine v_vret dX1_build_7 ?_
    exact ⟨rfl, fun _ _ => rfl, by omega, (hb.resolve_left (by omega)).2⟩
theorem c_X9_buildMachine (mem : Mem) (y : Sy) (hy : SR mem 1 y) (hc : CA MO mem y) : CtrV mX9_buildMachine [aR 0] mem (fun m => (∀ p, p ≠ 0 → (p < 29 ∨ (39 < p ∧ p < 83) ∨ 115 < p) → m p = mem p) ∧ CA MO m y ∧ MO m y) := by
  have ok := hy.2.2.1
  refine Ctr.ofV (ls := [aR 0]) rfl (by decide) rfl (Nat.le_of_ble_eq_true rfl) ?_
  refine v_aload_n (j := 0) (q := 1) rfl dX9_buildMachine_0 rfl ?_
  refine v_cVV0 (q := 4) dX9_buildMachine_1 mlX9_211 mdX9_makePlan (by decide) kd_0 rfl rfl ⟨Nat.le_refl 0, Nat.le_refl 0⟩ (by exact Nat.le_of_ble_eq_true rfl) rfl (c_X9_makePlan mem y hy hc) ?_
  rintro m1 ⟨o1, p1, c1, pl⟩
  refine v_aload_n (j := 0) (q := 5) rfl dX9_buildMachine_4 rfl ?_
  refine v_getR (p' := 83) (q := 8) dX9_buildMachine_5 fl_X9_89 kd_0 rfl (rfc_9_13 kd_0) rfl ?_
  refine v_cVV0 (q := 11) dX9_buildMachine_8 mlX9_274 mdX1_build (by decide) kd_83 rfl rfl ⟨Nat.le_refl 0, Nat.le_refl 0⟩ (by exact Nat.le_of_ble_eq_true rfl) rfl (c_X1_build y ok m1 pl (c1.2.2.1.imp id (fun h => ⟨h.1, h.2.2⟩))) ?_
  rintro m2 ⟨g1, g2, g3⟩
  refine v_vret dX9_buildMachine_11 ?_
  refine ⟨rfl, fun p h1 h2 => by rw [g1 p (by omega)]; exact o1 p h1 (by omega), ?_, g3⟩
  obtain ⟨a, b, c, d, e, f, g⟩ := c1
  refine ⟨by rw [g1 0 (by omega)]; exact Or.inr ⟨p1, pl.congr (fun p h1 h2 => g1 p (by omega))⟩, ?_, by rw [g1 0 (by omega)]; exact Or.inr ⟨g2, p1, g3⟩, by rw [g1 42 (by omega)]; exact d, by rw [g1 54 (by omega)]; exact e, by rw [g1 66 (by omega)]; exact f, g.congr (g1 27 (by omega)) (g1 28 (by omega))⟩
  rw [g1 42 (by omega), g1 0 (by omega)]
  exact b.elim Or.inl (fun ⟨x1, x2, q, t, x3⟩ => Or.inr ⟨x1, x2, q, t, x3.congr (fun p _ => g1 p (by omega)) (fun p _ _ => g1 p (by omega))⟩)
