/-! ===== the reference: start, costTo, distanceTo, priceOf ===== -/
theorem SM.RFs {m : Mem} {y : Sy} (h : SM (m 117) 0 y) : RFs m y := by
  have f := h.facts
  refine ⟨f.2.2.2.2.2.2.2.2.2.2.2.symm, fun k r hr => ?_⟩
  have hk : k < y.2.2.2.2.length := (List.getElem?_eq_some_iff.mp hr).1
  have f2 := f.2.2.2.2.2.2.2.2.2.2.2
  rw [f.2.2.2.2.2.2.2.2.2.2.1, rls_at (m 117) 5 (n := (m 117 2).toNat) (k := k) (by omega)] at hr
  have hr := Option.some.inj hr
  subst hr
  exact ⟨by rw [Int.add_zero]; rfl, rfl, rfl, rfl, rfl⟩
/-- the lowest row of costs below -/
theorem BL0 {y : Sy} {ex q : Int} {t : List Int} (hq : 0 ≤ q ∧ q < y.1) (hS : y.1 ≤ 4) (s : Int) : TMn EN (BL y ex q t [] s) (if s = nodW q t.length then 0 else EN) := by
  have hEN := EN_def
  have key : ∀ c, BL y ex q t [] s c → s = nodW q t.length ∧ c = 0 := fun c h => by
    unfold nodW
    rcases h with ⟨h1, h2⟩ | ⟨h1, h2, h3, h4⟩
    · obtain ⟨e1, e2, e3⟩ := h2.empty
      subst e3
      exact ⟨e2, e1⟩
    · have := congrArg List.length h3
      rw [List.length_drop, List.length_nil] at this
      exact ⟨by rw [if_neg (by omega)]; omega, h4⟩
  by_cases e : s = nodW q t.length
  · rw [if_pos e]
    refine ⟨by omega, fun _ => ?_, fun c hc _ => by have := (key c hc).2; omega⟩
    unfold nodW at e
    by_cases e2 : t.length = 0
    · rw [if_pos e2] at e
      refine Or.inl ⟨by omega, ?_⟩
      rw [List.length_eq_zero_iff.mp e2, e]
      exact RC.refl _ _
    · rw [if_neg e2] at e
      refine Or.inr ⟨by omega, by omega, ?_, rfl⟩
      rw [e, show ((4 : Int) + (t.length : Nat) - 4).toNat = t.length by omega, List.drop_length]
  · rw [if_neg e]
    exact ⟨Int.le_refl _, fun h => absurd h (Int.lt_irrefl _), fun c hc _ => absurd (key c hc).1 e⟩
theorem BL.RC {y : Sy} {ex q : Int} {t sl : List Int} {f z : Int} (hf : f < y.1) (hS : y.1 ≤ 4) (h : TMn EN (BL y ex q t sl f) z) : TMn EN (RC BR y.2.2.2.2 ex f sl q t) z :=
  ⟨h.1, fun hl => ((h.2.1 hl).resolve_right (fun g => by have := g.1; omega)).2, fun c hc hl => h.2.2 c (Or.inl ⟨hf, hc⟩) hl⟩
theorem l_X10_start0 {Post : AV → Mem → Prop} (mem : Mem) (nd0 : Int) (h7 : mem 116 7 = nd0) (hn : R32 nd0) (K : ∀ v, (∀ s, 0 ≤ s → s < 11 → v s = if s = nd0 then 0 else EN) → V cX10_start RX10 2 (some .long) (rmk 3 74) (mE Post) 35 [aR 116, aI 11] [] (sm mem 122 v)) :
    ∀ (j : Nat) (k : Int) (v : Int → Int), k + j = 11 → 0 ≤ k → (∀ s, 0 ≤ s → s < k → v s = if s = nd0 then 0 else EN) → V cX10_start RX10 2 (some .long) (rmk 3 74) (mE Post) 2 [aR 116, aI k] [] (sm mem 122 v) := by
  intro j
  induction j with
  | zero =>
    intro k v h1 h2 h3
    have hk : k = 11 := by omega
    subst hk
    refine v_iload_n (j := 1) (q := 3) rfl dX10_start_2 rfl ?_
    refine v_bipush (q := 5) (by decide) dX10_start_3 rfl ?_
    refine v_icmp_ge (tgt := 35) (q := 8) dX10_start_5 (by decide) rfl (by omega) (by omega) (fun h5 => ?_) (fun h5 => ?_)
    · exact K v h3
    · exact absurd h5 (by omega)
  | succ j ih =>
    intro k v h1 h2 h3
    have e7 : sm mem 122 v 116 7 = nd0 := by rw [sm_ne _ _ (by decide)]; exact h7
    have em : ∀ c, um (sm mem 122 v) 122 k c = sm mem 122 (ui v k c) := fun c => eq_sm (fun p hp => by rw [um_ne _ _ _ hp, sm_ne _ _ hp]) (fun i => by rw [um_same, sm_same])
    have fin : ∀ c, (c = if k = nd0 then 0 else EN) → V cX10_start RX10 2 (some .long) (rmk 3 74) (mE Post) 2 [aR 116, aI (k + 1)] [] (sm mem 122 (ui v k c)) := fun c hc => by
      refine ih (k + 1) _ (by omega) (by omega) (fun i i0 i1 => ?_)
      by_cases e : i = k
      · rw [e, ui_same]; exact hc
      · rw [ui_ne _ _ e]; exact h3 i i0 (by omega)
    refine v_iload_n (j := 1) (q := 3) rfl dX10_start_2 rfl ?_
    refine v_bipush (q := 5) (by decide) dX10_start_3 rfl ?_
    refine v_icmp_ge (tgt := 35) (q := 8) dX10_start_5 (by decide) rfl (by omega) (by omega) (fun h5 => ?_) (fun h5 => ?_)
    · exact absurd h5 (by omega)
    · refine v_aload_n (j := 0) (q := 9) rfl dX10_start_8 rfl ?_
      refine v_getR (p' := 122) (q := 12) dX10_start_9 fl_X10_26 kd_116 rfl (rfc_10_10 kd_116) rfl ?_
      refine v_iload_n (j := 1) (q := 13) rfl dX10_start_12 rfl ?_
      refine v_iload_n (j := 1) (q := 14) rfl dX10_start_13 rfl ?_
      refine v_aload_n (j := 0) (q := 15) rfl dX10_start_14 rfl ?_
      refine v_getI (j := 7) (q := 18) dX10_start_15 fl_X10_111 kd_116 rfl rfl rfl ?_
      rw [e7]
      refine v_icmp_ne (tgt := 25) (q := 21) dX10_start_18 (by decide) rfl (by omega) (by omega) (fun h18 => ?_) (fun h18 => ?_)
      · refine v_ldc2 (n := 4000000000000000000) (q := 28) klX10_91 rfl dX10_start_25 rfl ?_
        refine v_last (q := 29) dX10_start_28 kd_122 (by omega) (by omega) rfl ?_
        refine v_iinc1 (q := 32) rfl dX10_start_29 (by decide) rfl ?_
        refine v_goto (q := 2) dX10_start_32 (by decide) ?_
        rw [em]
        first
          | exact fin _ (by rw [if_pos h18])
          | exact fin _ (by rw [if_neg h18]; rfl)
      · refine v_lconst0 (q := 22) dX10_start_21 rfl ?_
        refine v_goto (q := 28) dX10_start_22 (by decide) ?_
        refine v_last (q := 29) dX10_start_28 kd_122 (by omega) (by omega) rfl ?_
        refine v_iinc1 (q := 32) rfl dX10_start_29 (by decide) rfl ?_
        refine v_goto (q := 2) dX10_start_32 (by decide) ?_
        rw [em]
        first
          | exact fin _ (by rw [if_pos h18])
          | exact fin _ (by rw [if_neg h18]; rfl)
/-- what the questions of the reference leave alone -/
def frR (mem m : Mem) : Prop := (∀ p, p < 120 ∨ 122 < p → p ≠ 116 → m p = mem p) ∧ ∀ j, j ≠ 7 → j ≠ 8 → j ≠ 11 → m 116 j = mem 116 j
theorem frR.refl (m : Mem) : frR m m := ⟨fun _ _ _ => rfl, fun _ _ _ _ => rfl⟩
theorem frR.trans {a b c : Mem} (h : frR a b) (h2 : frR b c) : frR a c := ⟨fun p h3 h4 => by rw [h2.1 p h3 h4, h.1 p h3 h4], fun j h3 h4 h5 => by rw [h2.2 j h3 h4 h5, h.2 j h3 h4 h5]⟩
theorem frP.R {a b : Mem} (h : frP a b) : frR a b := ⟨fun p h1 h2 => h.1 p h2 (by omega) (by omega), fun j _ _ h5 => h.2 j h5⟩
theorem aimM_frR (mem : Mem) (q ex : Int) (n : Nat) (v : Int → Int) : frR mem (aimM mem q ex n v) := by
  unfold aimM
  refine ⟨fun p h1 h2 => by rw [sm_ne _ _ (by omega), um_ne _ _ _ h2, um_ne _ _ _ h2], fun j h1 h2 h3 => ?_⟩
  rw [sm_ne _ _ (by decide), um_same, ui_ne _ _ h2, um_same, ui_ne _ _ h1]
/-- laid for a stack: the ways to the aim and the costs -/
theorem c_X10_start (mem : Mem) (y : Sy) (hS : SM (mem 117) 0 y) (ex q : Int) (t : List Int) (ht : t.length ≤ 6) (hq : 0 ≤ q ∧ q < y.1) (hv : WOK y ex q t (mem 120)) (h7 : mem 116 7 = nodW q t.length) : CtrL mX10_start [aR 116] mem (fun z m => frR mem m ∧ WOK y ex q t (m 120) ∧ BK y ex q t m (dgs y.2.2.2.1) ∧ TMn EN (RC BR y.2.2.2.2 ex y.2.2.1 (dgs y.2.2.2.1) q t) z) := by
  have ok := hS.2.2.1
  have f := hS.facts
  have hS4 := ok.1
  have hst := ok.st
  have hnw : R32 (nodW q t.length) := by unfold nodW; split <;> omega
  refine Ctr.ofV (ls := [aR 116, aU]) rfl (by decide) rfl (Nat.le_of_ble_eq_true rfl) ?_
  refine v_iconst (q := 1) dX10_start_0 rfl ?_
  refine v_ist1 (q := 2) rfl dX10_start_1 (by decide) rfl ?_
  have hk := l_X10_start0 (Post := (fun r m => ∃ z, r = aL z ∧ frR mem m ∧ WOK y ex q t (m 120) ∧ BK y ex q t m (dgs y.2.2.2.1) ∧ TMn EN (RC BR y.2.2.2.2 ex y.2.2.1 (dgs y.2.2.2.1) q t) z)) mem _ h7 hnw (fun v hv0 => ?_) 11 0 (mem 122) (by omega) (by omega) (fun s s0 s1 => by omega)
  · rw [sm_id mem 122 (fun _ => rfl)] at hk
    exact hk
  · obtain ⟨M, hM⟩ : ∃ M, M = um (sm mem 122 v) 116 11 0 := ⟨_, rfl⟩
    have mO : ∀ p, p ≠ 116 → p ≠ 122 → M p = mem p := fun p h1 h2 => by rw [hM, um_ne _ _ _ h1, sm_ne _ _ h2]
    have fr0 : frR mem M := ⟨fun p h1 h2 => mO p h2 (by omega), fun j h1 h2 h3 => by rw [hM, um_same, ui_ne _ _ h3, sm_ne _ _ (by decide)]⟩
    have k0 : BK y ex q t M [] := by
      refine ⟨by rw [hM, um_same, ui_same]; rfl, fun i hi s s0 s1 => ?_, fun i hi => absurd hi (by show ¬ (i < 0); omega)⟩
      have e : i = 0 := by have : i ≤ 0 := hi; omega
      subst e
      rw [hM, um_ne _ _ _ (by decide), sm_same, show (11 : Int) * ((0 : Nat) : Int) + s = s by omega, hv0 s s0 s1]
      exact BL0 hq hS4.2 s
    have e17 : M 117 = mem 117 := mO 117 (by decide) (by decide)
    have e120 : M 120 = mem 120 := mO 120 (by decide) (by decide)
    refine v_aload_n (j := 0) (q := 36) rfl dX10_start_35 rfl ?_
    refine v_iconst (q := 37) dX10_start_36 rfl ?_
    refine v_putI (j := 11) (q := 40) dX10_start_37 fl_X10_120 kd_116 rfl rfl rfl ?_
    rw [← hM]
    refine v_aload_n (j := 0) (q := 41) rfl dX10_start_40 rfl ?_
    refine v_aload_n (j := 0) (q := 42) rfl dX10_start_41 rfl ?_
    refine v_getR (p' := 117) (q := 45) dX10_start_42 fl_X10_7 kd_116 rfl (rfc_10_0 kd_116) rfl ?_
    refine v_iconst (q := 46) dX10_start_45 rfl ?_
    refine v_iald (q := 47) dX10_start_46 kd_117 (by omega) (by omega) rfl ?_
    rw [e17, ← f.2.2.2.2.2.2.2.2.2.1]
    refine v_cVV1 (q := 50) dX10_start_47 mlX10_127 mdX10_pushWord (by decide) kd_116 rfl rfl ⟨Nat.le_refl 0, Nat.le_refl 0⟩ (by exact Nat.le_of_ble_eq_true rfl) rfl (c_X10_pushWord y.2.2.2.1 M y ok ex q t [] ht hq (by rw [e120]; exact hv) k0 (by rw [f.2.2.2.2.2.2.2.2.2.1]; omega) (fun d hd => by have := hst.1 d hd; have := ok.2.1; omega) (by have := hst.2; rw [List.length_nil]; omega)) ?_
    rw [List.append_nil]
    rintro m1 ⟨g1, g2⟩
    have e11 : m1 116 11 = (dgs y.2.2.2.1).length := g2.1
    have e18 : m1 117 = mem 117 := (by rw [g1.1 117 (by decide) (by decide) (by decide)]; exact e17)
    have hst2 := hst.2
    refine v_aload_n (j := 0) (q := 51) rfl dX10_start_50 rfl ?_
    refine v_getR (p' := 122) (q := 54) dX10_start_51 fl_X10_26 kd_116 rfl (rfc_10_10 kd_116) rfl ?_
    refine v_bipush (q := 56) (by decide) dX10_start_54 rfl ?_
    refine v_aload_n (j := 0) (q := 57) rfl dX10_start_56 rfl ?_
    refine v_getI (j := 11) (q := 60) dX10_start_57 fl_X10_120 kd_116 rfl rfl rfl ?_
    rw [e11]
    refine v_imul (q := 61) dX10_start_60 rfl ?_
    refine v_aload_n (j := 0) (q := 62) rfl dX10_start_61 rfl ?_
    refine v_getR (p' := 117) (q := 65) dX10_start_62 fl_X10_7 kd_116 rfl (rfc_10_0 kd_116) rfl ?_
    refine v_iconst (q := 66) dX10_start_65 rfl ?_
    refine v_iald (q := 67) dX10_start_66 kd_117 (by omega) (by omega) rfl ?_
    rw [e18]
    refine v_iadd (q := 68) dX10_start_67 rfl ?_
    refine v_lald (q := 69) dX10_start_68 kd_122 (by omega) (by omega) rfl ?_
    refine v_lret dX10_start_69 ?_
    refine ⟨_, rfl, fr0.trans g1.R, by rw [g1.1 120 (by decide) (by decide) (by decide), e120]; exact hv, g2, ?_⟩
    have := g2.2.1 (dgs y.2.2.2.1).length (Nat.le_refl _) (mem 117 3) f.2.2.1.1 (by have := f.2.2.1.2; have := f.1; omega)
    rw [Nat.sub_self, List.drop_zero] at this
    have h9 := BL.RC (by rw [f.2.2.2.2.2.2.1]; exact f.2.2.1.2) hS4.2 this
    rw [f.2.2.2.2.2.2.2.2.1]
    exact h9
theorem lm_R {y : Sy} (ok : okS y) {ex p : Int} {s : List Int} {q : Int} {t : List Int} {z : Int} (h : TMn EN (RC BR y.2.2.2.2 ex p s q t) z) : (0 ≤ z ∧ z ≤ 4000000000000000000) ∧ (z < 2097154097152 → lm y.2.2.2.2 ex p s q t = some (z / 2097152, z % 2097152) ∧ z % 2097152 ≤ z / 2097152) ∧ (2097154097152 ≤ z → lm y.2.2.2.2 ex p s q t = none) := by
  have hw := okRs.w (S := y.1) (G := y.2.1) ok.2.2.2.2.2
  have k := lm_T (B := 2097152) (Or.inr rfl) (by show 1000001 * 2097152 ≤ EN; unfold EN; omega) hw h
  have hEN := EN_def
  refine ⟨⟨?_, by have := h.1; omega⟩, fun hz => ?_, fun hz => k.2 (by omega)⟩
  · rcases Int.lt_or_le z EN with hl | hl
    · exact RC.nn hw (by unfold BR; omega) (h.2.1 hl)
    · omega
  · have := k.1 (by omega)
    exact ⟨this.1, this.2.2.1⟩
theorem Run_ex (rs : List Rl) : ∀ (n : Nat) (p : Int) (s : List Int) (q : Int) (t : List Int) (W : Int), Run rs (-1) n p s q t W ↔ Run rs (-6) n p s q t W
  | 0, _, _, _, _, _ => Iff.rfl
  | n + 1, _, _, _, _, _ => by
    constructor
    · rintro ⟨k, r, s', h1, h2, h3, h4, h5⟩
      exact ⟨k, r, s', h1, by omega, h3, h4, (Run_ex rs n _ _ _ _ _).mp h5⟩
    · rintro ⟨k, r, s', h1, h2, h3, h4, h5⟩
      exact ⟨k, r, s', h1, by omega, h3, h4, (Run_ex rs n _ _ _ _ _).mpr h5⟩
theorem lm_ex (rs : List Rl) (p : Int) (s : List Int) (q : Int) (t : List Int) : lm rs (-1) p s q t = lm rs (-6) p s q t := by
  have e : Run rs (-1) = Run rs (-6) := by
    funext n p s q t W
    exact propext (Run_ex rs n p s q t W)
  unfold lm lmP RW
  rw [e]
/-- what costTo of the reference answers -/
def cutR (z : Int) : Int := if 2097154097152 ≤ z then 4000000000000000000 else z
theorem c_X10_costTo (p w ex : Int) (mem : Mem) (y : Sy) (hS : SM (mem 117) 0 y) (ha : askd y p w) (hw : R32 w) (hex : -1 ≤ ex ∧ ex < 20) : CtrL mX10_costTo [aR 116, aI p, aI w, aI ex] mem (fun z m => frR mem m ∧ WOK y ex p (dgs w) (m 120) ∧ BK y ex p (dgs w) m (dgs y.2.2.2.1) ∧ ∃ c, cutR c = z ∧ TMn EN (RC BR y.2.2.2.2 ex y.2.2.1 (dgs y.2.2.2.1) p (dgs w)) c) := by
  have ok := hS.2.2.1
  refine Ctr.ofV (ls := [aR 116, aI p, aI w, aI ex, aU, aU]) rfl (by decide) rfl (Nat.le_of_ble_eq_true rfl) ?_
  refine v_aload_n (j := 0) (q := 1) rfl dX10_costTo_0 rfl ?_
  refine v_iload_n (j := 1) (q := 2) rfl dX10_costTo_1 rfl ?_
  refine v_iload_n (j := 2) (q := 3) rfl dX10_costTo_2 rfl ?_
  refine v_iload_n (j := 3) (q := 4) rfl dX10_costTo_3 rfl ?_
  refine v_cVV3 (q := 7) dX10_costTo_4 mlX10_130 mdX10_aim (by decide) kd_116 rfl rfl ⟨Nat.le_refl 0, Nat.le_refl 0⟩ (by exact Nat.le_of_ble_eq_true rfl) rfl (c_X10_aim p w ex mem y ok hS.RFs ha.1 ha.d.1 ha.d.2 hw hex) ?_
  rintro m1 ⟨v, rfl, hv⟩
  have e7 : aimM mem p ex (dgs w).length v 116 7 = nodW p (dgs w).length := (by unfold aimM; rw [sm_ne _ _ (by decide), um_same, ui_ne _ _ (by omega), um_same, ui_same])
  have e17 : aimM mem p ex (dgs w).length v 117 = mem 117 := (aimM_frR mem p ex _ v).1 117 (by omega) (by decide)
  have e20 : aimM mem p ex (dgs w).length v 120 = v := (by unfold aimM; rw [sm_same])
  refine v_aload_n (j := 0) (q := 8) rfl dX10_costTo_7 rfl ?_
  refine v_cVL0 (q := 11) dX10_costTo_8 mlX10_134 mdX10_start (by decide) kd_116 rfl rfl ⟨Nat.le_refl 0, Nat.le_refl 0⟩ (by exact Nat.le_of_ble_eq_true rfl) rfl (c_X10_start _ y (by rw [e17]; exact hS) ex p (dgs w) ha.d.2 ha.1 (by rw [e20]; exact hv) e7) ?_
  rintro c m2 ⟨g1, g2, g3, g4⟩
  obtain ⟨hc, hc1, hc2⟩ := lm_R ok g4
  refine v_lst4 (q := 13) rfl dX10_costTo_11 (by decide) rfl ?_
  refine v_lload (j := 4) (q := 15) rfl dX10_costTo_13 rfl ?_
  refine v_ldc2 (n := 2097152) (q := 18) klX10_93 rfl dX10_costTo_15 rfl ?_
  refine v_ldiv (q := 19) (by omega) (by omega) dX10_costTo_18 rfl ?_
  refine v_ldc2 (n := 1000000) (q := 22) klX10_138 rfl dX10_costTo_19 rfl ?_
  refine v_lcmp_le (tgt := 32) (q := 26) dX10_costTo_22 dX10_costTo_23 (by decide) rfl (by omega) (by omega) (fun h22 => ?_) (fun h22 => ?_)
  · refine v_lload (j := 4) (q := 34) rfl dX10_costTo_32 rfl ?_
    refine v_lret dX10_costTo_34 ?_
    refine ⟨_, rfl, (aimM_frR mem p ex _ v).trans g1, g2, g3, c, ?_, g4⟩
    unfold cutR
    first
      | (rw [if_pos (by omega)]; done)
      | (rw [if_neg (by omega)]; done)
  · refine v_ldc2 (n := 4000000000000000000) (q := 29) klX10_91 rfl dX10_costTo_26 rfl ?_
    refine v_goto (q := 34) dX10_costTo_29 (by decide) ?_
    refine v_lret dX10_costTo_34 ?_
    refine ⟨_, rfl, (aimM_frR mem p ex _ v).trans g1, g2, g3, c, ?_, g4⟩
    unfold cutR
    first
      | (rw [if_pos (by omega)]; done)
      | (rw [if_neg (by omega)]; done)
theorem wv_R {y : Sy} (ok : okS y) {ex p : Int} {s : List Int} {q : Int} {t : List Int} {z : Int} (h : TMn EN (RC BR y.2.2.2.2 ex p s q t) z) : wv (lm y.2.2.2.2 ex p s q t) = if 2097154097152 ≤ z then -6 else z / 2097152 := by
  obtain ⟨a, b, c⟩ := lm_R ok h
  by_cases hz : 2097154097152 ≤ z
  · rw [if_pos hz, c hz]; rfl
  · rw [if_neg hz, (b (by omega)).1]; rfl
theorem c_X10_distanceTo (p w ex : Int) (mem : Mem) (y : Sy) (hS : SM (mem 117) 0 y) (ha : askd y p w) (hw : R32 w) (hex : -1 ≤ ex ∧ ex < 20) : CtrI mX10_distanceTo [aR 116, aI p, aI w, aI ex] mem (fun z m => frR mem m ∧ wv (lmS y ex p (dgs w)) = z) := by
  have ok := hS.2.2.1
  refine Ctr.ofV (ls := [aR 116, aI p, aI w, aI ex, aU, aU]) rfl (by decide) rfl (Nat.le_of_ble_eq_true rfl) ?_
  refine v_aload_n (j := 0) (q := 1) rfl dX10_distanceTo_0 rfl ?_
  refine v_iload_n (j := 1) (q := 2) rfl dX10_distanceTo_1 rfl ?_
  refine v_iload_n (j := 2) (q := 3) rfl dX10_distanceTo_2 rfl ?_
  refine v_iload_n (j := 3) (q := 4) rfl dX10_distanceTo_3 rfl ?_
  refine v_cVL3 (q := 7) dX10_distanceTo_4 mlX10_140 mdX10_costTo (by decide) kd_116 rfl rfl ⟨Nat.le_refl 0, Nat.le_refl 0⟩ (by exact Nat.le_of_ble_eq_true rfl) rfl (c_X10_costTo p w ex mem y hS ha hw hex) ?_
  rintro z m1 ⟨g1, g2, g3, c, rfl, g4⟩
  obtain ⟨hc, hc1, hc2⟩ := lm_R ok g4
  have hcut : (2097154097152 ≤ c ∧ cutR c = 4000000000000000000) ∨ (c < 2097154097152 ∧ cutR c = c) := (by unfold cutR; by_cases e : 2097154097152 ≤ c; (rw [if_pos e]; exact Or.inl ⟨e, rfl⟩); (rw [if_neg e]; exact Or.inr ⟨by omega, rfl⟩))
  have hwv := wv_R ok g4
  refine v_lst4 (q := 9) rfl dX10_distanceTo_7 (by decide) rfl ?_
  refine v_lload (j := 4) (q := 11) rfl dX10_distanceTo_9 rfl ?_
  refine v_ldc2 (n := 4000000000000000000) (q := 14) klX10_91 rfl dX10_distanceTo_11 rfl ?_
  refine v_lcmp_ne (tgt := 23) (q := 18) dX10_distanceTo_14 dX10_distanceTo_15 (by decide) rfl (by omega) (by omega) (fun h14 => ?_) (fun h14 => ?_)
  · refine v_lload (j := 4) (q := 25) rfl dX10_distanceTo_23 rfl ?_
    refine v_ldc2 (n := 2097152) (q := 28) klX10_93 rfl dX10_distanceTo_25 rfl ?_
    refine v_ldiv (q := 29) (by omega) (by omega) dX10_distanceTo_28 rfl ?_
    refine v_l2i (q := 30) (by omega) dX10_distanceTo_29 rfl ?_
    refine v_iret dX10_distanceTo_30 ?_
    refine ⟨_, rfl, g1, ?_⟩
    unfold lmS
    rw [hwv]
    first
      | (rw [if_pos (by omega)]; done)
      | (rw [if_neg (by omega)]; omega)
  · refine v_bipush (q := 20) (by decide) dX10_distanceTo_18 rfl ?_
    refine v_goto (q := 30) dX10_distanceTo_20 (by decide) ?_
    refine v_iret dX10_distanceTo_30 ?_
    refine ⟨_, rfl, g1, ?_⟩
    unfold lmS
    rw [hwv]
    first
      | (rw [if_pos (by omega)]; done)
      | (rw [if_neg (by omega)]; omega)
