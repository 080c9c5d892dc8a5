/-! ===== Trace.follow ===== -/
def frT (mem m : Mem) : Prop := (∀ p, p ≠ 42 → p ≠ 51 → p ≠ 52 → p ≠ 53 → (p < 78 ∨ 82 < p) → m p = mem p) ∧ ∀ j, j ≠ 1 → m 42 j = mem 42 j
theorem or_pow_bit (U k j : Nat) : (U ||| 2 ^ k).testBit j = true ↔ U.testBit j = true ∨ k = j := by
  rw [Nat.testBit_or, Nat.testBit_two_pow]
  simp
theorem or_lt20 {U k : Nat} (h : U < 1048576) (hk : k < 20) : U ||| 2 ^ k < 1048576 := by
  have e : (1048576 : Nat) = 2 ^ 20 := by decide
  rw [e] at h ⊢
  exact Nat.or_lt_two_pow h (Nat.pow_lt_pow_right (by omega) hk)
theorem RW.z {rs : List Rl} {ex p : Int} {s : List Int} {q : Int} {t : List Int} {W n : Int} (h : RW rs ex p s q t W n) (h0 : n = 0) : W = 0 := by
  obtain ⟨k, e, r⟩ := h
  match k, e, r with
  | 0, _, r => exact r.2.2
  | k + 1, e, _ => exact absurd e (by omega)
theorem wF.ok {y : Sy} (ok : okS y) {q : Int} {t : List Int} {a b : Cf} {k : Nat} (h : wF y.2.2.2.2 q t a k b) (hd : ∀ d ∈ a.2.1, 1 ≤ d ∧ d ≤ y.2.1) : (0 ≤ b.1 ∧ b.1 < y.1) ∧ (∀ d ∈ b.2.1, 1 ≤ d ∧ d ≤ y.2.1) ∧ b.2.1.length ≤ a.2.1.length + 1 ∧ ∃ r, y.2.2.2.2[k]? = some r ∧ b.1 = r.2.2.1 ∧ b.2.2.1 = a.2.2.1 - r.2.2.2.2 ∧ b.2.2.2 = a.2.2.2 - 1 := by
  obtain ⟨⟨r, s', ⟨h1, h2, h3, h4⟩, e⟩, -⟩ := h
  have okr := ok.2.2.2.2.2 r (List.mem_of_getElem? h1)
  have hl := dgs_len r.2.2.2.1
  have hn := okr.2.2.2.1.2
  rw [e]
  refine ⟨okr.2.2.1, fun d hd2 => ?_, ?_, r, h1, rfl, rfl, rfl⟩
  · rcases List.mem_append.mp hd2 with g | g
    · exact okr.2.2.2.1.1.2 d g
    · exact hd d (by rw [h3]; exact List.mem_cons_of_mem _ g)
  · show (dgs r.2.2.2.1 ++ s').length ≤ _
    rw [h3, List.length_append, List.length_cons]
    omega
theorem l_X7_follow (mem : Mem) (y : Sy) (q : Int) (t : List Int) (W n : Int) (h0 : SQ0 y (-6) q t 42) (hq : SQ y (-6) q t mem 42) (hl : lm y.2.2.2.2 (-6) y.2.2.1 (dgs y.2.2.2.1) q t = some (W, n)) :
    ∀ (j i : Nat) (M : Mem) (a : Cf) (U : Nat) (u7 : AV), i + j = 301 → frT mem M → M 42 1 = a.2.1.length → SOK y (-6) q t M 42 a.2.1 → M 78 2 = i → M 78 3 = U → trB M U i → trR M y q t W n i → wAt y.2.2.2.2 q t i (stC y W n) a → lm y.2.2.2.2 (-6) a.1 a.2.1 q t = some (a.2.2.1, a.2.2.2) → (0 ≤ a.1 ∧ a.1 < y.1) → (∀ d ∈ a.2.1, 1 ≤ d ∧ d ≤ y.2.1) → a.2.1.length ≤ 4 + i → a.2.2.2 = n - i →
    V cX7_follow RX7 8 none (rmk 5 124) (mE (fun r m => r = aU ∧ frT mem m ∧ m 78 0 = 1 ∧ TRC m y q t)) 37 [aR 78, aR 42, aR 29, aI a.1, aL (a.2.2.1 * 16777216 + a.2.2.2), aU, aI i, u7] [] M := by
  obtain ⟨ok, hc, hex, hq2, ht, hlt⟩ := id h0
  have hS := ok.1
  have hG := ok.2.1
  have hw := okRs.w (S := y.1) (G := y.2.1) ok.2.2.2.2.2
  have hcap : capS 42 = 310 := rfl
  have hlen := ok.2.2.2.2.1
  have exit : ∀ (i : Nat) (M : Mem) (a : Cf) (U : Nat) (u7 : AV), frT mem M → M 78 2 = i → M 78 3 = U → trB M U i → trR M y q t W n i → (0 ≤ a.2.2.2 ∧ a.2.2.2 ≤ a.2.2.1 ∧ a.2.2.1 ≤ 1000000) → (a.2.2.2 = 0 → a.2.2.1 = 0) → a.2.2.2 = n - i → i ≤ 301 → (i = 301 ∨ a.2.2.2 = 0) → V cX7_follow RX7 8 none (rmk 5 124) (mE (fun r m => r = aU ∧ frT mem m ∧ m 78 0 = 1 ∧ TRC m y q t)) 155 [aR 78, aR 42, aR 29, aI a.1, aL (a.2.2.1 * 16777216 + a.2.2.2), aU, aI i, u7] [] M := by
    intro i M a U u7 f1 f2 f3 f4 f5 f6 f60 f7 f8 f9
    have fin : ∀ C : Prop, (C ↔ n ≤ 301) → frT mem (um (um M 78 1 (bI C)) 78 0 1) ∧ um (um M 78 1 (bI C)) 78 0 1 78 0 = 1 ∧ TRC (um (um M 78 1 (bI C)) 78 0 1) y q t := fun C hC => by
      have o : ∀ p, p ≠ 78 → um (um M 78 1 (bI C)) 78 0 1 p = M p := fun p hp => by rw [um_ne _ _ _ hp, um_ne _ _ _ hp]
      refine ⟨⟨fun p a1 a2 a3 a4 a5 => by rw [o p (by omega)]; exact f1.1 p a1 a2 a3 a4 a5, fun j hj => by rw [o 42 (by decide)]; exact f1.2 j hj⟩, by rw [um_same, ui_same], W, n, i, U, hl, by omega, ?_, ?_, ?_, ?_, ?_⟩
      · rw [um_same, ui_ne _ _ (by omega), um_same, ui_ne _ _ (by omega)]; exact f2
      · rw [um_same, ui_ne _ _ (by omega), um_same, ui_same]; exact bI_congr hC
      · rw [um_same, ui_ne _ _ (by omega), um_same, ui_ne _ _ (by omega)]; exact f3
      · unfold trB; rw [o 79 (by decide)]; exact f4
      · unfold trR; rw [o 79 (by decide), o 80 (by decide), o 81 (by decide), o 82 (by decide)]; exact f5
    refine v_aload_n (j := 0) (q := 156) rfl dX7_follow_155 rfl ?_
    refine v_lload (j := 4) (q := 158) rfl dX7_follow_156 rfl ?_
    refine v_lconst0 (q := 159) dX7_follow_158 rfl ?_
    refine v_lcmp_ne (tgt := 167) (q := 163) dX7_follow_159 dX7_follow_160 (by decide) rfl (by omega) (by omega) (fun h159 => ?_) (fun h159 => ?_)
    · refine v_iconst (q := 168) dX7_follow_167 rfl ?_
      refine v_putZ (j := 1) (q := 171) (by first | exact Or.inl rfl | exact Or.inr rfl | exact bI_01 _ | omega) dX7_follow_168 fl_X7_15 kd_78 rfl rfl rfl ?_
      refine v_aload_n (j := 0) (q := 172) rfl dX7_follow_171 rfl ?_
      refine v_iconst (q := 173) dX7_follow_172 rfl ?_
      refine v_putZ (j := 0) (q := 176) (by first | exact Or.inl rfl | exact Or.inr rfl | exact bI_01 _ | omega) dX7_follow_173 fl_X7_9 kd_78 rfl rfl rfl ?_
      refine v_vret dX7_follow_176 ?_
      first
        | (have k9 := fin False ⟨fun h => h.elim, fun h => absurd h (by omega)⟩
           rw [← bI_0] at k9
           exact ⟨rfl, k9⟩)
        | (have k9 := fin True ⟨fun _ => by omega, fun _ => trivial⟩
           rw [← bI_1] at k9
           exact ⟨rfl, k9⟩)
    · refine v_iconst (q := 164) dX7_follow_163 rfl ?_
      refine v_goto (q := 168) dX7_follow_164 (by decide) ?_
      refine v_putZ (j := 1) (q := 171) (by first | exact Or.inl rfl | exact Or.inr rfl | exact bI_01 _ | omega) dX7_follow_168 fl_X7_15 kd_78 rfl rfl rfl ?_
      refine v_aload_n (j := 0) (q := 172) rfl dX7_follow_171 rfl ?_
      refine v_iconst (q := 173) dX7_follow_172 rfl ?_
      refine v_putZ (j := 0) (q := 176) (by first | exact Or.inl rfl | exact Or.inr rfl | exact bI_01 _ | omega) dX7_follow_173 fl_X7_9 kd_78 rfl rfl rfl ?_
      refine v_vret dX7_follow_176 ?_
      first
        | (have k9 := fin False ⟨fun h => h.elim, fun h => absurd h (by omega)⟩
           rw [← bI_0] at k9
           exact ⟨rfl, k9⟩)
        | (have k9 := fin True ⟨fun _ => by omega, fun _ => trivial⟩
           rw [← bI_1] at k9
           exact ⟨rfl, k9⟩)
  intro j
  induction j with
  | zero =>
    intro i M a U u7 h1 f1 f2 f3 f4 f5 f6 f7 f8 f9 f10 f11 f12 f13
    have hi : i = 301 := by omega
    have nn := (lm_some.mp f9)
    have nl := nn.1.le hw
    have nl : 0 ≤ a.2.2.2 ∧ a.2.2.2 ≤ a.2.2.1 := nl
    have nw : a.2.2.1 ≤ 1000000 := nn.2.1
    refine v_iload (j := 6) (q := 39) rfl dX7_follow_37 rfl ?_
    refine v_sipush (q := 42) (by decide) dX7_follow_39 rfl ?_
    refine v_icmp_ge (tgt := 155) (q := 45) dX7_follow_42 (by decide) rfl (by omega) (by omega) (fun h42 => ?_) (fun h42 => ?_)
    · exact exit i M a U _ f1 f4 f5 f6 f7 ⟨nl.1, nl.2, nw⟩ (nn.1.z) f13 (by omega) (Or.inl hi)
    · exact absurd h42 (by omega)
  | succ j ih =>
    intro i M a U u7 h1 f1 f2 f3 f4 f5 f6 f7 f8 f9 f10 f11 f12 f13
    have nn := (lm_some.mp f9)
    have nl := nn.1.le hw
    have nl : 0 ≤ a.2.2.2 ∧ a.2.2.2 ≤ a.2.2.1 := nl
    have nw : a.2.2.1 ≤ 1000000 := nn.2.1
    have hq1 : SQ y (-6) q t M 42 := hq.congr hc hlt (fun p hp => f1.1 p (by omega) (by omega) (by omega) (by omega) (by omega)) (fun j hj => f1.2 j (by omega))
    by_cases hz : a.2.2.2 = 0
    · have hz2 := nn.1.z hz
      have hz2 : a.2.2.1 = 0 := hz2
      refine v_iload (j := 6) (q := 39) rfl dX7_follow_37 rfl ?_
      refine v_sipush (q := 42) (by decide) dX7_follow_39 rfl ?_
      refine v_icmp_ge (tgt := 155) (q := 45) dX7_follow_42 (by decide) rfl (by omega) (by omega) (fun h42 => ?_) (fun h42 => ?_)
      · exact absurd h42 (by omega)
      · refine v_lload (j := 4) (q := 47) rfl dX7_follow_45 rfl ?_
        refine v_lconst0 (q := 48) dX7_follow_47 rfl ?_
        refine v_lcmp_le (tgt := 155) (q := 52) dX7_follow_48 dX7_follow_49 (by decide) rfl (by omega) (by omega) (fun h48 => ?_) (fun h48 => ?_)
        · exact exit i M a U _ f1 f4 f5 f6 f7 ⟨nl.1, nl.2, nw⟩ (nn.1.z) f13 (by omega) (Or.inr hz)
        · exact absurd h48 (by omega)
    · obtain ⟨k, b, w1, w2, w3, w4⟩ := wF.ex ok f9 (by omega)
      obtain ⟨p, s9, W', n'⟩ := a
      obtain ⟨x, s, rfl⟩ : ∃ x s, s9 = x :: s := by
        obtain ⟨⟨r, s', hk, -⟩, -⟩ := w1
        exact ⟨_, _, hk.2.2.1⟩
      have f2 : M 42 1 = ((x :: s).length : Nat) := f2
      have hsl : ((x :: s).length : Int) = s.length + 1 := by rw [List.length_cons]; omega
      have f12 : (x :: s).length ≤ 4 + i := f12
      have f13 : n' = n - i := f13
      have f10 : 0 ≤ p ∧ p < y.1 := f10
      have hz : ¬ n' = 0 := hz
      have nl : 0 ≤ n' ∧ n' ≤ W' := nl
      have nw : W' ≤ 1000000 := nw
      have hx := f11 x List.mem_cons_self
      obtain ⟨o1, o2, o3, r, o4, o5, o6, o7⟩ := w1.ok ok f11
      have o3 : b.2.1.length ≤ (x :: s).length + 1 := o3
      have o6 : b.2.2.1 = W' - r.2.2.2.2 := o6
      have o7 : b.2.2.2 = n' - 1 := o7
      obtain ⟨N, hN⟩ : ∃ N, N = um (um (um M 80 i p) 81 i x) 82 i ((x :: s).length : Nat) := ⟨_, rfl⟩
      have nO : ∀ p, p ≠ 80 → p ≠ 81 → p ≠ 82 → N p = M p := fun p a1 a2 a3 => by rw [hN, um_ne _ _ _ a3, um_ne _ _ _ a2, um_ne _ _ _ a1]
      have n42 : N 42 = M 42 := nO 42 (by decide) (by decide) (by decide)
      have sqN : SQ y (-6) q t N 42 := hq1.congr hc hlt (fun p hp => nO p (by omega) (by omega) (by omega)) (fun j hj => by rw [n42])
      have sN : SOK y (-6) q t N 42 (x :: s) := f3.congr hS.2 (fun i _ => by rw [nO _ (by omega) (by omega) (by omega)]) (fun i _ => by rw [nO _ (by omega) (by omega) (by omega)]) (fun i _ => by rw [nO _ (by omega) (by omega) (by omega)])
      have hM0 : SOK y (-6) q t (um M 80 i p) 42 (x :: s) := f3.congr hS.2 (fun i _ => by rw [um_ne _ _ _ (by omega)]) (fun i _ => by rw [um_ne _ _ _ (by omega)]) (fun i _ => by rw [um_ne _ _ _ (by omega)])
      have g1 : um M 80 i p 42 1 = ((x :: s).length : Nat) := by rw [um_ne _ _ _ (by decide)]; exact f2
      have g2 : um (um M 80 i p) 81 i x 42 1 = ((x :: s).length : Nat) := by rw [um_ne _ _ _ (by decide)]; exact g1
      have okr := ok.2.2.2.2.2 r (List.mem_of_getElem? o4)
      have kr : y.2.2.2.2[k] = r := (List.getElem?_eq_some_iff.mp o4).2
      refine v_iload (j := 6) (q := 39) rfl dX7_follow_37 rfl ?_
      refine v_sipush (q := 42) (by decide) dX7_follow_39 rfl ?_
      refine v_icmp_ge (tgt := 155) (q := 45) dX7_follow_42 (by decide) rfl (by omega) (by omega) (fun h42 => ?_) (fun h42 => ?_)
      · exact absurd h42 (by omega)
      · refine v_lload (j := 4) (q := 47) rfl dX7_follow_45 rfl ?_
        refine v_lconst0 (q := 48) dX7_follow_47 rfl ?_
        refine v_lcmp_le (tgt := 155) (q := 52) dX7_follow_48 dX7_follow_49 (by decide) rfl (by omega) (by omega) (fun h48 => ?_) (fun h48 => ?_)
        · exact absurd h48 (by omega)
        · refine v_aload_n (j := 0) (q := 53) rfl dX7_follow_52 rfl ?_
          refine v_getR (p' := 80) (q := 56) dX7_follow_53 fl_X7_29 kd_78 rfl (rfc_7_5 kd_78) rfl ?_
          refine v_iload (j := 6) (q := 58) rfl dX7_follow_56 rfl ?_
          refine v_iload_n (j := 3) (q := 59) rfl dX7_follow_58 rfl ?_
          refine v_iast (q := 60) dX7_follow_59 kd_80 (by omega) (by omega) rfl ?_
          refine v_aload_n (j := 0) (q := 61) rfl dX7_follow_60 rfl ?_
          refine v_getR (p' := 81) (q := 64) dX7_follow_61 fl_X7_32 kd_78 rfl (rfc_7_6 kd_78) rfl ?_
          refine v_iload (j := 6) (q := 66) rfl dX7_follow_64 rfl ?_
          refine v_aload_n (j := 1) (q := 67) rfl dX7_follow_66 rfl ?_
          refine v_cVI0 (q := 70) dX7_follow_67 mlX7_53 mdX3_top (by decide) kd_42 rfl rfl ⟨Nat.le_refl 0, Nat.le_refl 0⟩ (by exact Nat.le_of_ble_eq_true rfl) rfl (c_X3_top 42 _ y (-6) q t (x :: s) h0 hM0 g1 (by rw [hcap]; omega)) ?_
          rintro _ _ ⟨rfl, rfl⟩
          refine v_iast (q := 71) dX7_follow_70 kd_81 (by omega) (by omega) rfl ?_
          refine v_aload_n (j := 0) (q := 72) rfl dX7_follow_71 rfl ?_
          refine v_getR (p' := 82) (q := 75) dX7_follow_72 fl_X7_35 kd_78 rfl (rfc_7_7 kd_78) rfl ?_
          refine v_iload (j := 6) (q := 77) rfl dX7_follow_75 rfl ?_
          refine v_aload_n (j := 1) (q := 78) rfl dX7_follow_77 rfl ?_
          refine v_getI (j := 1) (q := 81) dX7_follow_78 fl_X7_57 kd_42 rfl rfl rfl ?_
          rw [show um (um M 80 i p) 81 i ((x :: s).getD 0 0) 42 1 = ((x :: s).length : Nat) from g2]
          refine v_iast (q := 82) dX7_follow_81 kd_82 (by omega) (by omega) rfl ?_
          rw [show um (um (um M 80 i p) 81 i ((x :: s).getD 0 0)) 82 i ((x :: s).length : Nat) = N from hN.symm]
          refine v_aload_n (j := 1) (q := 83) rfl dX7_follow_82 rfl ?_
          refine v_iload_n (j := 3) (q := 84) rfl dX7_follow_83 rfl ?_
          refine v_lload (j := 4) (q := 86) rfl dX7_follow_84 rfl ?_
          refine v_cVI2 (q := 89) dX7_follow_86 mlX7_60 mdX3_advance (by decide) kd_42 rfl rfl ⟨Nat.le_refl 0, Nat.le_refl 0⟩ (by exact Nat.le_of_ble_eq_true rfl) rfl (c_X3_advance 42 N y q t s p x W' n' h0 sqN sN (by rw [n42, f2]; omega) (by rw [hcap]; omega) f10 hx f9 ⟨by omega, nl.2, nw⟩) ?_
          rintro _ M2 ⟨k2, b2, v1, rfl, v3, v4, v5, v6, v7⟩
          obtain ⟨e1, e2⟩ := v1.det w1
          subst e1
          subst e2
          refine v_ist7 (q := 91) rfl dX7_follow_89 (by decide) rfl ?_
          refine v_iload (j := 7) (q := 93) rfl dX7_follow_91 rfl ?_
          refine v_if_ge (tgt := 99) (q := 96) dX7_follow_93 (by decide) rfl (by omega) (fun h93 => ?_) (fun h93 => ?_)
          · refine v_aload_n (j := 0) (q := 100) rfl dX7_follow_99 rfl ?_
            refine v_getR (p' := 79) (q := 103) dX7_follow_100 fl_X7_25 kd_78 rfl (rfc_7_4 kd_78) rfl ?_
            refine v_iload (j := 6) (q := 105) rfl dX7_follow_103 rfl ?_
            refine v_iload (j := 7) (q := 107) rfl dX7_follow_105 rfl ?_
            refine v_iast (q := 108) dX7_follow_107 kd_79 (by omega) (by omega) rfl ?_
            have m2O : ∀ p, p ≠ 42 → p ≠ 51 → p ≠ 52 → p ≠ 53 → M2 p = N p := fun p a1 a2 a3 a4 => v5.1 p a1 a2 a3 a4
            have eU : um M2 79 i k2 78 3 = U := by rw [um_ne _ _ _ (by decide), m2O 78 (by decide) (by decide) (by decide) (by decide), nO 78 (by decide) (by decide) (by decide)]; exact f5
            have hU := f6.1
            have hk20 : k2 < 20 := by omega
            have hpw : (2 : Nat) ^ k2 < 1048576 := Nat.pow_lt_pow_right (a := 2) (m := k2) (n := 20) (by omega) hk20
            have hor := or_lt20 hU hk20
            obtain ⟨X, hX⟩ : ∃ X, X = um (um (um M2 79 i k2) 78 3 ((U ||| 2 ^ k2 : Nat) : Int)) 78 2 ((i : Int) + 1) := ⟨_, rfl⟩
            have xO : ∀ p, p ≠ 78 → p ≠ 79 → X p = M2 p := fun p a1 a2 => by rw [hX, um_ne _ _ _ a1, um_ne _ _ _ a1, um_ne _ _ _ a2]
            have pk := hq1.1.2.2.2.2 k2 v3
            rw [kr] at pk
            have e37 : X 37 k2 = cr BB r := by rw [xO 37 (by decide) (by decide), m2O 37 (by decide) (by decide) (by decide) (by decide), nO 37 (by decide) (by decide) (by decide)]; exact pk.2.2.2.2.2
            have e33 : X 33 k2 = r.2.2.1 := by rw [xO 33 (by decide) (by decide), m2O 33 (by decide) (by decide) (by decide) (by decide), nO 33 (by decide) (by decide) (by decide)]; exact pk.2.1
            have x79 : X 79 = ui (M 79) i k2 := by rw [hX, um_ne _ _ _ (by decide), um_ne _ _ _ (by decide), um_same, m2O 79 (by decide) (by decide) (by decide) (by decide), nO 79 (by decide) (by decide) (by decide)]
            have x80 : X 80 = ui (M 80) i p := by rw [xO 80 (by decide) (by decide), m2O 80 (by decide) (by decide) (by decide) (by decide), hN, um_ne _ _ _ (by decide), um_ne _ _ _ (by decide), um_same]
            have x81 : X 81 = ui (M 81) i x := by rw [xO 81 (by decide) (by decide), m2O 81 (by decide) (by decide) (by decide) (by decide), hN, um_ne _ _ _ (by decide), um_same, um_ne _ _ _ (by decide)]
            have x82 : X 82 = ui (M 82) i ((x :: s).length : Nat) := by rw [xO 82 (by decide) (by decide), m2O 82 (by decide) (by decide) (by decide) (by decide), hN, um_same, um_ne _ _ _ (by decide), um_ne _ _ _ (by decide)]
            refine v_aload_n (j := 0) (q := 109) rfl dX7_follow_108 rfl ?_
            refine v_dup (q := 110) rfl dX7_follow_109 rfl ?_
            refine v_getI (j := 3) (q := 113) dX7_follow_110 fl_X7_22 kd_78 rfl rfl rfl ?_
            rw [eU]
            refine v_iconst (q := 114) dX7_follow_113 rfl ?_
            refine v_iload (j := 7) (q := 116) rfl dX7_follow_114 rfl ?_
            refine v_ishl (q := 117) (shl1 hk20) dX7_follow_116 rfl ?_
            refine v_ior (q := 118) (or32 (by omega) (by omega)) dX7_follow_117 rfl ?_
            refine v_putI (j := 3) (q := 121) dX7_follow_118 fl_X7_22 kd_78 rfl rfl rfl ?_
            refine v_aload_n (j := 0) (q := 122) rfl dX7_follow_121 rfl ?_
            refine v_iload (j := 6) (q := 124) rfl dX7_follow_122 rfl ?_
            refine v_iconst (q := 125) dX7_follow_124 rfl ?_
            refine v_iadd (q := 126) dX7_follow_125 rfl ?_
            refine v_putI (j := 2) (q := 129) dX7_follow_126 fl_X7_18 kd_78 rfl rfl rfl ?_
            rw [← hX]
            refine v_lload (j := 4) (q := 131) rfl dX7_follow_129 rfl ?_
            refine v_aload_n (j := 2) (q := 132) rfl dX7_follow_131 rfl ?_
            refine v_getR (p' := 37) (q := 135) dX7_follow_132 fl_X7_64 kd_29 rfl (rfc_2_9 kd_29) rfl ?_
            refine v_iload (j := 7) (q := 137) rfl dX7_follow_135 rfl ?_
            refine v_lald (q := 138) dX7_follow_137 kd_37 (by omega) (by omega) rfl ?_
            rw [e37]
            refine v_lsub (q := 139) dX7_follow_138 rfl ?_
            refine v_lst4 (q := 141) rfl dX7_follow_139 (by decide) rfl ?_
            refine v_aload_n (j := 2) (q := 142) rfl dX7_follow_141 rfl ?_
            refine v_getR (p' := 33) (q := 145) dX7_follow_142 fl_X7_68 kd_29 rfl (rfc_2_5 kd_29) rfl ?_
            refine v_iload (j := 7) (q := 147) rfl dX7_follow_145 rfl ?_
            refine v_iald (q := 148) dX7_follow_147 kd_33 (by omega) (by omega) rfl ?_
            rw [e33]
            refine v_ist3 (q := 149) rfl dX7_follow_148 (by decide) rfl ?_
            refine v_iinc6 (q := 152) rfl dX7_follow_149 (by decide) rfl ?_
            refine v_goto (q := 37) dX7_follow_152 (by decide) ?_
            have hcr : cr BB r = r.2.2.2.2 * 16777216 + 1 := rfl
            have e9 : W' * 16777216 + n' - cr BB r = b2.2.2.1 * 16777216 + b2.2.2.2 := by rw [hcr, o6, o7]; omega
            rw [show ((p, x :: s, W', n') : Cf).2.2.1 * 16777216 + ((p, x :: s, W', n') : Cf).2.2.2 - cr BB r = b2.2.2.1 * 16777216 + b2.2.2.2 from e9, ← o5]
            refine ih (i + 1) X b2 (U ||| 2 ^ k2) _ (by omega) ⟨fun r9 a1 a2 a3 a4 a5 => ?_, fun j2 hj2 => ?_⟩ ?_ ?_ ?_ ?_ ⟨hor, fun k3 hk3 => ?_⟩ (fun j2 hj2 => ?_) ⟨_, k2, f8, v1⟩ v4 o1 o2 (by omega) (by omega)
            · rw [xO r9 (by omega) (by omega), m2O r9 a1 a2 a3 a4, nO r9 (by omega) (by omega) (by omega)]; exact f1.1 r9 a1 a2 a3 a4 a5
            · rw [xO 42 (by decide) (by decide), v5.2 j2 hj2, n42]; exact f1.2 j2 hj2
            · rw [xO 42 (by decide) (by decide)]; exact v6
            · exact v7.congr hS.2 (fun i _ => by rw [xO _ (by decide) (by decide)]) (fun i _ => by rw [xO _ (by decide) (by decide)]) (fun i _ => by rw [xO _ (by decide) (by decide)])
            · rw [hX, um_same, ui_same]; omega
            · rw [hX, um_same, ui_ne _ _ (by omega), um_same, ui_same]
            · rw [or_pow_bit, f6.2 k3 hk3, x79]
              constructor
              · rintro (⟨j3, a1, a2⟩ | a1)
                · exact ⟨j3, by omega, by rw [ui_ne _ _ (by omega)]; exact a2⟩
                · exact ⟨i, by omega, by rw [ui_same, a1]⟩
              · rintro ⟨j3, a1, a2⟩
                by_cases e : j3 = i
                · rw [e, ui_same] at a2
                  exact Or.inr (by omega)
                · rw [ui_ne _ _ (by omega)] at a2
                  exact Or.inl ⟨j3, by omega, a2⟩
            · rw [x79, x80, x81, x82]
              by_cases e : j2 = i
              · subst e
                exact ⟨_, k2, b2, f8, v1, by rw [ui_same], by rw [ui_same], by rw [ui_same]; rfl, by rw [ui_same]⟩
              · rw [ui_ne _ _ (by omega), ui_ne _ _ (by omega), ui_ne _ _ (by omega), ui_ne _ _ (by omega)]
                exact f7 j2 (by omega)
          · exact absurd h93 (by omega)
