/-! ===== StackLab.rulesOfWitness, critical ===== -/
theorem Run.mono {rs : List Rl} {ex : Int} : ∀ {n : Nat} {p : Int} {s : List Int} {q : Int} {t : List Int} {W : Int}, Run rs ex n p s q t W → Run rs (-6) n p s q t W
  | 0, _, _, _, _, _, h => h
  | n + 1, _, _, _, _, _, ⟨k, r, s', h1, h2, h3, h4, h5⟩ => ⟨k, r, s', h1, by omega, h3, h4, Run.mono h5⟩
/-- what the witness does not use may be left out -/
theorem wit_run {y : Sy} (ok : okS y) {q : Int} {t : List Int} {W n : Int} (ex : Int) {N : Nat} (hN : (N : Int) = n) (hu : ∀ j : Nat, j < N → ∃ a k b, wAt y.2.2.2.2 q t j (stC y W n) a ∧ wF y.2.2.2.2 q t a k b ∧ (k : Int) ≠ ex) (hl : lm y.2.2.2.2 (-6) y.2.2.1 (dgs y.2.2.2.1) q t = some (W, n)) :
    ∀ (m i : Nat) (a : Cf), i + m = N → wAt y.2.2.2.2 q t i (stC y W n) a → lm y.2.2.2.2 (-6) a.1 a.2.1 q t = some (a.2.2.1, a.2.2.2) → a.2.2.2 = n - i → Run y.2.2.2.2 ex m a.1 a.2.1 q t a.2.2.1 := by
  intro m
  induction m with
  | zero =>
    intro i a h1 h2 h3 h4
    have h5 : a.2.2.2 = 0 := by omega
    obtain ⟨k, e, r⟩ := (lm_some.mp h3).1
    have e : (k : Int) = a.2.2.2 := e
    match k, e, r with
    | 0, _, r => exact r
    | k + 1, e, _ => exact absurd e (by omega)
  | succ m ih =>
    intro i a h1 h2 h3 h4
    obtain ⟨a2, k, b, w1, w2, w3⟩ := hu i (by omega)
    have e := w1.det h2
    subst e
    obtain ⟨⟨r, s', hk, e⟩, hn⟩ := id w2
    have hk4 := hk.2.2.2
    have := ih (i + 1) b (by omega) ⟨_, k, h2, w2⟩ (by rw [e]; exact hk4) (by rw [e]; show a2.2.2.2 - 1 = _; omega)
    refine ⟨k, r, s', hk.1, w3, hk.2.1, hk.2.2.1, ?_⟩
    rw [e] at this
    exact this
theorem lm_without {y : Sy} {ex q : Int} {t : List Int} {p : Int} {s : List Int} {W n : Int} (hl : lm y.2.2.2.2 (-6) p s q t = some (W, n)) (hr : RW y.2.2.2.2 ex p s q t W n) : lm y.2.2.2.2 ex p s q t = some (W, n) := by
  have h := lm_some.mp hl
  refine lm_some.mpr ⟨hr, h.2.1, fun W2 n2 ⟨k, e, r⟩ => h.2.2 W2 n2 ⟨k, e, r.mono⟩⟩
def difR (y : Sy) (p w : Int) (k : Nat) : Prop := wv (lmS y k p (dgs w)) ≠ wv (lmS y (-6) p (dgs w))
noncomputable def crB (f : Nat → Prop) : Nat → Nat
  | 0 => 0
  | k + 1 => by
    classical
    exact if f k then crB f k ||| 2 ^ k else crB f k
theorem crB_lt (f : Nat → Prop) : ∀ k, k ≤ 20 → crB f k < 1048576
  | 0, _ => by unfold crB; omega
  | k + 1, h => by
    have := crB_lt f k (by omega)
    unfold crB
    split
    · exact or_lt20 this (by omega)
    · exact this
noncomputable def sCrit (y : Sy) (p w : Int) : Int := by
  classical
  exact if askd y p w then (if lmS y (-6) p (dgs w) = none then -6 else ((crB (difR y p w) y.2.2.2.2.length : Nat) : Int)) else -1
theorem tb_ones {c k : Nat} (h : k < c) : (2 ^ c - 1).testBit k = true := by
  rw [Nat.testBit_two_pow_sub_one]
  simpa using h
theorem c_X9_rulesOfWitness {MO : Mem → Sy → Prop} (hMO : MOc MO) (mem : Mem) (y : Sy) (hy : SR mem 1 y) (hc : CA MO mem y) (p w W n : Int) (ha : AIM mem y p (dgs w)) (hl : lmS y (-6) p (dgs w) = some (W, n)) : CtrI mX9_rulesOfWitness [aR 0] mem (fun z m => ∃ U : Nat, (U : Int) = z ∧ U < 1048576 ∧ frT mem m ∧ CA MO m y ∧ ∀ k : Nat, k < y.2.2.2.2.length → difR y p w k → U.testBit k = true) := by
  have f := hy.facts
  obtain ⟨a1, a2, a3, a4, a5, hcn⟩ := eA hy
  have ok := hy.2.2.1
  have hlen := ok.2.2.2.2.1
  refine Ctr.ofV (ls := [aR 0]) rfl (by decide) rfl (Nat.le_of_ble_eq_true rfl) ?_
  refine v_aload_n (j := 0) (q := 1) rfl dX9_rulesOfWitness_0 rfl ?_
  refine v_getR (p' := 78) (q := 4) dX9_rulesOfWitness_1 fl_X9_80 kd_0 rfl (rfc_9_12 kd_0) rfl ?_
  refine v_aload_n (j := 0) (q := 5) rfl dX9_rulesOfWitness_4 rfl ?_
  refine v_getR (p' := 42) (q := 8) dX9_rulesOfWitness_5 fl_X9_67 kd_0 rfl (rfc_9_9 kd_0) rfl ?_
  refine v_aload_n (j := 0) (q := 9) rfl dX9_rulesOfWitness_8 rfl ?_
  refine v_getR (p' := 29) (q := 12) dX9_rulesOfWitness_9 fl_X9_46 kd_0 rfl (rfc_9_6 kd_0) rfl ?_
  refine v_cVV2 (q := 15) dX9_rulesOfWitness_12 mlX9_186 mdX7_follow (by decide) kd_78 rfl rfl ⟨Nat.le_refl 0, Nat.le_refl 0⟩ (by exact Nat.le_of_ble_eq_true rfl) rfl (c_X7_follow mem y p (dgs w) W n ha hl) ?_
  rintro m3 ⟨g1, g2, g3⟩
  have ca3 := AIM.fol hMO hc ha g1 ⟨g2, g3⟩
  obtain ⟨W2, n2, i, U, y1, y2, y3, y4, y5, y6, y7⟩ := g3
  have e1 := Option.some.inj (hl.symm.trans y1)
  have e2 : W = W2 := congrArg Prod.fst e1
  have e3 : n = n2 := congrArg Prod.snd e1
  subst e2
  subst e3
  have h01 := bI_01 (n ≤ 301)
  have c1 : m3 1 4 = (y.2.2.2.2.length : Nat) := (by rw [g1.1 1 (by omega) (by omega) (by omega) (by omega) (by omega)]; exact hcn.symm)
  refine v_aload_n (j := 0) (q := 16) rfl dX9_rulesOfWitness_15 rfl ?_
  refine v_getR (p' := 78) (q := 19) dX9_rulesOfWitness_16 fl_X9_80 kd_0 rfl (rfc_9_12 kd_0) rfl ?_
  refine v_getI (j := 1) (q := 22) dX9_rulesOfWitness_19 fl_X9_292 kd_78 rfl rfl rfl ?_
  rw [y4]
  refine v_if_eq (tgt := 35) (q := 25) dX9_rulesOfWitness_22 (by decide) rfl (by omega) (fun h22 => ?_) (fun h22 => ?_)
  · have h2 : (2 : Nat) ^ y.2.2.2.2.length ≤ 1048576 := (show (2 : Nat) ^ 20 = 1048576 from rfl) ▸ Nat.pow_le_pow_right (by omega) hlen
    have h3 : 1 ≤ (2 : Nat) ^ y.2.2.2.2.length := Nat.one_le_two_pow
    refine v_iconst (q := 36) dX9_rulesOfWitness_35 rfl ?_
    refine v_aload_n (j := 0) (q := 37) rfl dX9_rulesOfWitness_36 rfl ?_
    refine v_getR (p' := 1) (q := 40) dX9_rulesOfWitness_37 fl_X9_12 kd_0 rfl (rfc_9_0 kd_0) rfl ?_
    refine v_getI (j := 4) (q := 43) dX9_rulesOfWitness_40 fl_X9_93 kd_1 rfl rfl rfl ?_
    rw [c1]
    refine v_ishl (q := 44) (shl1b hlen) dX9_rulesOfWitness_43 rfl ?_
    refine v_iconst (q := 45) dX9_rulesOfWitness_44 rfl ?_
    refine v_isub (q := 46) dX9_rulesOfWitness_45 rfl ?_
    refine v_iret dX9_rulesOfWitness_46 ?_
    first
      | (refine ⟨_, rfl, U, rfl, y6.1, g1, ca3, fun k hk hd => Classical.byContradiction (fun hn => hd ?_)⟩
         have h301 : n ≤ 301 := Classical.byContradiction (fun h => h22 (bI_f h))
         have hi : (i : Int) = n := by omega
         have hu : ∀ j : Nat, j < i → ∃ a k9 b, wAt y.2.2.2.2 p (dgs w) j (stC y W n) a ∧ wF y.2.2.2.2 p (dgs w) a k9 b ∧ (k9 : Int) ≠ k := fun j hj => by
           obtain ⟨a, k9, b, w1, w2, w3, -⟩ := y7 j hj
           exact ⟨a, k9, b, w1, w2, fun e => hn ((y6.2 k (by omega)).mpr ⟨j, hj, by rw [w3, e]⟩)⟩
         have hr := wit_run ok (k : Int) hi hu hl i 0 (stC y W n) (by omega) rfl hl (by show n = n - (0 : Nat); omega)
         have := lm_without (ex := k) hl ⟨i, hi, hr⟩
         show wv (lmS y k p (dgs w)) = wv (lmS y (-6) p (dgs w))
         rw [hl]
         unfold lmS
         rw [this])
      | exact ⟨_, rfl, 2 ^ y.2.2.2.2.length - 1, by omega, by omega, g1, ca3, fun k hk _ => tb_ones hk⟩
  · refine v_aload_n (j := 0) (q := 26) rfl dX9_rulesOfWitness_25 rfl ?_
    refine v_getR (p' := 78) (q := 29) dX9_rulesOfWitness_26 fl_X9_80 kd_0 rfl (rfc_9_12 kd_0) rfl ?_
    refine v_getI (j := 3) (q := 32) dX9_rulesOfWitness_29 fl_X9_295 kd_78 rfl rfl rfl ?_
    rw [y5]
    refine v_goto (q := 46) dX9_rulesOfWitness_32 (by decide) ?_
    refine v_iret dX9_rulesOfWitness_46 ?_
    first
      | (refine ⟨_, rfl, U, rfl, y6.1, g1, ca3, fun k hk hd => Classical.byContradiction (fun hn => hd ?_)⟩
         have h301 : n ≤ 301 := Classical.byContradiction (fun h => h22 (bI_f h))
         have hi : (i : Int) = n := by omega
         have hu : ∀ j : Nat, j < i → ∃ a k9 b, wAt y.2.2.2.2 p (dgs w) j (stC y W n) a ∧ wF y.2.2.2.2 p (dgs w) a k9 b ∧ (k9 : Int) ≠ k := fun j hj => by
           obtain ⟨a, k9, b, w1, w2, w3, -⟩ := y7 j hj
           exact ⟨a, k9, b, w1, w2, fun e => hn ((y6.2 k (by omega)).mpr ⟨j, hj, by rw [w3, e]⟩)⟩
         have hr := wit_run ok (k : Int) hi hu hl i 0 (stC y W n) (by omega) rfl hl (by show n = n - (0 : Nat); omega)
         have := lm_without (ex := k) hl ⟨i, hi, hr⟩
         show wv (lmS y k p (dgs w)) = wv (lmS y (-6) p (dgs w))
         rw [hl]
         unfold lmS
         rw [this])
      | exact ⟨_, rfl, 2 ^ y.2.2.2.2.length - 1, by omega, by omega, g1, ca3, fun k hk _ => tb_ones hk⟩
theorem l_X9_crit {Post : AV → Mem → Prop} {MO : Mem → Sy → Prop} (hMO : MOc MO) (mem : Mem) (y : Sy) (hy : SR mem 1 y) (p w z : Int) (hk9 : askd y p w) (hwd : WdIs mem 25 (dgs w)) (hz : 0 ≤ z ∧ z < 16777232777216) (hwz : wv (lmS y (-6) p (dgs w)) = z / 16777216) (U : Nat) (hU : U < 1048576) (hUd : ∀ k : Nat, k < y.2.2.2.2.length → difR y p w k → U.testBit k = true) (K : ∀ m, (∀ q, q ≠ 0 → (q < 29 ∨ 115 < q) → m q = mem q) → CA MO m y → Post (aI ((crB (difR y p w) y.2.2.2.2.length : Nat) : Int)) m) :
    ∀ (j k : Nat) (M : Mem), k + j = y.2.2.2.2.length → (∀ q, q ≠ 0 → (q < 29 ∨ 115 < q) → M q = mem q) → CA MO M y →
    V cX9_critical RX9 8 (some .int) (rmk 7 171) (mE Post) 40 [aR 0, aI p, aI w, aL z, aU, aI U, aI ((crB (difR y p w) k : Nat) : Int), aI k] [] M := by
  have f := hy.facts
  obtain ⟨a1, a2, a3, a4, a5, hcn⟩ := eA hy
  have ok := hy.2.2.1
  have hlen := ok.2.2.2.2.1
  intro j
  induction j with
  | zero =>
    intro k M h1 hM hc
    have hk : k = y.2.2.2.2.length := by omega
    have c1 : M 1 4 = (y.2.2.2.2.length : Nat) := by rw [hM 1 (by omega) (by omega)]; exact hcn.symm
    refine v_iload (j := 7) (q := 42) rfl dX9_critical_40 rfl ?_
    refine v_aload_n (j := 0) (q := 43) rfl dX9_critical_42 rfl ?_
    refine v_getR (p' := 1) (q := 46) dX9_critical_43 fl_X9_12 kd_0 rfl (rfc_9_0 kd_0) rfl ?_
    refine v_getI (j := 4) (q := 49) dX9_critical_46 fl_X9_93 kd_1 rfl rfl rfl ?_
    rw [c1]
    refine v_icmp_ge (tgt := 94) (q := 52) dX9_critical_49 (by decide) rfl (by omega) (by omega) (fun h49 => ?_) (fun h49 => ?_)
    · refine v_iload (j := 6) (q := 96) rfl dX9_critical_94 rfl ?_
      refine v_iret dX9_critical_96 ?_
      rw [hk]
      exact K M hM hc
    · exact absurd h49 (by omega)
  | succ j ih =>
    intro k M h1 hM hc
    have c1 : M 1 4 = (y.2.2.2.2.length : Nat) := by rw [hM 1 (by omega) (by omega)]; exact hcn.symm
    have hk20 : k < 20 := by omega
    have hU1 : U / 2 ^ k < 2147483648 := Nat.lt_of_le_of_lt (Nat.div_le_self _ _) (by omega)
    have hcr := crB_lt (difR y p w) k (by omega)
    have hpw : (2 : Nat) ^ k < 1048576 := Nat.pow_lt_pow_right (a := 2) (m := k) (n := 20) (by omega) hk20
    have hor := or_lt20 hcr hk20
    have sM : SR M 1 y := hy.congr (hM 1 (by omega) (by omega)) (hM 2 (by omega) (by omega))
    have wM : WdIs M 25 (dgs w) := hwd.congr (hM 25 (by omega) (by omega)) (hM 26 (by omega) (by omega))
    have no : ¬ difR y p w k → crB (difR y p w) (k + 1) = crB (difR y p w) k := fun h => by conv => lhs; unfold crB; rw [if_neg h]
    have ye : difR y p w k → crB (difR y p w) (k + 1) = crB (difR y p w) k ||| 2 ^ k := fun h => by conv => lhs; unfold crB; rw [if_pos h]
    refine v_iload (j := 7) (q := 42) rfl dX9_critical_40 rfl ?_
    refine v_aload_n (j := 0) (q := 43) rfl dX9_critical_42 rfl ?_
    refine v_getR (p' := 1) (q := 46) dX9_critical_43 fl_X9_12 kd_0 rfl (rfc_9_0 kd_0) rfl ?_
    refine v_getI (j := 4) (q := 49) dX9_critical_46 fl_X9_93 kd_1 rfl rfl rfl ?_
    rw [c1]
    refine v_icmp_ge (tgt := 94) (q := 52) dX9_critical_49 (by decide) rfl (by omega) (by omega) (fun h49 => ?_) (fun h49 => ?_)
    · exact absurd h49 (by omega)
    · refine v_iload (j := 5) (q := 54) rfl dX9_critical_52 rfl ?_
      refine v_iload (j := 7) (q := 56) rfl dX9_critical_54 rfl ?_
      refine v_ishr (q := 57) (shrN (by omega) hk20) dX9_critical_56 rfl ?_
      refine v_iconst (q := 58) dX9_critical_57 rfl ?_
      refine v_iand (q := 59) (and1 hU1) dX9_critical_58 rfl ?_
      refine v_if_eq (tgt := 88) (q := 62) dX9_critical_59 (by decide) rfl (by omega) (fun h59 => ?_) (fun h59 => ?_)
      · refine v_iinc7 (q := 91) rfl dX9_critical_88 (by decide) rfl ?_
        refine v_goto (q := 40) dX9_critical_91 (by decide) ?_
        first
          | (have hd : ¬ difR y p w k := fun h => by
               have h9 := (tb_div U k).mp (hUd k (by omega) h)
               omega
             have hk := ih (k + 1) M (by omega) hM hc
             rw [no hd] at hk
             exact hk)
          | (have hk := ih (k + 1) M2 (by omega) hM2 g4
             rw [no hd] at hk
             exact hk)
          | (have hk := ih (k + 1) M2 (by omega) hM2 g4
             rw [ye hd] at hk
             exact hk)
      · refine v_aload_n (j := 0) (q := 63) rfl dX9_critical_62 rfl ?_
        refine v_iload (j := 7) (q := 65) rfl dX9_critical_63 rfl ?_
        refine v_iload_n (j := 1) (q := 66) rfl dX9_critical_65 rfl ?_
        refine v_cVL2 (q := 69) dX9_critical_66 mlX9_235 mdX9_costWithout (by decide) kd_0 rfl rfl ⟨Nat.le_refl 0, Nat.le_refl 0⟩ (by exact Nat.le_of_ble_eq_true rfl) rfl (c_X9_costWithout hMO M y sM hc k p (dgs w) (by omega) hk9.1 hk9.d.1 hk9.d.2 wM) ?_
        rintro z2 M2 ⟨g1, g3, g4, g5⟩
        obtain ⟨hy9, hy1, hy2⟩ := lm_C ok g3
        have wz2 : wv (lmS y k p (dgs w)) = if 16777232777216 ≤ z2 then -6 else z2 / 16777216 := wv_C ok g3
        have hM2 : ∀ q, q ≠ 0 → (q < 29 ∨ 115 < q) → M2 q = mem q := fun q h3 h4 => (by rw [g1 q h3 (by omega)]; exact hM q h3 h4)
        refine v_cSI1 (q := 72) dX9_critical_69 mlX9_196 mdX9_weightOf (by decide) ⟨Nat.le_refl 0, Nat.le_refl 0⟩ (by exact Nat.le_of_ble_eq_true rfl) rfl (c_X9_weightOf z2 M2 (by omega)) ?_
        rintro _ _ ⟨rfl, rfl⟩
        refine v_lload_n (j := 3) (q := 73) rfl dX9_critical_72 rfl ?_
        refine v_cSI1 (q := 76) dX9_critical_73 mlX9_196 mdX9_weightOf (by decide) ⟨Nat.le_refl 0, Nat.le_refl 0⟩ (by exact Nat.le_of_ble_eq_true rfl) rfl (c_X9_weightOf z M2 (by omega)) ?_
        rintro _ _ ⟨rfl, rfl⟩
        refine v_icmp_eq (tgt := 88) (q := 79) dX9_critical_76 (by decide) rfl (by omega) (by omega) (fun h76 => ?_) (fun h76 => ?_)
        · have hd : ¬ difR y p w k := (by unfold difR; rw [hwz, wz2, if_neg (by omega)]; exact fun h => h h76)
          refine v_iinc7 (q := 91) rfl dX9_critical_88 (by decide) rfl ?_
          refine v_goto (q := 40) dX9_critical_91 (by decide) ?_
          first
            | (have hd : ¬ difR y p w k := fun h => by
                 have h9 := (tb_div U k).mp (hUd k (by omega) h)
                 omega
               have hk := ih (k + 1) M (by omega) hM hc
               rw [no hd] at hk
               exact hk)
            | (have hk := ih (k + 1) M2 (by omega) hM2 g4
               rw [no hd] at hk
               exact hk)
            | (have hk := ih (k + 1) M2 (by omega) hM2 g4
               rw [ye hd] at hk
               exact hk)
        · have hd : difR y p w k := (by unfold difR; rw [hwz, wz2]; by_cases hb : 16777232777216 ≤ z2; (rw [if_pos hb]; omega); (rw [if_neg hb]; exact h76))
          refine v_iload (j := 6) (q := 81) rfl dX9_critical_79 rfl ?_
          refine v_iconst (q := 82) dX9_critical_81 rfl ?_
          refine v_iload (j := 7) (q := 84) rfl dX9_critical_82 rfl ?_
          refine v_ishl (q := 85) (shl1 hk20) dX9_critical_84 rfl ?_
          refine v_ior (q := 86) (or32 (by omega) (by omega)) dX9_critical_85 rfl ?_
          refine v_ist6 (q := 88) rfl dX9_critical_86 (by decide) rfl ?_
          refine v_iinc7 (q := 91) rfl dX9_critical_88 (by decide) rfl ?_
          refine v_goto (q := 40) dX9_critical_91 (by decide) ?_
          first
            | (have hd : ¬ difR y p w k := fun h => by
                 have h9 := (tb_div U k).mp (hUd k (by omega) h)
                 omega
               have hk := ih (k + 1) M (by omega) hM hc
               rw [no hd] at hk
               exact hk)
            | (have hk := ih (k + 1) M2 (by omega) hM2 g4
               rw [no hd] at hk
               exact hk)
            | (have hk := ih (k + 1) M2 (by omega) hM2 g4
               rw [ye hd] at hk
               exact hk)
theorem c_X9_critical {MO : Mem → Sy → Prop} (hMO : MOc MO) (p w : Int) (mem : Mem) (A : AS) (h : KI MO mem A) (hp : R32 p) (hw : R32 w) : CtrI mX9_critical [aR 0, aI p, aI w] mem (fun z m => sCrit A.1 p w = z ∧ KQ MO mem A m) := by
  have f := h.1.1.facts
  obtain ⟨a1, a2, a3, a4, a5, hc⟩ := eA h.1.1
  have ok := h.1.1.2.2.1
  refine Ctr.ofV (ls := [aR 0, aI p, aI w, aU, aU, aU, aU, aU]) rfl (by decide) rfl (Nat.le_of_ble_eq_true rfl) ?_
  refine v_aload_n (j := 0) (q := 1) rfl dX9_critical_0 rfl ?_
  refine v_iload_n (j := 1) (q := 2) rfl dX9_critical_1 rfl ?_
  refine v_iload_n (j := 2) (q := 3) rfl dX9_critical_2 rfl ?_
  refine v_cVI2 (q := 6) dX9_critical_3 mlX9_169 mdX9_isAsked (by decide) kd_0 rfl rfl ⟨Nat.le_refl 0, Nat.le_refl 0⟩ (by exact Nat.le_of_ble_eq_true rfl) rfl (c_X9_isAsked p w mem hp hw (by omega) (by omega)) ?_
  rw [← a1, ← a2]
  rintro z0 m1 ⟨rfl, t1, t2⟩
  have h1 := h.wd hMO t1
  refine v_if_neB (tgt := 11) (q := 9) dX9_critical_6 (by decide) rfl (fun h6 => ?_) (fun h6 => ?_)
  · have hk9 : askd A.1 p w := h6
    refine v_aload_n (j := 0) (q := 12) rfl dX9_critical_11 rfl ?_
    refine v_iload_n (j := 1) (q := 13) rfl dX9_critical_12 rfl ?_
    refine v_cVL1 (q := 16) dX9_critical_13 mlX9_173 mdX9_costTo (by decide) kd_0 rfl rfl ⟨Nat.le_refl 0, Nat.le_refl 0⟩ (by exact Nat.le_of_ble_eq_true rfl) rfl (c_X9_costTo hMO m1 A.1 h1.1.1 h1.2 p (dgs w) hk9.1 hk9.d.1 hk9.d.2 (t2 hk9.2.1 hk9.1)) ?_
    rintro z m2 ⟨o1, o2, o3, o4, o5, o6, o7⟩
    obtain ⟨hz, hz1, hz2⟩ := lm_C ok o3
    have lo2 : ∀ q, q ≠ 0 → (q < 29 ∨ 115 < q) → m2 q = m1 q := fun q h3 h4 => o1 q h3 (by omega)
    have sr2 : SR m2 1 A.1 := h1.1.1.congr (lo2 1 (by decide) (by decide)) (lo2 2 (by decide) (by decide))
    have w2 : WdIs m2 25 (dgs w) := (t2 hk9.2.1 hk9.1).congr (lo2 25 (by decide) (by decide)) (lo2 26 (by decide) (by decide))
    refine v_lst3 (q := 17) rfl dX9_critical_16 (by decide) rfl ?_
    refine v_lload_n (j := 3) (q := 18) rfl dX9_critical_17 rfl ?_
    refine v_ldc2 (n := 16777232777216) (q := 21) klX9_181 rfl dX9_critical_18 rfl ?_
    refine v_lcmp_lt (tgt := 28) (q := 25) dX9_critical_21 dX9_critical_22 (by decide) rfl (by omega) (by omega) (fun h21 => ?_) (fun h21 => ?_)
    · refine v_aload_n (j := 0) (q := 29) rfl dX9_critical_28 rfl ?_
      refine v_cVI0 (q := 32) dX9_critical_29 mlX9_238 mdX9_rulesOfWitness (by decide) kd_0 rfl rfl ⟨Nat.le_refl 0, Nat.le_refl 0⟩ (by exact Nat.le_of_ble_eq_true rfl) rfl (c_X9_rulesOfWitness hMO m2 A.1 sr2 o4 p w _ _ o7 (hz1 (by omega)).1) ?_
      rintro _ m3 ⟨U, rfl, hU, g1, ca3, hUd⟩
      have lo3 : ∀ q, q ≠ 0 → (q < 29 ∨ 115 < q) → m3 q = m1 q := fun q h3 h4 => (by rw [g1.1 q (by omega) (by omega) (by omega) (by omega) (by omega)]; exact lo2 q h3 h4)
      refine v_ist5 (q := 34) rfl dX9_critical_32 (by decide) rfl ?_
      refine v_iconst (q := 35) dX9_critical_34 rfl ?_
      refine v_ist6 (q := 37) rfl dX9_critical_35 (by decide) rfl ?_
      refine v_iconst (q := 38) dX9_critical_37 rfl ?_
      refine v_ist7 (q := 40) rfl dX9_critical_38 (by decide) rfl ?_
      have wz : wv (lmS A.1 (-6) p (dgs w)) = z / 16777216 := by have := wv_C ok o3; rw [if_neg (by omega)] at this; exact this
      have nn : ¬ lmS A.1 (-6) p (dgs w) = none := fun e => by unfold lmS at e; rw [(hz1 (by omega)).1] at e; cases e
      have sr3 : SR m3 1 A.1 := h1.1.1.congr (lo3 1 (by decide) (by decide)) (lo3 2 (by decide) (by decide))
      have w3 : WdIs m3 25 (dgs w) := (t2 hk9.2.1 hk9.1).congr (lo3 25 (by decide) (by decide)) (lo3 26 (by decide) (by decide))
      refine l_X9_crit hMO m3 A.1 sr3 p w z hk9 w3 (by omega) wz U hU hUd (fun m e3 e4 => ?_) A.1.2.2.2.2.length 0 m3 (by omega) (fun _ _ _ => rfl) ca3
      refine ⟨_, rfl, ?_, KQ.of h1.1 t1 (fun q h3 h4 => by rw [e3 q h3 h4]; exact lo3 q h3 h4) e4⟩
      unfold sCrit
      rw [if_pos hk9, if_neg nn]
    · refine v_bipush (q := 27) (by decide) dX9_critical_25 rfl ?_
      refine v_iret dX9_critical_27 ?_
      exact ⟨_, rfl, by unfold sCrit; rw [if_pos hk9, if_pos (by unfold lmS; exact hz2 (by omega))], KQ.of h1.1 t1 lo2 o4⟩
  · refine v_iconst (q := 10) dX9_critical_9 rfl ?_
    refine v_iret dX9_critical_10 ?_
    exact ⟨_, rfl, by unfold sCrit; rw [if_neg (show ¬ askd A.1 p w from h6)], h1.1, h1.2, fun q hq => t1 q (by omega) (by omega)⟩
