/-! ===== Trace.follow, part; StackLab.witness ===== -/
theorem lm_left {y : Sy} (ok : okS y) {p : Int} {s : List Int} {q : Int} {t : List Int} {z W n : Int} (h : TMn NO (RC BB y.2.2.2.2 (-6) p s q t) z) (hl : lm y.2.2.2.2 (-6) p s q t = some (W, n)) : z = W * 16777216 + n := by
  obtain ⟨a, b, c⟩ := lm_C ok h
  by_cases hz : z < 16777232777216
  · have e := (b hz).1
    rw [hl] at e
    have e := Option.some.inj e
    have e1 : W = z / 16777216 := congrArg Prod.fst e
    have e2 : n = z % 16777216 := congrArg Prod.snd e
    omega
  · rw [c (by omega)] at hl
    cases hl
theorem c_X7_follow (mem : Mem) (y : Sy) (q : Int) (t : List Int) (W n : Int) (ha : AIM mem y q t) (hl : lm y.2.2.2.2 (-6) y.2.2.1 (dgs y.2.2.2.1) q t = some (W, n)) : CtrV mX7_follow [aR 78, aR 42, aR 29] mem (fun m => frT mem m ∧ m 78 0 = 1 ∧ TRC m y q t) := by
  obtain ⟨h0, hq, h3, hfol⟩ := ha
  have ok := h0.1
  have h01 : mem 78 0 = 0 ∨ mem 78 0 = 1 := hfol.elim Or.inl (fun h => Or.inr h.1)
  have e29 : mem 29 2 = y.2.2.1 := hq.1.2.2.1
  refine Ctr.ofV (ls := [aR 78, aR 42, aR 29, aU, aU, aU, aU, aU]) rfl (by decide) rfl (Nat.le_of_ble_eq_true rfl) ?_
  refine v_aload_n (j := 0) (q := 1) rfl dX7_follow_0 rfl ?_
  refine v_getI (j := 0) (q := 4) dX7_follow_1 fl_X7_9 kd_78 rfl rfl rfl ?_
  refine v_if_eq (tgt := 8) (q := 7) dX7_follow_4 (by decide) rfl (by omega) (fun h4 => ?_) (fun h4 => ?_)
  · refine v_aload_n (j := 2) (q := 9) rfl dX7_follow_8 rfl ?_
    refine v_getI (j := 2) (q := 12) dX7_follow_9 fl_X7_38 kd_29 rfl rfl rfl ?_
    rw [e29]
    refine v_ist3 (q := 13) rfl dX7_follow_12 (by decide) rfl ?_
    refine v_aload_n (j := 1) (q := 14) rfl dX7_follow_13 rfl ?_
    refine v_iload_n (j := 3) (q := 15) rfl dX7_follow_14 rfl ?_
    refine v_aload_n (j := 2) (q := 16) rfl dX7_follow_15 rfl ?_
    refine v_getR (p' := 30) (q := 19) dX7_follow_16 fl_X7_43 kd_29 rfl (rfc_2_3 kd_29) rfl ?_
    refine v_cVL2 (q := 22) dX7_follow_19 mlX7_47 mdX3_costFrom (by decide) kd_42 rfl rfl ⟨Nat.le_refl 0, Nat.le_refl 0⟩ (by exact Nat.le_of_ble_eq_true rfl) rfl (c_X3_costFrom 42 30 mem y (-6) q t (dgs y.2.2.2.1) y.2.2.1 h0 hq (by unfold isWd; decide) ok.st.1 (by have := ok.st.2; omega) hq.1.2.2.2.1 ok.2.2.1) ?_
    rintro z m1 ⟨f1, f2, f3, f4, f5, f6⟩
    have hz := lm_left ok f6 hl
    refine v_lst4 (q := 24) rfl dX7_follow_22 (by decide) rfl ?_
    refine v_aload_n (j := 0) (q := 25) rfl dX7_follow_24 rfl ?_
    refine v_iconst (q := 26) dX7_follow_25 rfl ?_
    refine v_putI (j := 2) (q := 29) dX7_follow_26 fl_X7_18 kd_78 rfl rfl rfl ?_
    refine v_aload_n (j := 0) (q := 30) rfl dX7_follow_29 rfl ?_
    refine v_iconst (q := 31) dX7_follow_30 rfl ?_
    refine v_putI (j := 3) (q := 34) dX7_follow_31 fl_X7_22 kd_78 rfl rfl rfl ?_
    refine v_iconst (q := 35) dX7_follow_34 rfl ?_
    refine v_ist6 (q := 37) rfl dX7_follow_35 (by decide) rfl ?_
    obtain ⟨X, hX⟩ : ∃ X, X = um (um m1 78 2 0) 78 3 0 := ⟨_, rfl⟩
    have xO : ∀ p, p ≠ 78 → X p = m1 p := fun p hp => by rw [hX, um_ne _ _ _ hp, um_ne _ _ _ hp]
    have fr : frT mem X := by
      refine ⟨fun p a1 a2 a3 a4 a5 => by rw [xO p (by omega)]; exact f1 p a1 a2 a3 a4, fun j hj => ?_⟩
      rw [xO 42 (by decide)]
      by_cases e : j = 0
      · rw [e, f3]; exact f6.uniq h3
      · exact f2 j e hj
    have hk := l_X7_follow mem y q t W n h0 hq hl 301 0 X (stC y W n) 0 aU (by omega) fr (by rw [xO 42 (by decide)]; exact f4) (f5.congr ok.1.2 (fun i _ => by rw [xO _ (by decide)]) (fun i _ => by rw [xO _ (by decide)]) (fun i _ => by rw [xO _ (by decide)])) (by rw [hX, um_same, ui_ne _ _ (by omega), um_same, ui_same]; rfl) (by rw [hX, um_same, ui_same]; rfl) ⟨by omega, fun k _ => by rw [Nat.zero_testBit]; exact ⟨fun h => absurd h (by decide), fun ⟨j, h, _⟩ => absurd h (by omega)⟩⟩ (fun j h => absurd h (by omega)) rfl hl ok.2.2.1 ok.st.1 (by have := ok.st.2; show (dgs y.2.2.2.1).length ≤ _; omega) (by show n = n - (0 : Nat); omega)
    rw [← hX, hz]
    exact hk
  · refine v_vret dX7_follow_7 ?_
    have g := hfol.resolve_left (by omega)
    exact ⟨rfl, ⟨fun _ _ _ _ _ _ => rfl, fun _ _ => rfl⟩, g.1, g.2⟩
theorem c_X7_part (k w : Int) (mem : Mem) (hk : 0 ≤ k ∧ k < 301) (hw : 0 ≤ w ∧ w ≤ 3) : CtrI mX7_part [aR 78, aI k, aI w] mem (fun z m => mem = m ∧ (if w = 0 then mem 79 k else if w = 1 then mem 80 k else if w = 2 then mem 81 k else mem 82 k) = z) := by
  refine Ctr.ofV (ls := [aR 78, aI k, aI w]) rfl (by decide) rfl (Nat.le_of_ble_eq_true rfl) ?_
  refine v_iload_n (j := 2) (q := 1) rfl dX7_part_0 rfl ?_
  rcases (show (w < 0 ∨ 2 < w) ∨ w = 0 ∨ w = 1 ∨ w = 2 by omega) with hsw | rfl | rfl | rfl
  · refine v_tableOut (tgt := 49) dX7_part_1 (by omega) hsw (by decide) ?_
    refine v_aload_n (j := 0) (q := 50) rfl dX7_part_49 rfl ?_
    refine v_getR (p' := 82) (q := 53) dX7_part_50 fl_X7_35 kd_78 rfl (rfc_7_7 kd_78) rfl ?_
    refine v_iload_n (j := 1) (q := 54) rfl dX7_part_53 rfl ?_
    refine v_iald (q := 55) dX7_part_54 kd_82 (by omega) (by omega) rfl ?_
    refine v_iret dX7_part_55 ?_
    exact ⟨_, rfl, rfl, by rw [if_neg (by omega), if_neg (by omega), if_neg (by omega)]⟩
  · refine v_tableIn (tgt := 28) dX7_part_1 (by omega) (by omega) (by omega) rfl (by decide) ?_
    refine v_aload_n (j := 0) (q := 29) rfl dX7_part_28 rfl ?_
    refine v_getR (p' := 79) (q := 32) dX7_part_29 fl_X7_25 kd_78 rfl (rfc_7_4 kd_78) rfl ?_
    refine v_iload_n (j := 1) (q := 33) rfl dX7_part_32 rfl ?_
    refine v_iald (q := 34) dX7_part_33 kd_79 (by omega) (by omega) rfl ?_
    refine v_iret dX7_part_34 ?_
    exact ⟨_, rfl, rfl, rfl⟩
  · refine v_tableIn (tgt := 35) dX7_part_1 (by omega) (by omega) (by omega) rfl (by decide) ?_
    refine v_aload_n (j := 0) (q := 36) rfl dX7_part_35 rfl ?_
    refine v_getR (p' := 80) (q := 39) dX7_part_36 fl_X7_29 kd_78 rfl (rfc_7_5 kd_78) rfl ?_
    refine v_iload_n (j := 1) (q := 40) rfl dX7_part_39 rfl ?_
    refine v_iald (q := 41) dX7_part_40 kd_80 (by omega) (by omega) rfl ?_
    refine v_iret dX7_part_41 ?_
    exact ⟨_, rfl, rfl, rfl⟩
  · refine v_tableIn (tgt := 42) dX7_part_1 (by omega) (by omega) (by omega) rfl (by decide) ?_
    refine v_aload_n (j := 0) (q := 43) rfl dX7_part_42 rfl ?_
    refine v_getR (p' := 81) (q := 46) dX7_part_43 fl_X7_32 kd_78 rfl (rfc_7_6 kd_78) rfl ?_
    refine v_iload_n (j := 1) (q := 47) rfl dX7_part_46 rfl ?_
    refine v_iald (q := 48) dX7_part_47 kd_81 (by omega) (by omega) rfl ?_
    refine v_iret dX7_part_48 ?_
    exact ⟨_, rfl, rfl, rfl⟩
def witA (a : Cf) (j : Nat) (w : Int) : Int := if w = 0 then j else if w = 1 then a.1 else if w = 2 then a.2.1.getD 0 0 else a.2.1.length
def sWit (y : Sy) (p w k what z : Int) : Prop := (¬ askd y p w ∧ z = -1) ∨ (askd y p w ∧ ((¬ ((0 ≤ k ∧ k ≤ 300) ∧ (0 ≤ what ∧ what ≤ 3)) ∧ z = -2) ∨ (((0 ≤ k ∧ k ≤ 300) ∧ (0 ≤ what ∧ what ≤ 3)) ∧ ((lmS y (-6) p (dgs w) = none ∧ z = -6) ∨ ∃ W n, lmS y (-6) p (dgs w) = some (W, n) ∧ ((n ≤ k ∧ z = -6) ∨ (k < n ∧ ∃ a j b, wAt y.2.2.2.2 p (dgs w) k.toNat (stC y W n) a ∧ wF y.2.2.2.2 p (dgs w) a j b ∧ z = witA a j what))))))
theorem AIM.fol {MO : Mem → Sy → Prop} (hMO : MOc MO) {mem m : Mem} {y : Sy} {q : Int} {t : List Int} (hc : CA MO mem y) (h : AIM mem y q t) (h1 : frT mem m) (h2 : m 78 0 = 1 ∧ TRC m y q t) : CA MO m y := by
  obtain ⟨a, b, c, d, e, f, g⟩ := hc
  obtain ⟨a1, a2, a3, a4⟩ := h
  have lo : ∀ p, p ≠ 42 → p ≠ 51 → p ≠ 52 → p ≠ 53 → (p < 78 ∨ 82 < p) → m p = mem p := h1.1
  refine ⟨?_, ?_, ?_, by rw [h1.2 9 (by omega)]; exact d, by rw [lo 54 (by omega) (by omega) (by omega) (by omega) (by omega)]; exact e, by rw [lo 66 (by omega) (by omega) (by omega) (by omega) (by omega)]; exact f, g.congr (lo 27 (by omega) (by omega) (by omega) (by omega) (by omega)) (lo 28 (by omega) (by omega) (by omega) (by omega) (by omega))⟩
  · rw [lo 0 (by omega) (by omega) (by omega) (by omega) (by omega)]
    exact a.elim Or.inl (fun x => Or.inr ⟨x.1, x.2.congr (fun p _ _ => lo p (by omega) (by omega) (by omega) (by omega) (by omega))⟩)
  · rw [h1.2 2 (by omega), lo 0 (by omega) (by omega) (by omega) (by omega) (by omega)]
    refine b.elim Or.inl (fun ⟨x1, x2, _⟩ => Or.inr ⟨x1, x2, q, t, a1, a2.congr a1.2.1 a1.2.2.2.2.2 (fun p hp => lo p (by omega) (by omega) (by omega) (by omega) (by omega)) (fun j hj => h1.2 j (by omega)), by rw [h1.2 0 (by omega)]; exact a3, Or.inr h2⟩)
  · rw [lo 0 (by omega) (by omega) (by omega) (by omega) (by omega), lo 83 (by omega) (by omega) (by omega) (by omega) (by omega)]
    exact c.elim Or.inl (fun ⟨x1, x2, x3⟩ => Or.inr ⟨x1, x2, hMO _ _ _ x3 (fun p _ _ => lo p (by omega) (by omega) (by omega) (by omega) (by omega))⟩)
theorem c_X9_witness {MO : Mem → Sy → Prop} (hMO : MOc MO) (p w k what : Int) (mem : Mem) (A : AS) (h : KI MO mem A) (hp : R32 p) (hw : R32 w) (hk : R32 k) (hwh : R32 what) : CtrI mX9_witness [aR 0, aI p, aI w, aI k, aI what] mem (fun z m => sWit A.1 p w k what z ∧ KQ MO mem A m) := by
  have f := h.1.1.facts
  obtain ⟨a1, a2, a3, a4, a5, hc⟩ := eA h.1.1
  have ok := h.1.1.2.2.1
  refine Ctr.ofV (ls := [aR 0, aI p, aI w, aI k, aI what]) rfl (by decide) rfl (Nat.le_of_ble_eq_true rfl) ?_
  refine v_aload_n (j := 0) (q := 1) rfl dX9_witness_0 rfl ?_
  refine v_iload_n (j := 1) (q := 2) rfl dX9_witness_1 rfl ?_
  refine v_iload_n (j := 2) (q := 3) rfl dX9_witness_2 rfl ?_
  refine v_cVI2 (q := 6) dX9_witness_3 mlX9_169 mdX9_isAsked (by decide) kd_0 rfl rfl ⟨Nat.le_refl 0, Nat.le_refl 0⟩ (by exact Nat.le_of_ble_eq_true rfl) rfl (c_X9_isAsked p w mem hp hw (by omega) (by omega)) ?_
  rw [← a1, ← a2]
  rintro z0 m1 ⟨rfl, t1, t2⟩
  have h1 := h.wd hMO t1
  refine v_if_neB (tgt := 11) (q := 9) dX9_witness_6 (by decide) rfl (fun h6 => ?_) (fun h6 => ?_)
  · have hk9 : askd A.1 p w := h6
    refine v_iload_n (j := 3) (q := 12) rfl dX9_witness_11 rfl ?_
    refine v_if_lt (tgt := 33) (q := 15) dX9_witness_12 (by decide) rfl (by omega) (fun h12 => ?_) (fun h12 => ?_)
    · refine v_bipush (q := 35) (by decide) dX9_witness_33 rfl ?_
      refine v_iret dX9_witness_35 ?_
      exact ⟨_, rfl, Or.inr ⟨hk9, Or.inl ⟨by omega, rfl⟩⟩, h1.1, h1.2, fun q hq => t1 q (by omega) (by omega)⟩
    · refine v_iload_n (j := 3) (q := 16) rfl dX9_witness_15 rfl ?_
      refine v_sipush (q := 19) (by decide) dX9_witness_16 rfl ?_
      refine v_icmp_ge (tgt := 33) (q := 22) dX9_witness_19 (by decide) rfl (by omega) (by omega) (fun h19 => ?_) (fun h19 => ?_)
      · refine v_bipush (q := 35) (by decide) dX9_witness_33 rfl ?_
        refine v_iret dX9_witness_35 ?_
        exact ⟨_, rfl, Or.inr ⟨hk9, Or.inl ⟨by omega, rfl⟩⟩, h1.1, h1.2, fun q hq => t1 q (by omega) (by omega)⟩
      · refine v_iload (j := 4) (q := 24) rfl dX9_witness_22 rfl ?_
        refine v_if_lt (tgt := 33) (q := 27) dX9_witness_24 (by decide) rfl (by omega) (fun h24 => ?_) (fun h24 => ?_)
        · refine v_bipush (q := 35) (by decide) dX9_witness_33 rfl ?_
          refine v_iret dX9_witness_35 ?_
          exact ⟨_, rfl, Or.inr ⟨hk9, Or.inl ⟨by omega, rfl⟩⟩, h1.1, h1.2, fun q hq => t1 q (by omega) (by omega)⟩
        · refine v_iload (j := 4) (q := 29) rfl dX9_witness_27 rfl ?_
          refine v_iconst (q := 30) dX9_witness_29 rfl ?_
          refine v_icmp_le (tgt := 36) (q := 33) dX9_witness_30 (by decide) rfl (by omega) (by omega) (fun h30 => ?_) (fun h30 => ?_)
          · refine v_aload_n (j := 0) (q := 37) rfl dX9_witness_36 rfl ?_
            refine v_iload_n (j := 1) (q := 38) rfl dX9_witness_37 rfl ?_
            refine v_cVL1 (q := 41) dX9_witness_38 mlX9_173 mdX9_costTo (by decide) kd_0 rfl rfl ⟨Nat.le_refl 0, Nat.le_refl 0⟩ (by exact Nat.le_of_ble_eq_true rfl) rfl (c_X9_costTo hMO m1 A.1 h1.1.1 h1.2 p (dgs w) hk9.1 hk9.d.1 hk9.d.2 (t2 hk9.2.1 hk9.1)) ?_
            rintro z m2 ⟨o1, o2, o3, o4, o5, o6, o7⟩
            obtain ⟨hz, hz1, hz2⟩ := lm_C ok o3
            have lo2 : ∀ q, q ≠ 0 → (q < 29 ∨ 115 < q) → m2 q = m1 q := fun q h3 h4 => o1 q h3 (by omega)
            refine v_ldc2 (n := 16777232777216) (q := 44) klX9_181 rfl dX9_witness_41 rfl ?_
            refine v_lcmp_lt (tgt := 51) (q := 48) dX9_witness_44 dX9_witness_45 (by decide) rfl (by omega) (by omega) (fun h44 => ?_) (fun h44 => ?_)
            · refine v_aload_n (j := 0) (q := 52) rfl dX9_witness_51 rfl ?_
              refine v_getR (p' := 78) (q := 55) dX9_witness_52 fl_X9_80 kd_0 rfl (rfc_9_12 kd_0) rfl ?_
              refine v_aload_n (j := 0) (q := 56) rfl dX9_witness_55 rfl ?_
              refine v_getR (p' := 42) (q := 59) dX9_witness_56 fl_X9_67 kd_0 rfl (rfc_9_9 kd_0) rfl ?_
              refine v_aload_n (j := 0) (q := 60) rfl dX9_witness_59 rfl ?_
              refine v_getR (p' := 29) (q := 63) dX9_witness_60 fl_X9_46 kd_0 rfl (rfc_9_6 kd_0) rfl ?_
              refine v_cVV2 (q := 66) dX9_witness_63 mlX9_186 mdX7_follow (by decide) kd_78 rfl rfl ⟨Nat.le_refl 0, Nat.le_refl 0⟩ (by exact Nat.le_of_ble_eq_true rfl) rfl (c_X7_follow m2 A.1 p (dgs w) _ _ o7 (hz1 (by omega)).1) ?_
              rintro m3 ⟨g1, g2, g3⟩
              have ca3 := AIM.fol hMO o4 o7 g1 ⟨g2, g3⟩
              have lo3 : ∀ q, q ≠ 0 → (q < 29 ∨ 115 < q) → m3 q = m1 q := fun q h3 h4 => (by rw [g1.1 q (by omega) (by omega) (by omega) (by omega) (by omega)]; exact lo2 q h3 h4)
              obtain ⟨W, n, i, U, y1, y2, y3, y4, y5, y6, y7⟩ := g3
              refine v_iload_n (j := 3) (q := 67) rfl dX9_witness_66 rfl ?_
              refine v_aload_n (j := 0) (q := 68) rfl dX9_witness_67 rfl ?_
              refine v_getR (p' := 78) (q := 71) dX9_witness_68 fl_X9_80 kd_0 rfl (rfc_9_12 kd_0) rfl ?_
              refine v_getI (j := 2) (q := 74) dX9_witness_71 fl_X9_190 kd_78 rfl rfl rfl ?_
              rw [y3]
              refine v_icmp_ge (tgt := 90) (q := 77) dX9_witness_74 (by decide) rfl (by omega) (by omega) (fun h74 => ?_) (fun h74 => ?_)
              · refine v_bipush (q := 92) (by decide) dX9_witness_90 rfl ?_
                refine v_iret dX9_witness_92 ?_
                refine ⟨_, rfl, Or.inr ⟨hk9, Or.inr ⟨by omega, Or.inr ⟨W, n, y1, ?_⟩⟩⟩, KQ.of h1.1 t1 lo3 ca3⟩
                first
                  | exact Or.inl ⟨by omega, rfl⟩
                  | (obtain ⟨a, j, b, w1, w2, w3, w4, w5, w6⟩ := y7 k.toNat (by omega)
                     rw [show ((k.toNat : Nat) : Int) = k by omega] at w3 w4 w5 w6
                     refine Or.inr ⟨by omega, a, j, b, w1, w2, ?_⟩
                     unfold witA
                     rw [w3, w4, w5, w6])
              · refine v_aload_n (j := 0) (q := 78) rfl dX9_witness_77 rfl ?_
                refine v_getR (p' := 78) (q := 81) dX9_witness_78 fl_X9_80 kd_0 rfl (rfc_9_12 kd_0) rfl ?_
                refine v_iload_n (j := 3) (q := 82) rfl dX9_witness_81 rfl ?_
                refine v_iload (j := 4) (q := 84) rfl dX9_witness_82 rfl ?_
                refine v_cVI2 (q := 87) dX9_witness_84 mlX9_193 mdX7_part (by decide) kd_78 rfl rfl ⟨Nat.le_refl 0, Nat.le_refl 0⟩ (by exact Nat.le_of_ble_eq_true rfl) rfl (c_X7_part k what m3 (by omega) (by omega)) ?_
                rintro _ _ ⟨rfl, rfl⟩
                refine v_goto (q := 92) dX9_witness_87 (by decide) ?_
                refine v_iret dX9_witness_92 ?_
                refine ⟨_, rfl, Or.inr ⟨hk9, Or.inr ⟨by omega, Or.inr ⟨W, n, y1, ?_⟩⟩⟩, KQ.of h1.1 t1 lo3 ca3⟩
                first
                  | exact Or.inl ⟨by omega, rfl⟩
                  | (obtain ⟨a, j, b, w1, w2, w3, w4, w5, w6⟩ := y7 k.toNat (by omega)
                     rw [show ((k.toNat : Nat) : Int) = k by omega] at w3 w4 w5 w6
                     refine Or.inr ⟨by omega, a, j, b, w1, w2, ?_⟩
                     unfold witA
                     rw [w3, w4, w5, w6])
            · refine v_bipush (q := 50) (by decide) dX9_witness_48 rfl ?_
              refine v_iret dX9_witness_50 ?_
              exact ⟨_, rfl, Or.inr ⟨hk9, Or.inr ⟨by omega, Or.inl ⟨hz2 (by omega), rfl⟩⟩⟩, KQ.of h1.1 t1 lo2 o4⟩
          · refine v_bipush (q := 35) (by decide) dX9_witness_33 rfl ?_
            refine v_iret dX9_witness_35 ?_
            exact ⟨_, rfl, Or.inr ⟨hk9, Or.inl ⟨by omega, rfl⟩⟩, h1.1, h1.2, fun q hq => t1 q (by omega) (by omega)⟩
  · refine v_iconst (q := 10) dX9_witness_9 rfl ?_
    refine v_iret dX9_witness_10 ?_
    exact ⟨_, rfl, Or.inl ⟨h6, rfl⟩, h1.1, h1.2, fun q hq => t1 q (by omega) (by omega)⟩
