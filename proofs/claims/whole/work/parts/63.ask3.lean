/-! ===== StackLab: wordPrice, tolerance ===== -/
theorem c_X9_wordPrice {MO : Mem → Sy → Prop} (hMO : MOc MO) (p w q : Int) (mem : Mem) (A : AS) (h : KI MO mem A) (hp : R32 p) (hw : R32 w) (hq : R32 q) : CtrI mX9_wordPrice [aR 0, aI p, aI w, aI q] mem (fun z m => sWop A.1 p w q = z ∧ KQ MO mem A m) := by
  have f := h.1.1.facts
  obtain ⟨a1, a2, a3, a4, a5, hc⟩ := eA h.1.1
  have ok := h.1.1.2.2.1
  have hS := ok.1
  have hG := ok.2.1
  have h54 : isSr 54 := Or.inr (Or.inl rfl)
  refine Ctr.ofV (ls := [aR 0, aI p, aI w, aI q]) rfl (by decide) rfl (Nat.le_of_ble_eq_true rfl) ?_
  refine v_aload_n (j := 0) (q := 1) rfl dX9_wordPrice_0 rfl ?_
  refine v_iload_n (j := 1) (q := 2) rfl dX9_wordPrice_1 rfl ?_
  refine v_cVI1 (q := 5) dX9_wordPrice_2 mlX9_104 mdX9_isState (by decide) kd_0 rfl rfl ⟨Nat.le_refl 0, Nat.le_refl 0⟩ (by exact Nat.le_of_ble_eq_true rfl) rfl (c_X9_isState p mem hp (by omega)) ?_
  rw [← a1]
  rintro _ _ ⟨rfl, rfl⟩
  refine v_if_eqB (tgt := 27) (q := 8) dX9_wordPrice_5 (by decide) rfl (fun h5 => ?_) (fun h5 => ?_)
  · refine v_iconst (q := 28) dX9_wordPrice_27 rfl ?_
    refine v_iret dX9_wordPrice_28 ?_
    first
      | exact ⟨_, rfl, by unfold sWop; rw [if_neg (fun hk => h5 hk.1.1)], h.1, h.2, fun _ _ => rfl⟩
      | exact ⟨_, rfl, by unfold sWop; rw [if_neg (fun hk => h16 ⟨hk.1.2.1, nd_nn w, hk.1.2.2⟩)], h1.1, h1.2, fun r hr => t1 r (by omega) (by omega)⟩
      | exact ⟨_, rfl, by unfold sWop; rw [if_neg (fun hk => h24 hk.2)], h1.1, h1.2, fun r hr => t1 r (by omega) (by omega)⟩
  · refine v_aload_n (j := 0) (q := 9) rfl dX9_wordPrice_8 rfl ?_
    refine v_iload_n (j := 2) (q := 10) rfl dX9_wordPrice_9 rfl ?_
    refine v_iconst (q := 11) dX9_wordPrice_10 rfl ?_
    refine v_bipush (q := 13) (by decide) dX9_wordPrice_11 rfl ?_
    refine v_cVI3 (q := 16) dX9_wordPrice_13 mlX9_111 mdX9_isWord (by decide) kd_0 rfl rfl ⟨Nat.le_refl 0, Nat.le_refl 0⟩ (by exact Nat.le_of_ble_eq_true rfl) rfl (c_X9_isWord w 0 6 mem hw (by omega) (by omega) (by omega)) ?_
    rw [← a2]
    rintro _ m1 ⟨rfl, t1, t2⟩
    have h1 := h.wd hMO t1
    have n1 : m1 1 = mem 1 := t1 1 (by decide) (by decide)
    refine v_if_eqB (tgt := 27) (q := 19) dX9_wordPrice_16 (by decide) rfl (fun h16 => ?_) (fun h16 => ?_)
    · refine v_iconst (q := 28) dX9_wordPrice_27 rfl ?_
      refine v_iret dX9_wordPrice_28 ?_
      first
        | exact ⟨_, rfl, by unfold sWop; rw [if_neg (fun hk => h5 hk.1.1)], h.1, h.2, fun _ _ => rfl⟩
        | exact ⟨_, rfl, by unfold sWop; rw [if_neg (fun hk => h16 ⟨hk.1.2.1, nd_nn w, hk.1.2.2⟩)], h1.1, h1.2, fun r hr => t1 r (by omega) (by omega)⟩
        | exact ⟨_, rfl, by unfold sWop; rw [if_neg (fun hk => h24 hk.2)], h1.1, h1.2, fun r hr => t1 r (by omega) (by omega)⟩
    · refine v_aload_n (j := 0) (q := 20) rfl dX9_wordPrice_19 rfl ?_
      refine v_iload_n (j := 3) (q := 21) rfl dX9_wordPrice_20 rfl ?_
      refine v_cVI1 (q := 24) dX9_wordPrice_21 mlX9_104 mdX9_isState (by decide) kd_0 rfl rfl ⟨Nat.le_refl 0, Nat.le_refl 0⟩ (by exact Nat.le_of_ble_eq_true rfl) rfl (c_X9_isState q m1 hq (by rw [n1]; omega)) ?_
      rw [n1, ← a1]
      rintro _ _ ⟨rfl, rfl⟩
      refine v_if_neB (tgt := 29) (q := 27) dX9_wordPrice_24 (by decide) rfl (fun h24 => ?_) (fun h24 => ?_)
      · have hk : askd A.1 p w := ⟨h5, h16.1, h16.2.2⟩
        have s0 : SQ0 A.1 (-6) q [] 54 := ⟨ok, h54, by omega, h24, fun d hd => (by cases hd), by decide⟩
        refine v_aload_n (j := 0) (q := 30) rfl dX9_wordPrice_29 rfl ?_
        refine v_cVV0 (q := 33) dX9_wordPrice_30 mlX9_211 mdX9_makePlan (by decide) kd_0 rfl rfl ⟨Nat.le_refl 0, Nat.le_refl 0⟩ (by exact Nat.le_of_ble_eq_true rfl) rfl (c_X9_makePlan m1 A.1 h1.1.1 h1.2) ?_
        rintro m2 ⟨o1, p1, c1, pl⟩
        refine v_aload_n (j := 0) (q := 34) rfl dX9_wordPrice_33 rfl ?_
        refine v_getR (p' := 54) (q := 37) dX9_wordPrice_34 fl_X9_71 kd_0 rfl (rfc_9_10 kd_0) rfl ?_
        refine v_iload_n (j := 3) (q := 38) rfl dX9_wordPrice_37 rfl ?_
        refine v_aload_n (j := 0) (q := 39) rfl dX9_wordPrice_38 rfl ?_
        refine v_getR (p' := 27) (q := 42) dX9_wordPrice_39 fl_X9_40 kd_0 rfl (rfc_9_5 kd_0) rfl ?_
        refine v_cVV2 (q := 45) dX9_wordPrice_42 mlX9_218 mdX3_aimAt (by decide) kd_54 rfl rfl ⟨Nat.le_refl 0, Nat.le_refl 0⟩ (by exact Nat.le_of_ble_eq_true rfl) rfl (c_X3_aimAt 54 27 h54 (by unfold isWd; decide) m2 A.1 (-6) q [] ok pl.1 pl.2.1 (by omega) pl.2.2 h24 (fun d hd => by cases hd) (by decide) c1.2.2.2.2.2.2) ?_
        rintro m3 ⟨b1, b2⟩
        obtain ⟨q2, q3⟩ := SQ_aim h54 pl.1 pl.2.1 pl.2.2 c1.2.2.2.2.1 b1 b2
        have w3 : WdIs m3 25 (dgs w) := (t2 hk.2.1).congr (by rw [b1 25 (by omega), aimF_ne _ _ _ (by decide)]; exact o1 25 (by decide) (by decide)) (by rw [b1 26 (by omega), aimF_ne _ _ _ (by decide)]; exact o1 26 (by decide) (by decide))
        refine v_aload_n (j := 0) (q := 46) rfl dX9_wordPrice_45 rfl ?_
        refine v_getR (p' := 54) (q := 49) dX9_wordPrice_46 fl_X9_71 kd_0 rfl (rfc_9_10 kd_0) rfl ?_
        refine v_iload_n (j := 1) (q := 50) rfl dX9_wordPrice_49 rfl ?_
        refine v_aload_n (j := 0) (q := 51) rfl dX9_wordPrice_50 rfl ?_
        refine v_getR (p' := 25) (q := 54) dX9_wordPrice_51 fl_X9_36 kd_0 rfl (rfc_9_4 kd_0) rfl ?_
        refine v_cVL2 (q := 57) dX9_wordPrice_54 mlX9_222 mdX3_costFrom (by decide) kd_54 rfl rfl ⟨Nat.le_refl 0, Nat.le_refl 0⟩ (by exact Nat.le_of_ble_eq_true rfl) rfl (c_X3_costFrom 54 25 m3 A.1 (-6) q [] (dgs w) p s0 q2 (by unfold isWd; decide) hk.d.1 hk.d.2 w3 h5) ?_
        rintro z m4 ⟨f1, f2, f3, f4, f5, f6⟩
        have hz := (lm_C ok f6).1
        refine v_cSI1 (q := 60) dX9_wordPrice_57 mlX9_177 mdX9_weightOrNone (by decide) ⟨Nat.le_refl 0, Nat.le_refl 0⟩ (by exact Nat.le_of_ble_eq_true rfl) rfl (c_X9_weightOrNone z m4 (by omega)) ?_
        rintro _ _ ⟨rfl, rfl⟩
        refine v_iret dX9_wordPrice_60 ?_
        have lo : ∀ r, (r < 54 ∨ 65 < r) → m4 r = m2 r := fun r h3 => by rw [f1 r (by omega) (by omega) (by omega) (by omega), b1 r (by omega), aimF_ne _ _ _ (by omega)]
        have e9 : m4 54 9 = m2 54 9 := by
          have u1 := q2.2.2.2.2.2.1
          have u2 : m2 54 9 = 6 := c1.2.2.2.2.1
          rw [f2 9 (by omega) (by omega), u2, u1]; rfl
        exact ⟨_, rfl, by unfold sWop; rw [if_pos ⟨hk, h24⟩]; exact wv_C ok f6, KQ.of h1.1 t1 (fun r r0 r1 => by rw [lo r (by omega)]; exact o1 r r0 (by omega)) (c1.congr hMO (fun r hr => lo r (by omega)) e9 (by rw [lo 66 (by omega)]))⟩
      · refine v_iconst (q := 28) dX9_wordPrice_27 rfl ?_
        refine v_iret dX9_wordPrice_28 ?_
        first
          | exact ⟨_, rfl, by unfold sWop; rw [if_neg (fun hk => h5 hk.1.1)], h.1, h.2, fun _ _ => rfl⟩
          | exact ⟨_, rfl, by unfold sWop; rw [if_neg (fun hk => h16 ⟨hk.1.2.1, nd_nn w, hk.1.2.2⟩)], h1.1, h1.2, fun r hr => t1 r (by omega) (by omega)⟩
          | exact ⟨_, rfl, by unfold sWop; rw [if_neg (fun hk => h24 hk.2)], h1.1, h1.2, fun r hr => t1 r (by omega) (by omega)⟩
theorem c_X9_tolerance {MO : Mem → Sy → Prop} (hMO : MOc MO) (r p w : Int) (mem : Mem) (A : AS) (h : KI MO mem A) (hr : R32 r) (hp : R32 p) (hw : R32 w) : CtrI mX9_tolerance [aR 0, aI r, aI p, aI w] mem (fun z m => sTol A.1 r p w = z ∧ KQ MO mem A m) := by
  have f := h.1.1.facts
  obtain ⟨a1, a2, a3, a4, a5, hc⟩ := eA h.1.1
  have ok := h.1.1.2.2.1
  have rng := h.1.1.2.2.2
  refine Ctr.ofV (ls := [aR 0, aI r, aI p, aI w, aU, aU, aU]) rfl (by decide) rfl (Nat.le_of_ble_eq_true rfl) ?_
  refine v_aload_n (j := 0) (q := 1) rfl dX9_tolerance_0 rfl ?_
  refine v_iload_n (j := 1) (q := 2) rfl dX9_tolerance_1 rfl ?_
  refine v_cVI1 (q := 5) dX9_tolerance_2 mlX9_126 mdX9_isRule (by decide) kd_0 rfl rfl ⟨Nat.le_refl 0, Nat.le_refl 0⟩ (by exact Nat.le_of_ble_eq_true rfl) rfl (c_X9_isRule r mem hr (by omega)) ?_
  rw [← hc]
  rintro _ _ ⟨rfl, rfl⟩
  refine v_if_eqB (tgt := 17) (q := 8) dX9_tolerance_5 (by decide) rfl (fun h5 => ?_) (fun h5 => ?_)
  · refine v_iconst (q := 18) dX9_tolerance_17 rfl ?_
    refine v_iret dX9_tolerance_18 ?_
    first
      | exact ⟨_, rfl, by unfold sTol; rw [if_neg (fun hk => h5 hk.1)], h.1, h.2, fun _ _ => rfl⟩
      | exact ⟨_, rfl, by unfold sTol; rw [if_neg (fun hk => h14 hk.2)], h1.1, h1.2, fun q hq => t1 q (by omega) (by omega)⟩
  · refine v_aload_n (j := 0) (q := 9) rfl dX9_tolerance_8 rfl ?_
    refine v_iload_n (j := 2) (q := 10) rfl dX9_tolerance_9 rfl ?_
    refine v_iload_n (j := 3) (q := 11) rfl dX9_tolerance_10 rfl ?_
    refine v_cVI2 (q := 14) dX9_tolerance_11 mlX9_169 mdX9_isAsked (by decide) kd_0 rfl rfl ⟨Nat.le_refl 0, Nat.le_refl 0⟩ (by exact Nat.le_of_ble_eq_true rfl) rfl (c_X9_isAsked p w mem hp hw (by omega) (by omega)) ?_
    rw [← a1, ← a2]
    rintro z0 m1 ⟨rfl, t1, t2⟩
    have h1 := h.wd hMO t1
    refine v_if_neB (tgt := 19) (q := 17) dX9_tolerance_14 (by decide) rfl (fun h14 => ?_) (fun h14 => ?_)
    · have hk : askd A.1 p w := h14
      refine v_aload_n (j := 0) (q := 20) rfl dX9_tolerance_19 rfl ?_
      refine v_iload_n (j := 2) (q := 21) rfl dX9_tolerance_20 rfl ?_
      refine v_cVL1 (q := 24) dX9_tolerance_21 mlX9_173 mdX9_costTo (by decide) kd_0 rfl rfl ⟨Nat.le_refl 0, Nat.le_refl 0⟩ (by exact Nat.le_of_ble_eq_true rfl) rfl (c_X9_costTo hMO m1 A.1 h1.1.1 h1.2 p (dgs w) hk.1 hk.d.1 hk.d.2 (t2 hk.2.1 hk.1)) ?_
      rintro z m2 ⟨o1, o2, o3, o4, o5, o6, o7⟩
      obtain ⟨hz, hz1, hz2⟩ := lm_C ok o3
      have lo2 : ∀ q, q ≠ 0 → (q < 29 ∨ 115 < q) → m2 q = m1 q := fun q h3 h4 => o1 q h3 (by omega)
      have sr2 : SR m2 1 A.1 := h1.1.1.congr (lo2 1 (by decide) (by decide)) (lo2 2 (by decide) (by decide))
      have w2 : WdIs m2 25 (dgs w) := (t2 hk.2.1 hk.1).congr (lo2 25 (by decide) (by decide)) (lo2 26 (by decide) (by decide))
      refine v_lst4 (q := 26) rfl dX9_tolerance_24 (by decide) rfl ?_
      refine v_lload (j := 4) (q := 28) rfl dX9_tolerance_26 rfl ?_
      refine v_ldc2 (n := 16777232777216) (q := 31) klX9_181 rfl dX9_tolerance_28 rfl ?_
      refine v_lcmp_lt (tgt := 38) (q := 35) dX9_tolerance_31 dX9_tolerance_32 (by decide) rfl (by omega) (by omega) (fun h31 => ?_) (fun h31 => ?_)
      · refine v_aload_n (j := 0) (q := 39) rfl dX9_tolerance_38 rfl ?_
        refine v_iload_n (j := 1) (q := 40) rfl dX9_tolerance_39 rfl ?_
        refine v_iload_n (j := 2) (q := 41) rfl dX9_tolerance_40 rfl ?_
        refine v_cVL2 (q := 44) dX9_tolerance_41 mlX9_235 mdX9_costWithout (by decide) kd_0 rfl rfl ⟨Nat.le_refl 0, Nat.le_refl 0⟩ (by exact Nat.le_of_ble_eq_true rfl) rfl (c_X9_costWithout hMO m2 A.1 sr2 o4 r p (dgs w) (by omega) hk.1 hk.d.1 hk.d.2 w2) ?_
        rintro z2 m3 ⟨g1, g3, g4, g5⟩
        obtain ⟨hy, hy1, hy2⟩ := lm_C ok g3
        have lo3 : ∀ q, q ≠ 0 → (q < 29 ∨ 115 < q) → m3 q = m1 q := fun q h3 h4 => by rw [g1 q h3 (by omega)]; exact lo2 q h3 h4
        have wz : wv (lmS A.1 (-6) p (dgs w)) = z / 16777216 := by have := wv_C ok o3; rw [if_neg (by omega)] at this; exact this
        have wz2 : wv (lmS A.1 r p (dgs w)) = if 16777232777216 ≤ z2 then -6 else z2 / 16777216 := wv_C ok g3
        have nn : ¬ lmS A.1 (-6) p (dgs w) = none := fun e => by unfold lmS at e; rw [(hz1 (by omega)).1] at e; cases e
        refine v_cSI1 (q := 47) dX9_tolerance_44 mlX9_196 mdX9_weightOf (by decide) ⟨Nat.le_refl 0, Nat.le_refl 0⟩ (by exact Nat.le_of_ble_eq_true rfl) rfl (c_X9_weightOf z2 m3 (by omega)) ?_
        rintro _ _ ⟨rfl, rfl⟩
        refine v_lload (j := 4) (q := 49) rfl dX9_tolerance_47 rfl ?_
        refine v_cSI1 (q := 52) dX9_tolerance_49 mlX9_196 mdX9_weightOf (by decide) ⟨Nat.le_refl 0, Nat.le_refl 0⟩ (by exact Nat.le_of_ble_eq_true rfl) rfl (c_X9_weightOf z m3 (by omega)) ?_
        rintro _ _ ⟨rfl, rfl⟩
        refine v_icmp_ne (tgt := 59) (q := 55) dX9_tolerance_52 (by decide) rfl (by omega) (by omega) (fun h52 => ?_) (fun h52 => ?_)
        · have hx : ¬ wv (lmS A.1 r p (dgs w)) = wv (lmS A.1 (-6) p (dgs w)) := (by rw [wz, wz2]; by_cases hb : 16777232777216 ≤ z2; (rw [if_pos hb]; omega); (rw [if_neg hb]; exact h52))
          refine v_iconst (q := 60) dX9_tolerance_59 rfl ?_
          refine v_ist6 (q := 62) rfl dX9_tolerance_60 (by decide) rfl ?_
          refine v_iload (j := 6) (q := 64) rfl dX9_tolerance_62 rfl ?_
          refine v_if_eq (tgt := 82) (q := 67) dX9_tolerance_64 (by decide) rfl (by omega) (fun h64 => ?_) (fun h64 => ?_)
          · refine v_iconst (q := 83) dX9_tolerance_82 rfl ?_
            refine v_iret dX9_tolerance_83 ?_
            refine ⟨_, rfl, ?_, KQ.of h1.1 t1 lo3 g4⟩
            unfold sTol
            rw [if_pos ⟨h5, hk⟩, if_neg nn]
            first
              | rw [if_pos hx]
              | rw [if_neg hx]
          · exact absurd h64 (by omega)
        · have hx : wv (lmS A.1 r p (dgs w)) = wv (lmS A.1 (-6) p (dgs w)) := (by rw [wz, wz2, if_neg (by omega)]; exact h52)
          refine v_iconst (q := 56) dX9_tolerance_55 rfl ?_
          refine v_goto (q := 60) dX9_tolerance_56 (by decide) ?_
          refine v_ist6 (q := 62) rfl dX9_tolerance_60 (by decide) rfl ?_
          refine v_iload (j := 6) (q := 64) rfl dX9_tolerance_62 rfl ?_
          refine v_if_eq (tgt := 82) (q := 67) dX9_tolerance_64 (by decide) rfl (by omega) (fun h64 => ?_) (fun h64 => ?_)
          · exact absurd h64 (by omega)
          · refine v_bipush (q := 69) (by decide) dX9_tolerance_67 rfl ?_
            refine v_aload_n (j := 0) (q := 70) rfl dX9_tolerance_69 rfl ?_
            refine v_getR (p' := 1) (q := 73) dX9_tolerance_70 fl_X9_12 kd_0 rfl (rfc_9_0 kd_0) rfl ?_
            refine v_iload_n (j := 1) (q := 74) rfl dX9_tolerance_73 rfl ?_
            refine v_iconst (q := 75) dX9_tolerance_74 rfl ?_
            refine v_cVI2 (q := 78) dX9_tolerance_75 mlX9_133 mdX4_part (by decide) kd_1 rfl rfl ⟨Nat.le_refl 0, Nat.le_refl 0⟩ (by exact Nat.le_of_ble_eq_true rfl) rfl (c_X4_part 1 r 4 m3 su_1 (by omega) (by omega)) ?_
            rintro _ _ ⟨rfl, rfl⟩
            have e2 : m3 (1 + 1) (r * 5 + 4) = (A.1.2.2.2.2.getD r.toNat (0, 0, 0, 0, 0)).2.2.2.2 := (by rw [a5, rls_getD _ _ (by omega), lo3 2 (by decide) (by decide), t1 2 (by decide) (by decide)]; show _ = mem 2 (0 + 5 * (r.toNat : Int) + 4); rw [show (0 : Int) + 5 * (r.toNat : Int) + 4 = r * 5 + 4 by omega])
            rw [e2]
            have rg := rng (r * 5 + 4) (by omega) (by omega)
            have e3 : mem (1 + 1) (r * 5 + 4) = m3 (1 + 1) (r * 5 + 4) := (by rw [lo3 2 (by decide) (by decide), t1 2 (by decide) (by decide)])
            refine v_isub (q := 79) dX9_tolerance_78 rfl ?_
            refine v_goto (q := 83) dX9_tolerance_79 (by decide) ?_
            refine v_iret dX9_tolerance_83 ?_
            refine ⟨_, rfl, ?_, KQ.of h1.1 t1 lo3 g4⟩
            unfold sTol
            rw [if_pos ⟨h5, hk⟩, if_neg nn]
            first
              | rw [if_pos hx]
              | rw [if_neg hx]
      · refine v_bipush (q := 37) (by decide) dX9_tolerance_35 rfl ?_
        refine v_iret dX9_tolerance_37 ?_
        exact ⟨_, rfl, by unfold sTol; rw [if_pos ⟨h5, hk⟩, if_pos (by unfold lmS; exact hz2 (by omega))], KQ.of h1.1 t1 lo2 o4⟩
    · refine v_iconst (q := 18) dX9_tolerance_17 rfl ?_
      refine v_iret dX9_tolerance_18 ?_
      first
        | exact ⟨_, rfl, by unfold sTol; rw [if_neg (fun hk => h5 hk.1)], h.1, h.2, fun _ _ => rfl⟩
        | exact ⟨_, rfl, by unfold sTol; rw [if_neg (fun hk => h14 hk.2)], h1.1, h1.2, fun q hq => t1 q (by omega) (by omega)⟩
