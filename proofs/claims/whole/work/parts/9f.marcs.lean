/-! ===== the reference: arcs, arc, arcWeight ===== -/
theorem RI.lay {mem m : Mem} {A : AS} (h : RI mem A) (h1 : ∀ p, p < 120 → p ≠ 116 → m p = mem p) (h2 : m 116 2 = mem 116 2) (h5 : m 116 5 = mem 116 5) : RI m A := by
  obtain ⟨a, b, c⟩ := h
  refine ⟨by rw [h1 117 (by omega) (by decide)]; exact a, by rw [h1 118 (by omega) (by decide), h2]; exact b, ?_⟩
  unfold TX
  rw [h1 119 (by omega) (by decide), h5]
  exact c
theorem RK.lay {mem m : Mem} {A : AS} (h : RJ LOK mem A) (h1 : layQ A.1 mem m) : RK LOK mem A m := by
  obtain ⟨a, b, c, d⟩ := h1
  exact ⟨⟨h.1.lay (fun p h1 h2 => a p h2 (by omega)) (b 2 (by omega)) (b 5 (by omega)), Or.inr ⟨c, d⟩⟩, fun q hq => a q (by omega) (by omega)⟩
theorem LOK.i {v : Int → Int} {y : Sy} (ok : okS y) (h : LOK v y) {i : Int} (h0 : 0 ≤ i) (h1 : i < 7350) : (v i < FAR ↔ pR y i) ∧ (pR y i → v i = arw y (i / 210) (i / 35 % 6) (i % 35)) ∧ 0 ≤ v i ∧ v i ≤ FAR := by
  have hF := FAR_def
  have e := h (i / 210) (i / 35 % 6) (i % 35) ⟨by omega, by omega, by omega⟩
  rw [show ax (i / 210) (i / 35 % 6) (i % 35) = i by unfold ax; omega] at e
  have r := arw_rng ok (i / 210) (i / 35 % 6) (i % 35)
  unfold pR
  by_cases g : arw y (i / 210) (i / 35 % 6) (i % 35) = 1000001
  · rw [if_pos g] at e
    exact ⟨⟨fun h => by omega, fun h => absurd g h⟩, fun h => absurd g h, by omega, by omega⟩
  · rw [if_neg g] at e
    exact ⟨⟨fun _ => g, fun _ => by omega⟩, fun _ => e, by omega, by omega⟩
theorem l_X10_arcs {Post : AV → Mem → Prop} (mem : Mem) (y : Sy) (ok : okS y) (h : LOK (mem 123) y) (hP : Post (aI (sArcs y)) mem) :
    ∀ (n k : Nat), k + n = 7350 → V cX10_arcs RX10 3 (some .int) (rmk 4 99) (mE Post) 8 [aR 116, aI (cP (pR y) k), aI (k : Int)] [] mem := by
  have hF := FAR_def
  intro n
  induction n with
  | zero =>
    intro k h1
    have hk : k = 7350 := by omega
    subst hk
    refine v_iload_n (j := 2) (q := 9) rfl dX10_arcs_8 rfl ?_
    refine v_sipush (q := 12) (by decide) dX10_arcs_9 rfl ?_
    refine v_icmp_ge (tgt := 40) (q := 15) dX10_arcs_12 (by decide) rfl (by omega) (by omega) (fun h12 => ?_) (fun h12 => ?_)
    · refine v_iload_n (j := 1) (q := 41) rfl dX10_arcs_40 rfl ?_
      refine v_iret dX10_arcs_41 ?_
      exact hP
    · exact absurd h12 (by omega)
  | succ n ih =>
    intro k h1
    obtain ⟨g1, g2, g3, g4⟩ := h.i ok (i := (k : Int)) (by omega) (by omega)
    have hk := ih (k + 1) (by omega)
    refine v_iload_n (j := 2) (q := 9) rfl dX10_arcs_8 rfl ?_
    refine v_sipush (q := 12) (by decide) dX10_arcs_9 rfl ?_
    refine v_icmp_ge (tgt := 40) (q := 15) dX10_arcs_12 (by decide) rfl (by omega) (by omega) (fun h12 => ?_) (fun h12 => ?_)
    · exact absurd h12 (by omega)
    · refine v_iload_n (j := 1) (q := 16) rfl dX10_arcs_15 rfl ?_
      refine v_aload_n (j := 0) (q := 17) rfl dX10_arcs_16 rfl ?_
      refine v_getR (p' := 123) (q := 20) dX10_arcs_17 fl_X10_29 kd_116 rfl (rfc_10_12 kd_116) rfl ?_
      refine v_iload_n (j := 2) (q := 21) rfl dX10_arcs_20 rfl ?_
      refine v_iald (q := 22) dX10_arcs_21 kd_123 (by omega) (by omega) rfl ?_
      refine v_ldc (n := 2000000000) (q := 24) klX10_163 rfl dX10_arcs_22 rfl ?_
      refine v_icmp_ge (tgt := 31) (q := 27) dX10_arcs_24 (by decide) rfl (by omega) (by omega) (fun h24 => ?_) (fun h24 => ?_)
      · refine v_iconst (q := 32) dX10_arcs_31 rfl ?_
        refine v_iadd (q := 33) dX10_arcs_32 rfl ?_
        refine v_ist1 (q := 34) rfl dX10_arcs_33 (by decide) rfl ?_
        refine v_iinc2 (q := 37) rfl dX10_arcs_34 (by decide) rfl ?_
        refine v_goto (q := 8) dX10_arcs_37 (by decide) ?_
        first
          | (rw [cP_t (P := pR y) (g1.mp (by omega))] at hk
             exact hk)
          | (rw [cP_f (P := pR y) (fun h => by have := g1.mpr h; omega)] at hk
             rw [Int.add_zero]
             exact hk)
      · refine v_iconst (q := 28) dX10_arcs_27 rfl ?_
        refine v_goto (q := 32) dX10_arcs_28 (by decide) ?_
        refine v_iadd (q := 33) dX10_arcs_32 rfl ?_
        refine v_ist1 (q := 34) rfl dX10_arcs_33 (by decide) rfl ?_
        refine v_iinc2 (q := 37) rfl dX10_arcs_34 (by decide) rfl ?_
        refine v_goto (q := 8) dX10_arcs_37 (by decide) ?_
        first
          | (rw [cP_t (P := pR y) (g1.mp (by omega))] at hk
             exact hk)
          | (rw [cP_f (P := pR y) (fun h => by have := g1.mpr h; omega)] at hk
             rw [Int.add_zero]
             exact hk)
theorem c_X10_arcs (mem : Mem) (A : AS) (h : RJ LOK mem A) : CtrI mX10_arcs [aR 116] mem (fun z m => sArcs A.1 = z ∧ RK LOK mem A m) := by
  have ok := h.1.1.2.2.1
  refine Ctr.ofV (ls := [aR 116, aU, aU]) rfl (by decide) rfl (Nat.le_of_ble_eq_true rfl) ?_
  refine v_aload_n (j := 0) (q := 1) rfl dX10_arcs_0 rfl ?_
  refine v_cVV0 (q := 4) dX10_arcs_1 mlX10_193 mdX10_layMachine (by decide) kd_116 rfl rfl ⟨Nat.le_refl 0, Nat.le_refl 0⟩ (by exact Nat.le_of_ble_eq_true rfl) rfl (c_X10_layMachine mem A.1 h.1.1 h.2) ?_
  rintro m1 hq
  refine v_iconst (q := 5) dX10_arcs_4 rfl ?_
  refine v_ist1 (q := 6) rfl dX10_arcs_5 (by decide) rfl ?_
  refine v_iconst (q := 7) dX10_arcs_6 rfl ?_
  refine v_ist2 (q := 8) rfl dX10_arcs_7 (by decide) rfl ?_
  exact l_X10_arcs m1 A.1 ok hq.2.2.2 ⟨_, rfl, rfl, RK.lay h hq⟩ 7350 0 (by omega)
theorem l_X10_arc {Post : AV → Mem → Prop} (mem : Mem) (y : Sy) (ok : okS y) (h : LOK (mem 123) y) (k what : Int) (hk : 0 ≤ k ∧ k ≤ 2147483647) (hw : 0 ≤ what ∧ what ≤ 3) (hP : ∀ z, sArc y k what z → Post (aI z) mem) :
    ∀ (n i : Nat), i + n = 7350 → cP (pR y) i ≤ k → V cX10_arc RX10 5 (some .int) (rmk 4 99) (mE Post) 25 [aR 116, aI k, aI what, aI (k - cP (pR y) i), aI (i : Int)] [] mem := by
  have hF := FAR_def
  intro n
  induction n with
  | zero =>
    intro i h1 h2
    have hi : i = 7350 := by omega
    subst hi
    refine v_iload (j := 4) (q := 27) rfl dX10_arc_25 rfl ?_
    refine v_sipush (q := 30) (by decide) dX10_arc_27 rfl ?_
    refine v_icmp_ge (tgt := 108) (q := 33) dX10_arc_30 (by decide) rfl (by omega) (by omega) (fun h30 => ?_) (fun h30 => ?_)
    · refine v_bipush (q := 110) (by decide) dX10_arc_108 rfl ?_
      refine v_iret dX10_arc_110 ?_
      exact hP _ (Or.inr ⟨⟨hk.1, hw⟩, Or.inl ⟨h2, rfl⟩⟩)
    · exact absurd h30 (by omega)
  | succ n ih =>
    intro i h1 h2
    obtain ⟨g1, g2, g3, g4⟩ := h.i ok (i := (i : Int)) (by omega) (by omega)
    have c0 := cP_rng (pR y) i
    have fin : pR y i → k - cP (pR y) i = 0 → ∀ z, z = arcP y i what → Post (aI z) mem := fun hp h0 z hz => hP z (Or.inr ⟨⟨hk.1, hw⟩, Or.inr ⟨i, by omega, hp, by omega, hz⟩⟩)
    refine v_iload (j := 4) (q := 27) rfl dX10_arc_25 rfl ?_
    refine v_sipush (q := 30) (by decide) dX10_arc_27 rfl ?_
    refine v_icmp_ge (tgt := 108) (q := 33) dX10_arc_30 (by decide) rfl (by omega) (by omega) (fun h30 => ?_) (fun h30 => ?_)
    · exact absurd h30 (by omega)
    · refine v_aload_n (j := 0) (q := 34) rfl dX10_arc_33 rfl ?_
      refine v_getR (p' := 123) (q := 37) dX10_arc_34 fl_X10_29 kd_116 rfl (rfc_10_12 kd_116) rfl ?_
      refine v_iload (j := 4) (q := 39) rfl dX10_arc_37 rfl ?_
      refine v_iald (q := 40) dX10_arc_39 kd_123 (by omega) (by omega) rfl ?_
      refine v_ldc (n := 2000000000) (q := 42) klX10_163 rfl dX10_arc_40 rfl ?_
      refine v_icmp_ge (tgt := 102) (q := 45) dX10_arc_42 (by decide) rfl (by omega) (by omega) (fun h42 => ?_) (fun h42 => ?_)
      · refine v_iinc4 (q := 105) rfl dX10_arc_102 (by decide) rfl ?_
        refine v_goto (q := 25) dX10_arc_105 (by decide) ?_
        first
          | (have hp : ¬ pR y i := fun h => by have := g1.mpr h; omega
             have hk := ih (i + 1) (by omega) (by rw [cP_f (P := pR y) hp]; exact h2)
             rw [cP_f (P := pR y) hp] at hk
             exact hk)
          | (have hp : pR y i := g1.mp (by omega)
             have hk := ih (i + 1) (by omega) (by rw [cP_t (P := pR y) hp]; omega)
             rw [cP_t (P := pR y) hp, show k - (cP (pR y) i + 1) = k - cP (pR y) i + -1 by omega] at hk
             exact hk)
      · refine v_iload_n (j := 3) (q := 46) rfl dX10_arc_45 rfl ?_
        refine v_if_ne (tgt := 99) (q := 49) dX10_arc_46 (by decide) rfl (by omega) (fun h46 => ?_) (fun h46 => ?_)
        · refine v_iinc3 (q := 102) rfl dX10_arc_99 (by decide) rfl ?_
          refine v_iinc4 (q := 105) rfl dX10_arc_102 (by decide) rfl ?_
          refine v_goto (q := 25) dX10_arc_105 (by decide) ?_
          first
            | (have hp : ¬ pR y i := fun h => by have := g1.mpr h; omega
               have hk := ih (i + 1) (by omega) (by rw [cP_f (P := pR y) hp]; exact h2)
               rw [cP_f (P := pR y) hp] at hk
               exact hk)
            | (have hp : pR y i := g1.mp (by omega)
               have hk := ih (i + 1) (by omega) (by rw [cP_t (P := pR y) hp]; omega)
               rw [cP_t (P := pR y) hp, show k - (cP (pR y) i + 1) = k - cP (pR y) i + -1 by omega] at hk
               exact hk)
        · refine v_iload_n (j := 2) (q := 50) rfl dX10_arc_49 rfl ?_
          refine v_if_ne (tgt := 62) (q := 53) dX10_arc_50 (by decide) rfl (by omega) (fun h50 => ?_) (fun h50 => ?_)
          · refine v_iload_n (j := 2) (q := 63) rfl dX10_arc_62 rfl ?_
            refine v_iconst (q := 64) dX10_arc_63 rfl ?_
            refine v_icmp_ne (tgt := 78) (q := 67) dX10_arc_64 (by decide) rfl (by omega) (by omega) (fun h64 => ?_) (fun h64 => ?_)
            · refine v_iload_n (j := 2) (q := 79) rfl dX10_arc_78 rfl ?_
              refine v_iconst (q := 80) dX10_arc_79 rfl ?_
              refine v_icmp_ne (tgt := 91) (q := 83) dX10_arc_80 (by decide) rfl (by omega) (by omega) (fun h80 => ?_) (fun h80 => ?_)
              · refine v_aload_n (j := 0) (q := 92) rfl dX10_arc_91 rfl ?_
                refine v_getR (p' := 123) (q := 95) dX10_arc_92 fl_X10_29 kd_116 rfl (rfc_10_12 kd_116) rfl ?_
                refine v_iload (j := 4) (q := 97) rfl dX10_arc_95 rfl ?_
                refine v_iald (q := 98) dX10_arc_97 kd_123 (by omega) (by omega) rfl ?_
                refine v_iret dX10_arc_98 ?_
                have hp : pR y i := g1.mp (by omega)
                refine fin hp (by omega) _ ?_
                unfold arcP
                first
                  | (rw [if_pos (by omega)]; done)
                  | (rw [if_neg (by omega), if_pos (by omega)]; done)
                  | (rw [if_neg (by omega), if_neg (by omega), if_pos (by omega)]; done)
                  | (rw [if_neg (by omega), if_neg (by omega), if_neg (by omega)]; exact g2 hp)
              · refine v_iload (j := 4) (q := 85) rfl dX10_arc_83 rfl ?_
                refine v_bipush (q := 87) (by decide) dX10_arc_85 rfl ?_
                refine v_irem (q := 88) (by omega) (by omega) dX10_arc_87 rfl ?_
                refine v_goto (q := 98) dX10_arc_88 (by decide) ?_
                refine v_iret dX10_arc_98 ?_
                have hp : pR y i := g1.mp (by omega)
                refine fin hp (by omega) _ ?_
                unfold arcP
                first
                  | (rw [if_pos (by omega)]; done)
                  | (rw [if_neg (by omega), if_pos (by omega)]; done)
                  | (rw [if_neg (by omega), if_neg (by omega), if_pos (by omega)]; done)
                  | (rw [if_neg (by omega), if_neg (by omega), if_neg (by omega)]; exact g2 hp)
            · refine v_iload (j := 4) (q := 69) rfl dX10_arc_67 rfl ?_
              refine v_bipush (q := 71) (by decide) dX10_arc_69 rfl ?_
              refine v_idiv (q := 72) (by omega) (by omega) dX10_arc_71 rfl ?_
              refine v_bipush (q := 74) (by decide) dX10_arc_72 rfl ?_
              refine v_irem (q := 75) (by omega) (by omega) dX10_arc_74 rfl ?_
              refine v_goto (q := 98) dX10_arc_75 (by decide) ?_
              refine v_iret dX10_arc_98 ?_
              have hp : pR y i := g1.mp (by omega)
              refine fin hp (by omega) _ ?_
              unfold arcP
              first
                | (rw [if_pos (by omega)]; done)
                | (rw [if_neg (by omega), if_pos (by omega)]; done)
                | (rw [if_neg (by omega), if_neg (by omega), if_pos (by omega)]; done)
                | (rw [if_neg (by omega), if_neg (by omega), if_neg (by omega)]; exact g2 hp)
          · refine v_iload (j := 4) (q := 55) rfl dX10_arc_53 rfl ?_
            refine v_sipush (q := 58) (by decide) dX10_arc_55 rfl ?_
            refine v_idiv (q := 59) (by omega) (by omega) dX10_arc_58 rfl ?_
            refine v_goto (q := 98) dX10_arc_59 (by decide) ?_
            refine v_iret dX10_arc_98 ?_
            have hp : pR y i := g1.mp (by omega)
            refine fin hp (by omega) _ ?_
            unfold arcP
            first
              | (rw [if_pos (by omega)]; done)
              | (rw [if_neg (by omega), if_pos (by omega)]; done)
              | (rw [if_neg (by omega), if_neg (by omega), if_pos (by omega)]; done)
              | (rw [if_neg (by omega), if_neg (by omega), if_neg (by omega)]; exact g2 hp)
theorem c_X10_arc (k what : Int) (mem : Mem) (A : AS) (h : RJ LOK mem A) (hk : R32 k) (hw : R32 what) : CtrI mX10_arc [aR 116, aI k, aI what] mem (fun z m => sArc A.1 k what z ∧ RK LOK mem A m) := by
  have ok := h.1.1.2.2.1
  refine Ctr.ofV (ls := [aR 116, aI k, aI what, aU, aU]) rfl (by decide) rfl (Nat.le_of_ble_eq_true rfl) ?_
  refine v_iload_n (j := 1) (q := 1) rfl dX10_arc_0 rfl ?_
  refine v_if_lt (tgt := 13) (q := 4) dX10_arc_1 (by decide) rfl (by omega) (fun h1 => ?_) (fun h1 => ?_)
  · refine v_bipush (q := 15) (by decide) dX10_arc_13 rfl ?_
    refine v_iret dX10_arc_15 ?_
    refine ⟨_, rfl, Or.inl ⟨?_, rfl⟩, RK.of h (frR.refl _)⟩
    first
      | exact fun h9 => by omega
      | exact fun h9 => h10 h9.2
  · refine v_iload_n (j := 2) (q := 5) rfl dX10_arc_4 rfl ?_
    refine v_iconst (q := 6) dX10_arc_5 rfl ?_
    refine v_iconst (q := 7) dX10_arc_6 rfl ?_
    refine v_cSI3 (q := 10) dX10_arc_7 mlX10_44 mdX10_isIn (by decide) ⟨Nat.le_refl 0, Nat.le_refl 0⟩ (by exact Nat.le_of_ble_eq_true rfl) rfl (c_X10_isIn what 0 3 mem hw (by omega) (by omega)) ?_
    rintro _ _ ⟨rfl, rfl⟩
    refine v_if_neB (tgt := 16) (q := 13) dX10_arc_10 (by decide) rfl (fun h10 => ?_) (fun h10 => ?_)
    · refine v_aload_n (j := 0) (q := 17) rfl dX10_arc_16 rfl ?_
      refine v_cVV0 (q := 20) dX10_arc_17 mlX10_193 mdX10_layMachine (by decide) kd_116 rfl rfl ⟨Nat.le_refl 0, Nat.le_refl 0⟩ (by exact Nat.le_of_ble_eq_true rfl) rfl (c_X10_layMachine mem A.1 h.1.1 h.2) ?_
      rintro m1 hq
      refine v_iload_n (j := 1) (q := 21) rfl dX10_arc_20 rfl ?_
      refine v_ist3 (q := 22) rfl dX10_arc_21 (by decide) rfl ?_
      refine v_iconst (q := 23) dX10_arc_22 rfl ?_
      refine v_ist4 (q := 25) rfl dX10_arc_23 (by decide) rfl ?_
      have hk2 := l_X10_arc (Post := (fun r m => ∃ z, r = aI z ∧ sArc A.1 k what z ∧ RK LOK mem A m)) m1 A.1 ok hq.2.2.2 k what (by omega) h10 (fun z hz => ⟨z, rfl, hz, RK.lay h hq⟩) 7350 0 (by omega) (by show (0 : Int) ≤ k; omega)
      rw [show cP (pR A.1) 0 = 0 from rfl, Int.sub_zero] at hk2
      exact hk2
    · refine v_bipush (q := 15) (by decide) dX10_arc_13 rfl ?_
      refine v_iret dX10_arc_15 ?_
      refine ⟨_, rfl, Or.inl ⟨?_, rfl⟩, RK.of h (frR.refl _)⟩
      first
        | exact fun h9 => by omega
        | exact fun h9 => h10 h9.2
theorem c_X10_arcWeight (f l t : Int) (mem : Mem) (A : AS) (h : RJ LOK mem A) (hf : R32 f) (hl : R32 l) (ht : R32 t) : CtrI mX10_arcWeight [aR 116, aI f, aI l, aI t] mem (fun z m => sAw A.1 f l t = z ∧ RK LOK mem A m) := by
  have hF := FAR_def
  have ok := h.1.1.2.2.1
  have out : ¬ inX f l t → sAw A.1 f l t = -6 := fun hn => by
    unfold sAw
    rw [if_pos]
    have aw := arw_ok ok f l t
    rcases Int.lt_or_le (arw A.1 f l t) 1000001 with hlt | hge
    · exfalso
      obtain ⟨k1, k2, k3⟩ := (aw.2.1 hlt).ok ok
      have hS := ok.1
      have hG := ok.2.1
      have hl4 := ok.st.2
      have r := isN_rng ok k2
      refine hn ⟨?_, ?_, by omega⟩
      · rcases k3 with ⟨g, -⟩ | ⟨g, -⟩ | ⟨g1, g2, g3, -⟩
        · omega
        · have := isN_rng ok (Or.inl g); omega
        · omega
      · rcases k3 with ⟨-, g⟩ | ⟨-, g, -⟩ | ⟨-, -, -, -, g, -⟩ <;> omega
    · have := aw.1
      omega
  refine Ctr.ofV (ls := [aR 116, aI f, aI l, aI t, aU]) rfl (by decide) rfl (Nat.le_of_ble_eq_true rfl) ?_
  refine v_iload_n (j := 1) (q := 1) rfl dX10_arcWeight_0 rfl ?_
  refine v_iconst (q := 2) dX10_arcWeight_1 rfl ?_
  refine v_bipush (q := 4) (by decide) dX10_arcWeight_2 rfl ?_
  refine v_cSI3 (q := 7) dX10_arcWeight_4 mlX10_44 mdX10_isIn (by decide) ⟨Nat.le_refl 0, Nat.le_refl 0⟩ (by exact Nat.le_of_ble_eq_true rfl) rfl (c_X10_isIn f 0 34 mem hf (by omega) (by omega)) ?_
  rintro _ _ ⟨rfl, rfl⟩
  refine v_if_eqB (tgt := 29) (q := 10) dX10_arcWeight_7 (by decide) rfl (fun h7 => ?_) (fun h7 => ?_)
  · refine v_bipush (q := 31) (by decide) dX10_arcWeight_29 rfl ?_
    refine v_iret dX10_arcWeight_31 ?_
    refine ⟨_, rfl, out (fun hx => ?_), RK.of h (frR.refl _)⟩
    obtain ⟨x1, x2, x3⟩ := hx
    omega
  · refine v_iload_n (j := 2) (q := 11) rfl dX10_arcWeight_10 rfl ?_
    refine v_iconst (q := 12) dX10_arcWeight_11 rfl ?_
    refine v_iconst (q := 13) dX10_arcWeight_12 rfl ?_
    refine v_cSI3 (q := 16) dX10_arcWeight_13 mlX10_44 mdX10_isIn (by decide) ⟨Nat.le_refl 0, Nat.le_refl 0⟩ (by exact Nat.le_of_ble_eq_true rfl) rfl (c_X10_isIn l 0 5 mem hl (by omega) (by omega)) ?_
    rintro _ _ ⟨rfl, rfl⟩
    refine v_if_eqB (tgt := 29) (q := 19) dX10_arcWeight_16 (by decide) rfl (fun h16 => ?_) (fun h16 => ?_)
    · refine v_bipush (q := 31) (by decide) dX10_arcWeight_29 rfl ?_
      refine v_iret dX10_arcWeight_31 ?_
      refine ⟨_, rfl, out (fun hx => ?_), RK.of h (frR.refl _)⟩
      obtain ⟨x1, x2, x3⟩ := hx
      omega
    · refine v_iload_n (j := 3) (q := 20) rfl dX10_arcWeight_19 rfl ?_
      refine v_iconst (q := 21) dX10_arcWeight_20 rfl ?_
      refine v_bipush (q := 23) (by decide) dX10_arcWeight_21 rfl ?_
      refine v_cSI3 (q := 26) dX10_arcWeight_23 mlX10_44 mdX10_isIn (by decide) ⟨Nat.le_refl 0, Nat.le_refl 0⟩ (by exact Nat.le_of_ble_eq_true rfl) rfl (c_X10_isIn t 0 34 mem ht (by omega) (by omega)) ?_
      rintro _ _ ⟨rfl, rfl⟩
      refine v_if_neB (tgt := 32) (q := 29) dX10_arcWeight_26 (by decide) rfl (fun h26 => ?_) (fun h26 => ?_)
      · refine v_aload_n (j := 0) (q := 33) rfl dX10_arcWeight_32 rfl ?_
        refine v_cVV0 (q := 36) dX10_arcWeight_33 mlX10_193 mdX10_layMachine (by decide) kd_116 rfl rfl ⟨Nat.le_refl 0, Nat.le_refl 0⟩ (by exact Nat.le_of_ble_eq_true rfl) rfl (c_X10_layMachine mem A.1 h.1.1 h.2) ?_
        rintro m1 hq
        have hx : inX f l t := ⟨by omega, by omega, by omega⟩
        have r1 := ax_rng hx
        have e1 := hq.2.2.2 f l t hx
        have ar := arw_rng ok f l t
        refine v_aload_n (j := 0) (q := 37) rfl dX10_arcWeight_36 rfl ?_
        refine v_getR (p' := 123) (q := 40) dX10_arcWeight_37 fl_X10_29 kd_116 rfl (rfc_10_12 kd_116) rfl ?_
        refine v_iload_n (j := 1) (q := 41) rfl dX10_arcWeight_40 rfl ?_
        refine v_iload_n (j := 2) (q := 42) rfl dX10_arcWeight_41 rfl ?_
        refine v_iload_n (j := 3) (q := 43) rfl dX10_arcWeight_42 rfl ?_
        refine v_cSI3 (q := 46) dX10_arcWeight_43 mlX10_160 mdX10_arcAt (by decide) ⟨Nat.le_refl 0, Nat.le_refl 0⟩ (by exact Nat.le_of_ble_eq_true rfl) rfl (c_X10_arcAt f l t m1) ?_
        rintro _ _ ⟨rfl, rfl⟩
        refine v_iald (q := 47) dX10_arcWeight_46 kd_123 (by omega) (by omega) rfl ?_
        rw [e1]
        obtain ⟨z, hz⟩ : ∃ z, z = (if arw A.1 f l t = 1000001 then FAR else arw A.1 f l t) := ⟨_, rfl⟩
        rw [← hz]
        have hzz : (arw A.1 f l t = 1000001 ∧ z = FAR) ∨ (arw A.1 f l t ≠ 1000001 ∧ z = arw A.1 f l t) := (by rw [hz]; by_cases g : arw A.1 f l t = 1000001; (rw [if_pos g]; exact Or.inl ⟨g, rfl⟩); (rw [if_neg g]; exact Or.inr ⟨g, rfl⟩))
        refine v_ist4 (q := 49) rfl dX10_arcWeight_47 (by decide) rfl ?_
        refine v_iload (j := 4) (q := 51) rfl dX10_arcWeight_49 rfl ?_
        refine v_ldc (n := 2000000000) (q := 53) klX10_163 rfl dX10_arcWeight_51 rfl ?_
        refine v_icmp_ge (tgt := 61) (q := 56) dX10_arcWeight_53 (by decide) rfl (by omega) (by omega) (fun h53 => ?_) (fun h53 => ?_)
        · refine v_bipush (q := 63) (by decide) dX10_arcWeight_61 rfl ?_
          refine v_iret dX10_arcWeight_63 ?_
          refine ⟨_, rfl, ?_, RK.lay h hq⟩
          unfold sAw
          first
            | (rw [if_pos (by omega)]; done)
            | (rw [if_neg (by omega)]; omega)
        · refine v_iload (j := 4) (q := 58) rfl dX10_arcWeight_56 rfl ?_
          refine v_goto (q := 63) dX10_arcWeight_58 (by decide) ?_
          refine v_iret dX10_arcWeight_63 ?_
          refine ⟨_, rfl, ?_, RK.lay h hq⟩
          unfold sAw
          first
            | (rw [if_pos (by omega)]; done)
            | (rw [if_neg (by omega)]; omega)
      · refine v_bipush (q := 31) (by decide) dX10_arcWeight_29 rfl ?_
        refine v_iret dX10_arcWeight_31 ?_
        refine ⟨_, rfl, out (fun hx => ?_), RK.of h (frR.refl _)⟩
        obtain ⟨x1, x2, x3⟩ := hx
        omega
