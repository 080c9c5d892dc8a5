/-! ===== the reference: questions about costs ===== -/
def RJ (LO : (Int → Int) → Sy → Prop) (m : Mem) (A : AS) : Prop := RI m A ∧ (m 116 3 = 0 ∨ (m 116 3 = 1 ∧ LO (m 123) A.1))
def RK (LO : (Int → Int) → Sy → Prop) (mem : Mem) (A : AS) (m : Mem) : Prop := RJ LO m A ∧ ∀ q, q < 116 → m q = mem q
theorem RI.frR {mem m : Mem} {A : AS} (h : RI mem A) (h1 : frR mem m) : RI m A := by
  obtain ⟨a, b, c⟩ := h
  refine ⟨by rw [h1.1 117 (by omega) (by decide)]; exact a, by rw [h1.1 118 (by omega) (by decide), h1.2 2 (by omega) (by omega) (by omega)]; exact b, ?_⟩
  unfold TX
  rw [h1.1 119 (by omega) (by decide), h1.2 5 (by omega) (by omega) (by omega)]
  exact c
theorem RK.of {LO : (Int → Int) → Sy → Prop} {mem m : Mem} {A : AS} (h : RJ LO mem A) (h1 : frR mem m) : RK LO mem A m := by
  refine ⟨⟨h.1.frR h1, ?_⟩, fun q hq => h1.1 q (by omega) (by omega)⟩
  rw [h1.1 123 (by omega) (by decide), h1.2 3 (by omega) (by omega) (by omega)]
  exact h.2
theorem c_X10_isAsked (p w : Int) (mem : Mem) (y : Sy) (hS : SM (mem 117) 0 y) (hp : R32 p) (hw : R32 w) : CtrI mX10_isAsked [aR 116, aI p, aI w] mem (fun z m => mem = m ∧ bI (askd y p w) = z) := by
  have f := hS.facts
  have hn := nd_nn w
  have e : askd y p w ↔ (0 ≤ p ∧ p < mem 117 0) ∧ isW w (mem 117 1) ∧ 0 ≤ nd w ∧ nd w ≤ 6 := by
    unfold askd
    rw [f.2.2.2.2.2.2.1, f.2.2.2.2.2.2.2.1]
    exact ⟨fun ⟨a, b, c⟩ => ⟨a, b, hn, c⟩, fun ⟨a, b, _, c⟩ => ⟨a, b, c⟩⟩
  refine Ctr.ofV (ls := [aR 116, aI p, aI w]) rfl (by decide) rfl (Nat.le_of_ble_eq_true rfl) ?_
  refine v_aload_n (j := 0) (q := 1) rfl dX10_isAsked_0 rfl ?_
  refine v_iload_n (j := 1) (q := 2) rfl dX10_isAsked_1 rfl ?_
  refine v_cVI1 (q := 5) dX10_isAsked_2 mlX10_71 mdX10_isState (by decide) kd_116 rfl rfl ⟨Nat.le_refl 0, Nat.le_refl 0⟩ (by exact Nat.le_of_ble_eq_true rfl) rfl (c_X10_isState p mem hp (by omega)) ?_
  rintro _ _ ⟨rfl, rfl⟩
  refine v_if_eqB (tgt := 23) (q := 8) dX10_isAsked_5 (by decide) rfl (fun h5 => ?_) (fun h5 => ?_)
  · refine v_iconst (q := 24) dX10_isAsked_23 rfl ?_
    refine v_zret (by first | exact Or.inl rfl | exact Or.inr rfl | exact bI_01 _ | omega) dX10_isAsked_24 ?_
    refine ⟨_, rfl, rfl, ?_⟩
    first
      | exact bI_t (e.mpr ⟨h5, h16⟩)
      | exact bI_f (fun h => h5 (e.mp h).1)
      | exact bI_f (fun h => h16 (e.mp h).2)
  · refine v_aload_n (j := 0) (q := 9) rfl dX10_isAsked_8 rfl ?_
    refine v_iload_n (j := 2) (q := 10) rfl dX10_isAsked_9 rfl ?_
    refine v_iconst (q := 11) dX10_isAsked_10 rfl ?_
    refine v_bipush (q := 13) (by decide) dX10_isAsked_11 rfl ?_
    refine v_cVI3 (q := 16) dX10_isAsked_13 mlX10_74 mdX10_isWord (by decide) kd_116 rfl rfl ⟨Nat.le_refl 0, Nat.le_refl 0⟩ (by exact Nat.le_of_ble_eq_true rfl) rfl (c_X10_isWord w 0 6 mem hw (by omega) (by omega) (by omega)) ?_
    rintro _ _ ⟨rfl, rfl⟩
    refine v_if_eqB (tgt := 23) (q := 19) dX10_isAsked_16 (by decide) rfl (fun h16 => ?_) (fun h16 => ?_)
    · refine v_iconst (q := 24) dX10_isAsked_23 rfl ?_
      refine v_zret (by first | exact Or.inl rfl | exact Or.inr rfl | exact bI_01 _ | omega) dX10_isAsked_24 ?_
      refine ⟨_, rfl, rfl, ?_⟩
      first
        | exact bI_t (e.mpr ⟨h5, h16⟩)
        | exact bI_f (fun h => h5 (e.mp h).1)
        | exact bI_f (fun h => h16 (e.mp h).2)
    · refine v_iconst (q := 20) dX10_isAsked_19 rfl ?_
      refine v_goto (q := 24) dX10_isAsked_20 (by decide) ?_
      refine v_zret (by first | exact Or.inl rfl | exact Or.inr rfl | exact bI_01 _ | omega) dX10_isAsked_24 ?_
      refine ⟨_, rfl, rfl, ?_⟩
      first
        | exact bI_t (e.mpr ⟨h5, h16⟩)
        | exact bI_f (fun h => h5 (e.mp h).1)
        | exact bI_f (fun h => h16 (e.mp h).2)
theorem c_X10_distance {LO : (Int → Int) → Sy → Prop} (p w : Int) (mem : Mem) (A : AS) (h : RJ LO mem A) (hp : R32 p) (hw : R32 w) : CtrI mX10_distance [aR 116, aI p, aI w] mem (fun z m => sDis A.1 p w = z ∧ RK LO mem A m) := by
  refine Ctr.ofV (ls := [aR 116, aI p, aI w]) rfl (by decide) rfl (Nat.le_of_ble_eq_true rfl) ?_
  refine v_aload_n (j := 0) (q := 1) rfl dX10_distance_0 rfl ?_
  refine v_iload_n (j := 1) (q := 2) rfl dX10_distance_1 rfl ?_
  refine v_iload_n (j := 2) (q := 3) rfl dX10_distance_2 rfl ?_
  refine v_cVI2 (q := 6) dX10_distance_3 mlX10_143 mdX10_isAsked (by decide) kd_116 rfl rfl ⟨Nat.le_refl 0, Nat.le_refl 0⟩ (by exact Nat.le_of_ble_eq_true rfl) rfl (c_X10_isAsked p w mem A.1 h.1.1 hp hw) ?_
  rintro _ _ ⟨rfl, rfl⟩
  refine v_if_eqB (tgt := 19) (q := 9) dX10_distance_6 (by decide) rfl (fun h6 => ?_) (fun h6 => ?_)
  · refine v_iconst (q := 20) dX10_distance_19 rfl ?_
    refine v_iret dX10_distance_20 ?_
    first
      | exact ⟨_, rfl, by unfold sDis; rw [if_neg h6], RK.of h (frR.refl _)⟩
      | exact ⟨_, rfl, by unfold sDis lmS; rw [if_pos h6, lm_ex], RK.of h g1⟩
  · refine v_aload_n (j := 0) (q := 10) rfl dX10_distance_9 rfl ?_
    refine v_iload_n (j := 1) (q := 11) rfl dX10_distance_10 rfl ?_
    refine v_iload_n (j := 2) (q := 12) rfl dX10_distance_11 rfl ?_
    refine v_iconst (q := 13) dX10_distance_12 rfl ?_
    refine v_cVI3 (q := 16) dX10_distance_13 mlX10_147 mdX10_distanceTo (by decide) kd_116 rfl rfl ⟨Nat.le_refl 0, Nat.le_refl 0⟩ (by exact Nat.le_of_ble_eq_true rfl) rfl (c_X10_distanceTo p w (-1) mem A.1 h.1.1 h6 hw (by omega)) ?_
    rintro _ m1 ⟨g1, rfl⟩
    refine v_goto (q := 20) dX10_distance_16 (by decide) ?_
    refine v_iret dX10_distance_20 ?_
    first
      | exact ⟨_, rfl, by unfold sDis; rw [if_neg h6], RK.of h (frR.refl _)⟩
      | exact ⟨_, rfl, by unfold sDis lmS; rw [if_pos h6, lm_ex], RK.of h g1⟩
theorem cutR_c {c : Int} (h : 0 ≤ c ∧ c ≤ 4000000000000000000) : (2097154097152 ≤ c ∧ cutR c = 4000000000000000000) ∨ (c < 2097154097152 ∧ cutR c = c) := by
  unfold cutR
  by_cases e : 2097154097152 ≤ c
  · rw [if_pos e]; exact Or.inl ⟨e, rfl⟩
  · rw [if_neg e]; exact Or.inr ⟨by omega, rfl⟩
theorem c_X10_steps {LO : (Int → Int) → Sy → Prop} (p w : Int) (mem : Mem) (A : AS) (h : RJ LO mem A) (hp : R32 p) (hw : R32 w) : CtrI mX10_steps [aR 116, aI p, aI w] mem (fun z m => sStp A.1 p w = z ∧ RK LO mem A m) := by
  have ok := h.1.1.2.2.1
  refine Ctr.ofV (ls := [aR 116, aI p, aI w, aU, aU]) rfl (by decide) rfl (Nat.le_of_ble_eq_true rfl) ?_
  refine v_aload_n (j := 0) (q := 1) rfl dX10_steps_0 rfl ?_
  refine v_iload_n (j := 1) (q := 2) rfl dX10_steps_1 rfl ?_
  refine v_iload_n (j := 2) (q := 3) rfl dX10_steps_2 rfl ?_
  refine v_cVI2 (q := 6) dX10_steps_3 mlX10_143 mdX10_isAsked (by decide) kd_116 rfl rfl ⟨Nat.le_refl 0, Nat.le_refl 0⟩ (by exact Nat.le_of_ble_eq_true rfl) rfl (c_X10_isAsked p w mem A.1 h.1.1 hp hw) ?_
  rintro _ _ ⟨rfl, rfl⟩
  refine v_if_neB (tgt := 11) (q := 9) dX10_steps_6 (by decide) rfl (fun h6 => ?_) (fun h6 => ?_)
  · refine v_aload_n (j := 0) (q := 12) rfl dX10_steps_11 rfl ?_
    refine v_iload_n (j := 1) (q := 13) rfl dX10_steps_12 rfl ?_
    refine v_iload_n (j := 2) (q := 14) rfl dX10_steps_13 rfl ?_
    refine v_iconst (q := 15) dX10_steps_14 rfl ?_
    refine v_cVL3 (q := 18) dX10_steps_15 mlX10_140 mdX10_costTo (by decide) kd_116 rfl rfl ⟨Nat.le_refl 0, Nat.le_refl 0⟩ (by exact Nat.le_of_ble_eq_true rfl) rfl (c_X10_costTo p w (-1) mem A.1 h.1.1 h6 hw (by omega)) ?_
    rintro _ m1 ⟨g1, g2, g3, c, rfl, g4⟩
    obtain ⟨hc, hc1, hc2⟩ := lm_R ok g4
    have hcut := cutR_c hc
    refine v_lst3 (q := 19) rfl dX10_steps_18 (by decide) rfl ?_
    refine v_lload_n (j := 3) (q := 20) rfl dX10_steps_19 rfl ?_
    refine v_ldc2 (n := 4000000000000000000) (q := 23) klX10_91 rfl dX10_steps_20 rfl ?_
    refine v_lcmp_ne (tgt := 32) (q := 27) dX10_steps_23 dX10_steps_24 (by decide) rfl (by omega) (by omega) (fun h23 => ?_) (fun h23 => ?_)
    · refine v_lload_n (j := 3) (q := 33) rfl dX10_steps_32 rfl ?_
      refine v_ldc2 (n := 2097152) (q := 36) klX10_93 rfl dX10_steps_33 rfl ?_
      refine v_lrem (q := 37) (by omega) (by omega) dX10_steps_36 rfl ?_
      refine v_l2i (q := 38) (by omega) dX10_steps_37 rfl ?_
      refine v_iret dX10_steps_38 ?_
      refine ⟨_, rfl, ?_, RK.of h g1⟩
      unfold sStp lmS
      rw [if_pos h6, ← lm_ex]
      first
        | (rw [hc2 (by omega)]; rfl)
        | (rw [(hc1 (by omega)).1, show cutR c = c by omega]; rfl)
    · refine v_bipush (q := 29) (by decide) dX10_steps_27 rfl ?_
      refine v_goto (q := 38) dX10_steps_29 (by decide) ?_
      refine v_iret dX10_steps_38 ?_
      refine ⟨_, rfl, ?_, RK.of h g1⟩
      unfold sStp lmS
      rw [if_pos h6, ← lm_ex]
      first
        | (rw [hc2 (by omega)]; rfl)
        | (rw [(hc1 (by omega)).1, show cutR c = c by omega]; rfl)
  · refine v_iconst (q := 10) dX10_steps_9 rfl ?_
    refine v_iret dX10_steps_10 ?_
    exact ⟨_, rfl, by unfold sStp; rw [if_neg h6], RK.of h (frR.refl _)⟩
theorem lm_pos {y : Sy} (ok : okS y) {ex p : Int} {s : List Int} {q : Int} {t : List Int} {z : Int} (hz : z < 2097154097152) (h : TMn EN (RC BR y.2.2.2.2 ex p s q t) z) (h0 : z ≠ 0) : 0 < z % 2097152 := by
  have hw := okRs.w (S := y.1) (G := y.2.1) ok.2.2.2.2.2
  have hEN := EN_def
  obtain ⟨n, W, r, e⟩ := h.2.1 (by omega)
  have e : z = W * 2097152 + n := e
  have hl := r.le hw
  match n, r, e with
  | 0, r, e => exact absurd (by have := r.2.2; omega) h0
  | n + 1, r, e => omega
theorem c_X10_mean {LO : (Int → Int) → Sy → Prop} (p w : Int) (mem : Mem) (A : AS) (h : RJ LO mem A) (hp : R32 p) (hw : R32 w) : CtrF mX10_mean [aR 116, aI p, aI w] mem (fun z m => sMean A.1 p w = z ∧ RK LO mem A m) := by
  have ok := h.1.1.2.2.1
  refine Ctr.ofV (ls := [aR 116, aI p, aI w, aU, aU]) rfl (by decide) rfl (Nat.le_of_ble_eq_true rfl) ?_
  refine v_aload_n (j := 0) (q := 1) rfl dX10_mean_0 rfl ?_
  refine v_iload_n (j := 1) (q := 2) rfl dX10_mean_1 rfl ?_
  refine v_iload_n (j := 2) (q := 3) rfl dX10_mean_2 rfl ?_
  refine v_cVI2 (q := 6) dX10_mean_3 mlX10_143 mdX10_isAsked (by decide) kd_116 rfl rfl ⟨Nat.le_refl 0, Nat.le_refl 0⟩ (by exact Nat.le_of_ble_eq_true rfl) rfl (c_X10_isAsked p w mem A.1 h.1.1 hp hw) ?_
  rintro _ _ ⟨rfl, rfl⟩
  refine v_if_neB (tgt := 12) (q := 9) dX10_mean_6 (by decide) rfl (fun h6 => ?_) (fun h6 => ?_)
  · refine v_aload_n (j := 0) (q := 13) rfl dX10_mean_12 rfl ?_
    refine v_iload_n (j := 1) (q := 14) rfl dX10_mean_13 rfl ?_
    refine v_iload_n (j := 2) (q := 15) rfl dX10_mean_14 rfl ?_
    refine v_iconst (q := 16) dX10_mean_15 rfl ?_
    refine v_cVL3 (q := 19) dX10_mean_16 mlX10_140 mdX10_costTo (by decide) kd_116 rfl rfl ⟨Nat.le_refl 0, Nat.le_refl 0⟩ (by exact Nat.le_of_ble_eq_true rfl) rfl (c_X10_costTo p w (-1) mem A.1 h.1.1 h6 hw (by omega)) ?_
    rintro _ m1 ⟨g1, g2, g3, c, rfl, g4⟩
    obtain ⟨hc, hc1, hc2⟩ := lm_R ok g4
    have hcut := cutR_c hc
    have hpos : cutR c ≠ 0 → cutR c ≠ 4000000000000000000 → 0 < cutR c % 2097152 := (fun a b => (by have := (hc1 (by omega)).2; rw [show cutR c = c by omega] at a ⊢; exact lm_pos ok (by omega) g4 a))
    refine v_lst3 (q := 20) rfl dX10_mean_19 (by decide) rfl ?_
    refine v_lload_n (j := 3) (q := 21) rfl dX10_mean_20 rfl ?_
    refine v_ldc2 (n := 4000000000000000000) (q := 24) klX10_91 rfl dX10_mean_21 rfl ?_
    refine v_lcmp_ne (tgt := 31) (q := 28) dX10_mean_24 dX10_mean_25 (by decide) rfl (by omega) (by omega) (fun h24 => ?_) (fun h24 => ?_)
    · refine v_lload_n (j := 3) (q := 32) rfl dX10_mean_31 rfl ?_
      refine v_lconst0 (q := 33) dX10_mean_32 rfl ?_
      refine v_lcmp_ne (tgt := 41) (q := 37) dX10_mean_33 dX10_mean_34 (by decide) rfl (by omega) (by omega) (fun h33 => ?_) (fun h33 => ?_)
      · refine v_lload_n (j := 3) (q := 42) rfl dX10_mean_41 rfl ?_
        refine v_ldc2 (n := 2097152) (q := 45) klX10_93 rfl dX10_mean_42 rfl ?_
        refine v_ldiv (q := 46) (by omega) (by omega) dX10_mean_45 rfl ?_
        refine v_l2i (q := 47) (by omega) dX10_mean_46 rfl ?_
        refine v_i2f (q := 48) dX10_mean_47 rfl ?_
        refine v_lload_n (j := 3) (q := 49) rfl dX10_mean_48 rfl ?_
        refine v_ldc2 (n := 2097152) (q := 52) klX10_93 rfl dX10_mean_49 rfl ?_
        refine v_lrem (q := 53) (by omega) (by omega) dX10_mean_52 rfl ?_
        refine v_l2i (q := 54) (by omega) dX10_mean_53 rfl ?_
        refine v_i2f (q := 55) dX10_mean_54 rfl ?_
        refine v_fdiv (q := 56) (nn_div (by have := hpos h33 h24; omega)) dX10_mean_55 rfl ?_
        refine v_fret dX10_mean_56 ?_
        refine ⟨_, rfl, ?_, RK.of h g1⟩
        unfold sMean lmS
        rw [if_pos h6, ← lm_ex, (hc1 (by omega)).1]
        first
          | (have e : c = 0 := by omega
             rw [e]
             exact if_pos rfl)
          | (have := hpos h33 h24
             rw [show cutR c = c by omega] at this ⊢
             exact if_neg (by show ¬ c % 2097152 = 0; omega))
      · refine v_fconst0 (q := 38) dX10_mean_37 rfl ?_
        refine v_goto (q := 56) dX10_mean_38 (by decide) ?_
        refine v_fret dX10_mean_56 ?_
        refine ⟨_, rfl, ?_, RK.of h g1⟩
        unfold sMean lmS
        rw [if_pos h6, ← lm_ex, (hc1 (by omega)).1]
        first
          | (have e : c = 0 := by omega
             rw [e]
             exact if_pos rfl)
          | (have := hpos h33 h24
             rw [show cutR c = c by omega] at this ⊢
             exact if_neg (by show ¬ c % 2097152 = 0; omega))
    · refine v_ldcf (q := 30) klX10_155 dX10_mean_28 rfl ?_
      refine v_fret dX10_mean_30 ?_
      exact ⟨_, rfl, by unfold sMean lmS; rw [if_pos h6, ← lm_ex, hc2 (by omega)], RK.of h g1⟩
  · refine v_ldcf (q := 11) klX10_154 dX10_mean_9 rfl ?_
    refine v_fret dX10_mean_11 ?_
    exact ⟨_, rfl, by unfold sMean; rw [if_neg h6], RK.of h (frR.refl _)⟩
