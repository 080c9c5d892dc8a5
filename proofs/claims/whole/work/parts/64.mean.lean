/-! ===== StackLab.mean ===== -/
noncomputable def sMean (y : Sy) (p w : Int) : UInt32 := by
  classical
  exact if askd y p w then (match lmS y (-6) p (dgs w) with
    | some a => if a.2 = 0 then FP.fconst0 else FP.fdiv (FP.i2f (Int32.ofInt a.1)) (FP.i2f (Int32.ofInt a.2))
    | none => 0xC0C00000) else 0xBF800000
theorem n32_iff (r : UInt32) : vf_n32 r ↔ FP.Core.fIsNaN r = false := by
  have h0 := FP.Core.isNaN_bits32 r
  have h1 : vf_n32 r ↔ r.toNat % 2 ^ 31 ≤ 2139095040 := by
    unfold vf_n32
    rw [UInt32.le_iff_toNat_le, UInt32.toNat_and]
    have e1 : (0x7fffffff : UInt32).toNat = 2 ^ 31 - 1 := by decide
    have e2 : (0x7f800000 : UInt32).toNat = 2139095040 := by decide
    rw [e1, e2, Nat.and_two_pow_sub_one_eq_mod]
  rw [h1]
  cases h : FP.Core.fIsNaN r
  · rw [h] at h0
    refine ⟨fun _ => rfl, fun _ => Nat.not_lt.mp (fun h9 => absurd (h0.mpr h9) (by decide))⟩
  · rw [h] at h0
    exact ⟨fun h9 => absurd (h0.mp rfl) (Nat.not_lt.mpr h9), fun h9 => absurd h9 (by decide)⟩
theorem nn_div {a b : Int} (hb : 0 < b ∧ b ≤ 2147483647) : vf_n32 (FP.fdiv (FP.i2f (Int32.ofInt a)) (FP.i2f (Int32.ofInt b))) := by
  rw [n32_iff]
  refine FP.Core.fdiv_out ?_ (FP.Core.i2f_fin _) (fun hz => ?_)
  · have h1 := (FP.Core.fin_bits32 _).mp (FP.Core.i2f_fin (Int32.ofInt a))
    have h2 := FP.Core.isNaN_bits32 (FP.Core.i2f (Int32.ofInt a))
    cases h : FP.Core.fIsNaN (FP.Core.i2f (Int32.ofInt a))
    · first | exact h | rfl
    · have := h2.mp h
      omega
  · refine FP.Core.i2f_ne_zero (v := Int32.ofInt b) (fun e => ?_) ((FP.Core.zero_bits232 _).mp hz)
    have h := congrArg Int32.toInt e
    rw [Int32.toInt_ofInt_of_le (by omega) (by omega)] at h
    have h0 : (0 : Int32).toInt = 0 := rfl
    omega
theorem c_X9_mean {MO : Mem → Sy → Prop} (hMO : MOc MO) (p w : Int) (mem : Mem) (A : AS) (h : KI MO mem A) (hp : R32 p) (hw : R32 w) : CtrF mX9_mean [aR 0, aI p, aI w] mem (fun z m => sMean A.1 p w = z ∧ KQ MO mem A m) := by
  have f := h.1.1.facts
  obtain ⟨a1, a2, a3, a4, a5, hc⟩ := eA h.1.1
  have ok := h.1.1.2.2.1
  refine Ctr.ofV (ls := [aR 0, aI p, aI w, aU, aU, aU]) rfl (by decide) rfl (Nat.le_of_ble_eq_true rfl) ?_
  refine v_aload_n (j := 0) (q := 1) rfl dX9_mean_0 rfl ?_
  refine v_iload_n (j := 1) (q := 2) rfl dX9_mean_1 rfl ?_
  refine v_iload_n (j := 2) (q := 3) rfl dX9_mean_2 rfl ?_
  refine v_cVI2 (q := 6) dX9_mean_3 mlX9_169 mdX9_isAsked (by decide) kd_0 rfl rfl ⟨Nat.le_refl 0, Nat.le_refl 0⟩ (by exact Nat.le_of_ble_eq_true rfl) rfl (c_X9_isAsked p w mem hp hw (by omega) (by omega)) ?_
  rw [← a1, ← a2]
  rintro z0 m1 ⟨rfl, t1, t2⟩
  have h1 := h.wd hMO t1
  refine v_if_neB (tgt := 12) (q := 9) dX9_mean_6 (by decide) rfl (fun h6 => ?_) (fun h6 => ?_)
  · have hk : askd A.1 p w := h6
    refine v_aload_n (j := 0) (q := 13) rfl dX9_mean_12 rfl ?_
    refine v_iload_n (j := 1) (q := 14) rfl dX9_mean_13 rfl ?_
    refine v_cVL1 (q := 17) dX9_mean_14 mlX9_173 mdX9_costTo (by decide) kd_0 rfl rfl ⟨Nat.le_refl 0, Nat.le_refl 0⟩ (by exact Nat.le_of_ble_eq_true rfl) rfl (c_X9_costTo hMO m1 A.1 h1.1.1 h1.2 p (dgs w) hk.1 hk.d.1 hk.d.2 (t2 hk.2.1 hk.1)) ?_
    rintro z m2 ⟨o1, o2, o3, o4, o5, o6, o7⟩
    obtain ⟨hz, hz1, hz2⟩ := lm_C ok o3
    refine v_lst3 (q := 18) rfl dX9_mean_17 (by decide) rfl ?_
    refine v_lload_n (j := 3) (q := 19) rfl dX9_mean_18 rfl ?_
    refine v_ldc2 (n := 16777232777216) (q := 22) klX9_181 rfl dX9_mean_19 rfl ?_
    refine v_lcmp_lt (tgt := 29) (q := 26) dX9_mean_22 dX9_mean_23 (by decide) rfl (by omega) (by omega) (fun h22 => ?_) (fun h22 => ?_)
    · refine v_lload_n (j := 3) (q := 30) rfl dX9_mean_29 rfl ?_
      refine v_cSI1 (q := 33) dX9_mean_30 mlX9_183 mdX9_countOf (by decide) ⟨Nat.le_refl 0, Nat.le_refl 0⟩ (by exact Nat.le_of_ble_eq_true rfl) rfl (c_X9_countOf z m2 (by omega)) ?_
      rintro _ _ ⟨rfl, rfl⟩
      refine v_ist5 (q := 35) rfl dX9_mean_33 (by decide) rfl ?_
      refine v_iload (j := 5) (q := 37) rfl dX9_mean_35 rfl ?_
      refine v_if_ne (tgt := 44) (q := 40) dX9_mean_37 (by decide) rfl (by omega) (fun h37 => ?_) (fun h37 => ?_)
      · refine v_lload_n (j := 3) (q := 45) rfl dX9_mean_44 rfl ?_
        refine v_cSI1 (q := 48) dX9_mean_45 mlX9_196 mdX9_weightOf (by decide) ⟨Nat.le_refl 0, Nat.le_refl 0⟩ (by exact Nat.le_of_ble_eq_true rfl) rfl (c_X9_weightOf z m2 (by omega)) ?_
        rintro _ _ ⟨rfl, rfl⟩
        refine v_i2f (q := 49) dX9_mean_48 rfl ?_
        refine v_iload (j := 5) (q := 51) rfl dX9_mean_49 rfl ?_
        refine v_i2f (q := 52) dX9_mean_51 rfl ?_
        refine v_fdiv (q := 53) (nn_div (by omega)) dX9_mean_52 rfl ?_
        refine v_fret dX9_mean_53 ?_
        refine ⟨_, rfl, ?_, KQ.of h1.1 t1 (fun r r0 r1 => o1 r r0 (by omega)) o4⟩
        unfold sMean lmS
        rw [if_pos hk, (hz1 (by omega)).1]
        first
          | exact if_pos h37
          | exact if_neg h37
      · refine v_fconst0 (q := 41) dX9_mean_40 rfl ?_
        refine v_goto (q := 53) dX9_mean_41 (by decide) ?_
        refine v_fret dX9_mean_53 ?_
        refine ⟨_, rfl, ?_, KQ.of h1.1 t1 (fun r r0 r1 => o1 r r0 (by omega)) o4⟩
        unfold sMean lmS
        rw [if_pos hk, (hz1 (by omega)).1]
        first
          | exact if_pos h37
          | exact if_neg h37
    · refine v_ldcf (q := 28) klX9_195 dX9_mean_26 rfl ?_
      refine v_fret dX9_mean_28 ?_
      exact ⟨_, rfl, by unfold sMean lmS; rw [if_pos hk, hz2 (by omega)], KQ.of h1.1 t1 (fun r r0 r1 => o1 r r0 (by omega)) o4⟩
  · refine v_ldcf (q := 11) klX9_194 dX9_mean_9 rfl ?_
    refine v_fret dX9_mean_11 ?_
    exact ⟨_, rfl, by unfold sMean; rw [if_neg (show ¬ askd A.1 p w from h6)], h1.1, h1.2, fun q hq => t1 q (by omega) (by omega)⟩
