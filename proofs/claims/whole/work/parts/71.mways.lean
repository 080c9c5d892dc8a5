/-! ===== the reference: ways ===== -/
def EN : Int := 4000000000000000000
theorem EN_def : EN = 4000000000000000000 := rfl
def BR : Int := 2097152
def ix (f x s : Int) : Int := 55 * f + 11 * (x - 1) + s
theorem c_X10_way (f x s : Int) (mem : Mem) (hf : 0 ≤ f ∧ f < 11) (hx : 1 ≤ x ∧ x ≤ 5) (hs : 0 ≤ s ∧ s < 11) : CtrL mX10_way [aR 116, aI f, aI x, aI s] mem (fun z m => mem = m ∧ mem 120 (ix f x s) = z) := by
  refine Ctr.ofV (ls := [aR 116, aI f, aI x, aI s]) rfl (by decide) rfl (Nat.le_of_ble_eq_true rfl) ?_
  refine v_aload_n (j := 0) (q := 1) rfl dX10_way_0 rfl ?_
  refine v_getR (p' := 120) (q := 4) dX10_way_1 fl_X10_19 kd_116 rfl (rfc_10_6 kd_116) rfl ?_
  refine v_bipush (q := 6) (by decide) dX10_way_4 rfl ?_
  refine v_iload_n (j := 1) (q := 7) rfl dX10_way_6 rfl ?_
  refine v_imul (q := 8) dX10_way_7 rfl ?_
  refine v_bipush (q := 10) (by decide) dX10_way_8 rfl ?_
  refine v_iload_n (j := 2) (q := 11) rfl dX10_way_10 rfl ?_
  refine v_iconst (q := 12) dX10_way_11 rfl ?_
  refine v_isub (q := 13) dX10_way_12 rfl ?_
  refine v_imul (q := 14) dX10_way_13 rfl ?_
  refine v_iadd (q := 15) dX10_way_14 rfl ?_
  refine v_iload_n (j := 3) (q := 16) rfl dX10_way_15 rfl ?_
  refine v_iadd (q := 17) dX10_way_16 rfl ?_
  refine v_lald (q := 18) dX10_way_17 kd_120 (by omega) (by omega) rfl ?_
  refine v_lret dX10_way_18 ?_
  exact ⟨_, rfl, rfl, rfl⟩
theorem c_X10_improve (f x s c : Int) (mem : Mem) (hf : 0 ≤ f ∧ f < 11) (hx : 1 ≤ x ∧ x ≤ 5) (hs : 0 ≤ s ∧ s < 11) (hc : R64 c) (hm : R64 (mem 120 (ix f x s))) : CtrI mX10_improve [aR 116, aI f, aI x, aI s, aL c] mem (fun z m => ∃ C : Prop, bI C = z ∧ (C ↔ c < mem 120 (ix f x s) ∧ c < EN) ∧ (C → sm mem 120 (ui (mem 120) (ix f x s) c) = m) ∧ (¬ C → mem = m)) := by
  have hm2 : R64 (mem 120 (55 * f + 11 * (x - 1) + s)) := hm
  have hEN := EN_def
  have e1 : um mem 120 (55 * f + 11 * (x - 1) + s) (mem 120 (55 * f + 11 * (x - 1) + s)) = mem := by
    refine (eq_sm (p := 120) (f := mem 120) (fun p hp => um_ne _ _ _ hp) (fun j => ?_)).trans (sm_id mem 120 (fun _ => rfl))
    rw [um_same]
    unfold ui
    split
    · rename_i e; rw [e]
    · rfl
  have e2 : um mem 120 (55 * f + 11 * (x - 1) + s) c = sm mem 120 (ui (mem 120) (ix f x s) c) := eq_sm (fun p hp => um_ne _ _ _ hp) (fun j => by rw [um_same]; rfl)
  refine Ctr.ofV (ls := [aR 116, aI f, aI x, aI s, aL c, aU, aU, aU]) rfl (by decide) rfl (Nat.le_of_ble_eq_true rfl) ?_
  refine v_bipush (q := 2) (by decide) dX10_improve_0 rfl ?_
  refine v_iload_n (j := 1) (q := 3) rfl dX10_improve_2 rfl ?_
  refine v_imul (q := 4) dX10_improve_3 rfl ?_
  refine v_bipush (q := 6) (by decide) dX10_improve_4 rfl ?_
  refine v_iload_n (j := 2) (q := 7) rfl dX10_improve_6 rfl ?_
  refine v_iconst (q := 8) dX10_improve_7 rfl ?_
  refine v_isub (q := 9) dX10_improve_8 rfl ?_
  refine v_imul (q := 10) dX10_improve_9 rfl ?_
  refine v_iadd (q := 11) dX10_improve_10 rfl ?_
  refine v_iload_n (j := 3) (q := 12) rfl dX10_improve_11 rfl ?_
  refine v_iadd (q := 13) dX10_improve_12 rfl ?_
  refine v_ist6 (q := 15) rfl dX10_improve_13 (by decide) rfl ?_
  refine v_lload (j := 4) (q := 17) rfl dX10_improve_15 rfl ?_
  refine v_aload_n (j := 0) (q := 18) rfl dX10_improve_17 rfl ?_
  refine v_getR (p' := 120) (q := 21) dX10_improve_18 fl_X10_19 kd_116 rfl (rfc_10_6 kd_116) rfl ?_
  refine v_iload (j := 6) (q := 23) rfl dX10_improve_21 rfl ?_
  refine v_lald (q := 24) dX10_improve_23 kd_120 (by omega) (by omega) rfl ?_
  refine v_lcmp_ge (tgt := 41) (q := 28) dX10_improve_24 dX10_improve_25 (by decide) rfl (by omega) (by omega) (fun h24 => ?_) (fun h24 => ?_)
  · refine v_iconst (q := 42) dX10_improve_41 rfl ?_
    refine v_ist7 (q := 44) rfl dX10_improve_42 (by decide) rfl ?_
    refine v_aload_n (j := 0) (q := 45) rfl dX10_improve_44 rfl ?_
    refine v_getR (p' := 120) (q := 48) dX10_improve_45 fl_X10_19 kd_116 rfl (rfc_10_6 kd_116) rfl ?_
    refine v_iload (j := 6) (q := 50) rfl dX10_improve_48 rfl ?_
    refine v_iload (j := 7) (q := 52) rfl dX10_improve_50 rfl ?_
    refine v_if_eq (tgt := 60) (q := 55) dX10_improve_52 (by decide) rfl (by omega) (fun h52 => ?_) (fun h52 => ?_)
    · refine v_aload_n (j := 0) (q := 61) rfl dX10_improve_60 rfl ?_
      refine v_getR (p' := 120) (q := 64) dX10_improve_61 fl_X10_19 kd_116 rfl (rfc_10_6 kd_116) rfl ?_
      refine v_iload (j := 6) (q := 66) rfl dX10_improve_64 rfl ?_
      refine v_lald (q := 67) dX10_improve_66 kd_120 (by omega) (by omega) rfl ?_
      refine v_last (q := 68) dX10_improve_67 kd_120 (by omega) (by omega) rfl ?_
      refine v_iload (j := 7) (q := 70) rfl dX10_improve_68 rfl ?_
      refine v_zret (by first | exact Or.inl rfl | exact Or.inr rfl | exact bI_01 _ | omega) dX10_improve_70 ?_
      first
        | (rw [e1]
           exact ⟨0, rfl, False, bI_0.symm, ⟨fun h => h.elim, fun h => by have := h.1; have : c < mem 120 (55 * f + 11 * (x - 1) + s) := this; omega⟩, fun h => h.elim, fun _ => rfl⟩)
        | (rw [e2]
           exact ⟨1, rfl, True, bI_1.symm, ⟨fun _ => ⟨by show c < mem 120 (55 * f + 11 * (x - 1) + s); omega, by omega⟩, fun _ => trivial⟩, fun _ => rfl, fun h => absurd trivial h⟩)
    · exact absurd h52 (by omega)
  · refine v_lload (j := 4) (q := 30) rfl dX10_improve_28 rfl ?_
    refine v_ldc2 (n := 4000000000000000000) (q := 33) klX10_91 rfl dX10_improve_30 rfl ?_
    refine v_lcmp_ge (tgt := 41) (q := 37) dX10_improve_33 dX10_improve_34 (by decide) rfl (by omega) (by omega) (fun h33 => ?_) (fun h33 => ?_)
    · refine v_iconst (q := 42) dX10_improve_41 rfl ?_
      refine v_ist7 (q := 44) rfl dX10_improve_42 (by decide) rfl ?_
      refine v_aload_n (j := 0) (q := 45) rfl dX10_improve_44 rfl ?_
      refine v_getR (p' := 120) (q := 48) dX10_improve_45 fl_X10_19 kd_116 rfl (rfc_10_6 kd_116) rfl ?_
      refine v_iload (j := 6) (q := 50) rfl dX10_improve_48 rfl ?_
      refine v_iload (j := 7) (q := 52) rfl dX10_improve_50 rfl ?_
      refine v_if_eq (tgt := 60) (q := 55) dX10_improve_52 (by decide) rfl (by omega) (fun h52 => ?_) (fun h52 => ?_)
      · refine v_aload_n (j := 0) (q := 61) rfl dX10_improve_60 rfl ?_
        refine v_getR (p' := 120) (q := 64) dX10_improve_61 fl_X10_19 kd_116 rfl (rfc_10_6 kd_116) rfl ?_
        refine v_iload (j := 6) (q := 66) rfl dX10_improve_64 rfl ?_
        refine v_lald (q := 67) dX10_improve_66 kd_120 (by omega) (by omega) rfl ?_
        refine v_last (q := 68) dX10_improve_67 kd_120 (by omega) (by omega) rfl ?_
        refine v_iload (j := 7) (q := 70) rfl dX10_improve_68 rfl ?_
        refine v_zret (by first | exact Or.inl rfl | exact Or.inr rfl | exact bI_01 _ | omega) dX10_improve_70 ?_
        first
          | (rw [e1]
             exact ⟨0, rfl, False, bI_0.symm, ⟨fun h => h.elim, fun h => by have := h.1; have : c < mem 120 (55 * f + 11 * (x - 1) + s) := this; omega⟩, fun h => h.elim, fun _ => rfl⟩)
          | (rw [e2]
             exact ⟨1, rfl, True, bI_1.symm, ⟨fun _ => ⟨by show c < mem 120 (55 * f + 11 * (x - 1) + s); omega, by omega⟩, fun _ => trivial⟩, fun _ => rfl, fun h => absurd trivial h⟩)
      · exact absurd h52 (by omega)
    · refine v_iconst (q := 38) dX10_improve_37 rfl ?_
      refine v_goto (q := 42) dX10_improve_38 (by decide) ?_
      refine v_ist7 (q := 44) rfl dX10_improve_42 (by decide) rfl ?_
      refine v_aload_n (j := 0) (q := 45) rfl dX10_improve_44 rfl ?_
      refine v_getR (p' := 120) (q := 48) dX10_improve_45 fl_X10_19 kd_116 rfl (rfc_10_6 kd_116) rfl ?_
      refine v_iload (j := 6) (q := 50) rfl dX10_improve_48 rfl ?_
      refine v_iload (j := 7) (q := 52) rfl dX10_improve_50 rfl ?_
      refine v_if_eq (tgt := 60) (q := 55) dX10_improve_52 (by decide) rfl (by omega) (fun h52 => ?_) (fun h52 => ?_)
      · exact absurd h52 (by omega)
      · refine v_lload (j := 4) (q := 57) rfl dX10_improve_55 rfl ?_
        refine v_goto (q := 67) dX10_improve_57 (by decide) ?_
        refine v_last (q := 68) dX10_improve_67 kd_120 (by omega) (by omega) rfl ?_
        refine v_iload (j := 7) (q := 70) rfl dX10_improve_68 rfl ?_
        refine v_zret (by first | exact Or.inl rfl | exact Or.inr rfl | exact bI_01 _ | omega) dX10_improve_70 ?_
        first
          | (rw [e1]
             exact ⟨0, rfl, False, bI_0.symm, ⟨fun h => h.elim, fun h => by have := h.1; have : c < mem 120 (55 * f + 11 * (x - 1) + s) := this; omega⟩, fun h => h.elim, fun _ => rfl⟩)
          | (rw [e2]
             exact ⟨1, rfl, True, bI_1.symm, ⟨fun _ => ⟨by show c < mem 120 (55 * f + 11 * (x - 1) + s); omega, by omega⟩, fun _ => trivial⟩, fun _ => rfl, fun h => absurd trivial h⟩)
theorem c_X10_cost (k : Int) (mem : Mem) (hk : 0 ≤ k ∧ k < 20) (hr : 1 ≤ mem 117 (5 + 5 * k + 4) ∧ mem 117 (5 + 5 * k + 4) ≤ 20) : CtrL mX10_cost [aR 116, aI k] mem (fun z m => mem = m ∧ mem 117 (5 + 5 * k + 4) * BR + 1 = z) := by
  have hBR : BR = 2097152 := rfl
  refine Ctr.ofV (ls := [aR 116, aI k]) rfl (by decide) rfl (Nat.le_of_ble_eq_true rfl) ?_
  refine v_ldc2 (n := 2097152) (q := 3) klX10_93 rfl dX10_cost_0 rfl ?_
  refine v_aload_n (j := 0) (q := 4) rfl dX10_cost_3 rfl ?_
  refine v_iload_n (j := 1) (q := 5) rfl dX10_cost_4 rfl ?_
  refine v_iconst (q := 6) dX10_cost_5 rfl ?_
  refine v_cVI2 (q := 9) dX10_cost_6 mlX10_67 mdX10_of (by decide) kd_116 rfl rfl ⟨Nat.le_refl 0, Nat.le_refl 0⟩ (by exact Nat.le_of_ble_eq_true rfl) rfl (c_X10_of k 4 mem (by omega) (by omega)) ?_
  rintro _ _ ⟨rfl, rfl⟩
  refine v_i2l (q := 10) (by omega) dX10_cost_9 rfl ?_
  refine v_lmul (q := 11) dX10_cost_10 rfl ?_
  refine v_lconst1 (q := 12) dX10_cost_11 rfl ?_
  refine v_ladd (q := 13) dX10_cost_12 rfl ?_
  refine v_lret dX10_cost_13 ?_
  exact ⟨_, rfl, rfl, by rw [hBR]; omega⟩
/-- what a way of the reference stands for: the aim is q, t -/
def WY (rs : List Rl) (ex q : Int) (t : List Int) (f : Int) (l : List Int) (s c : Int) : Prop := (s < 5 ∧ RC BR rs ex f l s [] c) ∨ (5 ≤ s ∧ s < 5 + t.length ∧ RC BR rs ex f l q (t.take (s - 4).toNat) c)
def SndW (y : Sy) (ex q : Int) (t : List Int) (v : Int → Int) : Prop := (∀ i, 0 ≤ i → i < 605 → 0 ≤ v i ∧ v i ≤ EN) ∧ ∀ f x s, 0 ≤ f → f < 11 → 1 ≤ x → x ≤ 5 → 0 ≤ s → s < 11 → v (ix f x s) < EN → (f < y.1 ∧ WY y.2.2.2.2 ex q t f [x] s (v (ix f x s))) ∨ (5 ≤ f ∧ f - 4 < t.length ∧ x = t.getD (f - 4).toNat 0 ∧ s = f + 1 ∧ v (ix f x s) = 0)
theorem ix_inj {f x s f2 x2 s2 : Int} (hx : 1 ≤ x ∧ x ≤ 5) (hs : 0 ≤ s ∧ s < 11) (hx2 : 1 ≤ x2 ∧ x2 ≤ 5) (hs2 : 0 ≤ s2 ∧ s2 < 11) (h : ix f x s = ix f2 x2 s2) : f = f2 ∧ x = x2 ∧ s = s2 := by
  unfold ix at h
  omega
theorem ix_rng {f x s : Int} (hf : 0 ≤ f ∧ f < 11) (hx : 1 ≤ x ∧ x ≤ 5) (hs : 0 ≤ s ∧ s < 11) : 0 ≤ ix f x s ∧ ix f x s < 605 := by
  unfold ix
  omega
