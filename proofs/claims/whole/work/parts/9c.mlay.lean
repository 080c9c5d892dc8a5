/-! ===== the reference: arcs ===== -/
def FAR : Int := 2000000000
theorem FAR_def : FAR = 2000000000 := rfl
def ax (f l s : Int) : Int := 210 * f + 35 * l + s
def inX (f l s : Int) : Prop := (0 ≤ f ∧ f < 35) ∧ (0 ≤ l ∧ l < 6) ∧ (0 ≤ s ∧ s < 35)
theorem ax_rng {f l s : Int} (h : inX f l s) : 0 ≤ ax f l s ∧ ax f l s < 7350 := by
  obtain ⟨a, b, c⟩ := h
  unfold ax
  omega
theorem ax_inj {f l s f2 l2 s2 : Int} (h : inX f l s) (h2 : inX f2 l2 s2) (e : ax f l s = ax f2 l2 s2) : f = f2 ∧ l = l2 ∧ s = s2 := by
  obtain ⟨a, b, c⟩ := h
  obtain ⟨a2, b2, c2⟩ := h2
  unfold ax at e
  omega
def ATr (v : Int → Int) : Prop := ∀ i, 0 ≤ i → i < 7350 → v i = FAR ∨ (0 ≤ v i ∧ v i ≤ 1000000)
def ASnd (y : Sy) (v : Int → Int) : Prop := ATr v ∧ ∀ f l s, inX f l s → v (ax f l s) < FAR → AD y f l s (v (ax f l s))
theorem ATr.at {v : Int → Int} (h : ATr v) {f l s : Int} (hx : inX f l s) : v (ax f l s) = FAR ∨ (0 ≤ v (ax f l s) ∧ v (ax f l s) ≤ 1000000) := h _ (ax_rng hx).1 (ax_rng hx).2
theorem c_X10_arcAt (f l s : Int) (mem : Mem) : CtrI mX10_arcAt [aI f, aI l, aI s] mem (fun z m => mem = m ∧ ax f l s = z) := by
  refine Ctr.ofV (ls := [aI f, aI l, aI s]) rfl (by decide) rfl (Nat.le_of_ble_eq_true rfl) ?_
  refine v_sipush (q := 3) (by decide) dX10_arcAt_0 rfl ?_
  refine v_iload_n (j := 0) (q := 4) rfl dX10_arcAt_3 rfl ?_
  refine v_imul (q := 5) dX10_arcAt_4 rfl ?_
  refine v_bipush (q := 7) (by decide) dX10_arcAt_5 rfl ?_
  refine v_iload_n (j := 1) (q := 8) rfl dX10_arcAt_7 rfl ?_
  refine v_imul (q := 9) dX10_arcAt_8 rfl ?_
  refine v_iadd (q := 10) dX10_arcAt_9 rfl ?_
  refine v_iload_n (j := 2) (q := 11) rfl dX10_arcAt_10 rfl ?_
  refine v_iadd (q := 12) dX10_arcAt_11 rfl ?_
  refine v_iret dX10_arcAt_12 ?_
  exact ⟨_, rfl, rfl, rfl⟩
theorem c_X10_nodeOf (q x : Int) (mem : Mem) : CtrI mX10_nodeOf [aI q, aI x] mem (fun z m => mem = m ∧ nodH q x = z) := by
  refine Ctr.ofV (ls := [aI q, aI x]) rfl (by decide) rfl (Nat.le_of_ble_eq_true rfl) ?_
  refine v_bipush (q := 2) (by decide) dX10_nodeOf_0 rfl ?_
  refine v_iconst (q := 3) dX10_nodeOf_2 rfl ?_
  refine v_iload_n (j := 0) (q := 4) rfl dX10_nodeOf_3 rfl ?_
  refine v_imul (q := 5) dX10_nodeOf_4 rfl ?_
  refine v_iadd (q := 6) dX10_nodeOf_5 rfl ?_
  refine v_iload_n (j := 1) (q := 7) rfl dX10_nodeOf_6 rfl ?_
  refine v_iadd (q := 8) dX10_nodeOf_7 rfl ?_
  refine v_iconst (q := 9) dX10_nodeOf_8 rfl ?_
  refine v_isub (q := 10) dX10_nodeOf_9 rfl ?_
  refine v_iret dX10_nodeOf_10 ?_
  exact ⟨_, rfl, rfl, rfl⟩
theorem c_X10_lessen (f l s w : Int) (mem : Mem) (hx : inX f l s) (hw : R32 w) (ha : ATr (mem 123)) : CtrI mX10_lessen [aR 116, aI f, aI l, aI s, aI w] mem (fun z m => ∃ C : Prop, bI C = z ∧ (C ↔ w ≤ 1000000 ∧ w < mem 123 (ax f l s)) ∧ (C → sm mem 123 (ui (mem 123) (ax f l s) w) = m) ∧ (¬ C → mem = m)) := by
  have hF := FAR_def
  have r := ax_rng hx
  have a := ha.at hx
  obtain ⟨i, hi⟩ : ∃ i, i = ax f l s := ⟨_, rfl⟩
  rw [← hi] at r a ⊢
  have e1 : um mem 123 i (mem 123 i) = mem := um_id mem 123 i
  refine Ctr.ofV (ls := [aR 116, aI f, aI l, aI s, aI w, aU]) rfl (by decide) rfl (Nat.le_of_ble_eq_true rfl) ?_
  refine v_iload (j := 4) (q := 2) rfl dX10_lessen_0 rfl ?_
  refine v_ldc (n := 1000000) (q := 4) klX10_159 rfl dX10_lessen_2 rfl ?_
  refine v_icmp_gt (tgt := 27) (q := 7) dX10_lessen_4 (by decide) rfl (by omega) (by omega) (fun h4 => ?_) (fun h4 => ?_)
  · refine v_iconst (q := 28) dX10_lessen_27 rfl ?_
    refine v_ist5 (q := 30) rfl dX10_lessen_28 (by decide) rfl ?_
    refine v_aload_n (j := 0) (q := 31) rfl dX10_lessen_30 rfl ?_
    refine v_getR (p' := 123) (q := 34) dX10_lessen_31 fl_X10_29 kd_116 rfl (rfc_10_12 kd_116) rfl ?_
    refine v_iload_n (j := 1) (q := 35) rfl dX10_lessen_34 rfl ?_
    refine v_iload_n (j := 2) (q := 36) rfl dX10_lessen_35 rfl ?_
    refine v_iload_n (j := 3) (q := 37) rfl dX10_lessen_36 rfl ?_
    refine v_cSI3 (q := 40) dX10_lessen_37 mlX10_160 mdX10_arcAt (by decide) ⟨Nat.le_refl 0, Nat.le_refl 0⟩ (by exact Nat.le_of_ble_eq_true rfl) rfl (c_X10_arcAt f l s mem) ?_
    rw [← hi]
    rintro _ _ ⟨rfl, rfl⟩
    refine v_iload (j := 5) (q := 42) rfl dX10_lessen_40 rfl ?_
    refine v_if_eq (tgt := 50) (q := 45) dX10_lessen_42 (by decide) rfl (by omega) (fun h42 => ?_) (fun h42 => ?_)
    · refine v_aload_n (j := 0) (q := 51) rfl dX10_lessen_50 rfl ?_
      refine v_getR (p' := 123) (q := 54) dX10_lessen_51 fl_X10_29 kd_116 rfl (rfc_10_12 kd_116) rfl ?_
      refine v_iload_n (j := 1) (q := 55) rfl dX10_lessen_54 rfl ?_
      refine v_iload_n (j := 2) (q := 56) rfl dX10_lessen_55 rfl ?_
      refine v_iload_n (j := 3) (q := 57) rfl dX10_lessen_56 rfl ?_
      refine v_cSI3 (q := 60) dX10_lessen_57 mlX10_160 mdX10_arcAt (by decide) ⟨Nat.le_refl 0, Nat.le_refl 0⟩ (by exact Nat.le_of_ble_eq_true rfl) rfl (c_X10_arcAt f l s mem) ?_
      rw [← hi]
      rintro _ _ ⟨rfl, rfl⟩
      refine v_iald (q := 61) dX10_lessen_60 kd_123 (by omega) (by omega) rfl ?_
      refine v_iast (q := 62) dX10_lessen_61 kd_123 (by omega) (by omega) rfl ?_
      refine v_iload (j := 5) (q := 64) rfl dX10_lessen_62 rfl ?_
      refine v_zret (by first | exact Or.inl rfl | exact Or.inr rfl | exact bI_01 _ | omega) dX10_lessen_64 ?_
      first
        | (have hno : ¬ (w ≤ 1000000 ∧ w < mem 123 i) := by omega
           rw [e1]
           exact ⟨0, rfl, False, bI_0.symm, ⟨fun h => h.elim, fun h => hno h⟩, fun h => h.elim, fun _ => rfl⟩)
        | (rw [um_sm]
           exact ⟨1, rfl, True, bI_1.symm, ⟨fun _ => by omega, fun _ => trivial⟩, fun _ => rfl, fun h => absurd trivial h⟩)
    · exact absurd h42 (by omega)
  · refine v_iload (j := 4) (q := 9) rfl dX10_lessen_7 rfl ?_
    refine v_aload_n (j := 0) (q := 10) rfl dX10_lessen_9 rfl ?_
    refine v_getR (p' := 123) (q := 13) dX10_lessen_10 fl_X10_29 kd_116 rfl (rfc_10_12 kd_116) rfl ?_
    refine v_iload_n (j := 1) (q := 14) rfl dX10_lessen_13 rfl ?_
    refine v_iload_n (j := 2) (q := 15) rfl dX10_lessen_14 rfl ?_
    refine v_iload_n (j := 3) (q := 16) rfl dX10_lessen_15 rfl ?_
    refine v_cSI3 (q := 19) dX10_lessen_16 mlX10_160 mdX10_arcAt (by decide) ⟨Nat.le_refl 0, Nat.le_refl 0⟩ (by exact Nat.le_of_ble_eq_true rfl) rfl (c_X10_arcAt f l s mem) ?_
    rw [← hi]
    rintro _ _ ⟨rfl, rfl⟩
    refine v_iald (q := 20) dX10_lessen_19 kd_123 (by omega) (by omega) rfl ?_
    refine v_icmp_ge (tgt := 27) (q := 23) dX10_lessen_20 (by decide) rfl (by omega) (by omega) (fun h20 => ?_) (fun h20 => ?_)
    · refine v_iconst (q := 28) dX10_lessen_27 rfl ?_
      refine v_ist5 (q := 30) rfl dX10_lessen_28 (by decide) rfl ?_
      refine v_aload_n (j := 0) (q := 31) rfl dX10_lessen_30 rfl ?_
      refine v_getR (p' := 123) (q := 34) dX10_lessen_31 fl_X10_29 kd_116 rfl (rfc_10_12 kd_116) rfl ?_
      refine v_iload_n (j := 1) (q := 35) rfl dX10_lessen_34 rfl ?_
      refine v_iload_n (j := 2) (q := 36) rfl dX10_lessen_35 rfl ?_
      refine v_iload_n (j := 3) (q := 37) rfl dX10_lessen_36 rfl ?_
      refine v_cSI3 (q := 40) dX10_lessen_37 mlX10_160 mdX10_arcAt (by decide) ⟨Nat.le_refl 0, Nat.le_refl 0⟩ (by exact Nat.le_of_ble_eq_true rfl) rfl (c_X10_arcAt f l s mem) ?_
      rw [← hi]
      rintro _ _ ⟨rfl, rfl⟩
      refine v_iload (j := 5) (q := 42) rfl dX10_lessen_40 rfl ?_
      refine v_if_eq (tgt := 50) (q := 45) dX10_lessen_42 (by decide) rfl (by omega) (fun h42 => ?_) (fun h42 => ?_)
      · refine v_aload_n (j := 0) (q := 51) rfl dX10_lessen_50 rfl ?_
        refine v_getR (p' := 123) (q := 54) dX10_lessen_51 fl_X10_29 kd_116 rfl (rfc_10_12 kd_116) rfl ?_
        refine v_iload_n (j := 1) (q := 55) rfl dX10_lessen_54 rfl ?_
        refine v_iload_n (j := 2) (q := 56) rfl dX10_lessen_55 rfl ?_
        refine v_iload_n (j := 3) (q := 57) rfl dX10_lessen_56 rfl ?_
        refine v_cSI3 (q := 60) dX10_lessen_57 mlX10_160 mdX10_arcAt (by decide) ⟨Nat.le_refl 0, Nat.le_refl 0⟩ (by exact Nat.le_of_ble_eq_true rfl) rfl (c_X10_arcAt f l s mem) ?_
        rw [← hi]
        rintro _ _ ⟨rfl, rfl⟩
        refine v_iald (q := 61) dX10_lessen_60 kd_123 (by omega) (by omega) rfl ?_
        refine v_iast (q := 62) dX10_lessen_61 kd_123 (by omega) (by omega) rfl ?_
        refine v_iload (j := 5) (q := 64) rfl dX10_lessen_62 rfl ?_
        refine v_zret (by first | exact Or.inl rfl | exact Or.inr rfl | exact bI_01 _ | omega) dX10_lessen_64 ?_
        first
          | (have hno : ¬ (w ≤ 1000000 ∧ w < mem 123 i) := by omega
             rw [e1]
             exact ⟨0, rfl, False, bI_0.symm, ⟨fun h => h.elim, fun h => hno h⟩, fun h => h.elim, fun _ => rfl⟩)
          | (rw [um_sm]
             exact ⟨1, rfl, True, bI_1.symm, ⟨fun _ => by omega, fun _ => trivial⟩, fun _ => rfl, fun h => absurd trivial h⟩)
      · exact absurd h42 (by omega)
    · refine v_iconst (q := 24) dX10_lessen_23 rfl ?_
      refine v_goto (q := 28) dX10_lessen_24 (by decide) ?_
      refine v_ist5 (q := 30) rfl dX10_lessen_28 (by decide) rfl ?_
      refine v_aload_n (j := 0) (q := 31) rfl dX10_lessen_30 rfl ?_
      refine v_getR (p' := 123) (q := 34) dX10_lessen_31 fl_X10_29 kd_116 rfl (rfc_10_12 kd_116) rfl ?_
      refine v_iload_n (j := 1) (q := 35) rfl dX10_lessen_34 rfl ?_
      refine v_iload_n (j := 2) (q := 36) rfl dX10_lessen_35 rfl ?_
      refine v_iload_n (j := 3) (q := 37) rfl dX10_lessen_36 rfl ?_
      refine v_cSI3 (q := 40) dX10_lessen_37 mlX10_160 mdX10_arcAt (by decide) ⟨Nat.le_refl 0, Nat.le_refl 0⟩ (by exact Nat.le_of_ble_eq_true rfl) rfl (c_X10_arcAt f l s mem) ?_
      rw [← hi]
      rintro _ _ ⟨rfl, rfl⟩
      refine v_iload (j := 5) (q := 42) rfl dX10_lessen_40 rfl ?_
      refine v_if_eq (tgt := 50) (q := 45) dX10_lessen_42 (by decide) rfl (by omega) (fun h42 => ?_) (fun h42 => ?_)
      · exact absurd h42 (by omega)
      · refine v_iload (j := 4) (q := 47) rfl dX10_lessen_45 rfl ?_
        refine v_goto (q := 61) dX10_lessen_47 (by decide) ?_
        refine v_iast (q := 62) dX10_lessen_61 kd_123 (by omega) (by omega) rfl ?_
        refine v_iload (j := 5) (q := 64) rfl dX10_lessen_62 rfl ?_
        refine v_zret (by first | exact Or.inl rfl | exact Or.inr rfl | exact bI_01 _ | omega) dX10_lessen_64 ?_
        first
          | (have hno : ¬ (w ≤ 1000000 ∧ w < mem 123 i) := by omega
             rw [e1]
             exact ⟨0, rfl, False, bI_0.symm, ⟨fun h => h.elim, fun h => hno h⟩, fun h => h.elim, fun _ => rfl⟩)
          | (rw [um_sm]
             exact ⟨1, rfl, True, bI_1.symm, ⟨fun _ => by omega, fun _ => trivial⟩, fun _ => rfl, fun h => absurd trivial h⟩)
def RDw (v : Int → Int) (p x s R : Int) : Prop := v (ax p x s) = R ∨ ∃ t, 0 ≤ t ∧ t < 35 ∧ v (ax p 0 t) < FAR ∧ v (ax t x s) < FAR ∧ R = v (ax p 0 t) + v (ax t x s)
/-- what reads tells of a table -/
def RDv (v : Int → Int) (p x s R : Int) : Prop := (R = FAR ∨ (0 ≤ R ∧ R ≤ 1000000)) ∧ (R < FAR → RDw v p x s R) ∧ R ≤ v (ax p x s) ∧ ∀ t, 0 ≤ t → t < 35 → v (ax p 0 t) < FAR → v (ax t x s) < FAR → v (ax p 0 t) + v (ax t x s) ≤ 1000000 → R ≤ v (ax p 0 t) + v (ax t x s)
theorem l_X10_reads (p x s : Int) (mem : Mem) (hp : 0 ≤ p ∧ p < 35) (hx : 1 ≤ x ∧ x < 6) (hs : 0 ≤ s ∧ s < 35) (ha : ATr (mem 123)) :
    ∀ (n : Nat) (t R : Int) (u6 u7 : AV), t + n = 35 → 0 ≤ t → (R = FAR ∨ (0 ≤ R ∧ R ≤ 1000000)) → (R < FAR → RDw (mem 123) p x s R) → R ≤ mem 123 (ax p x s) → (∀ i, 0 ≤ i → i < t → mem 123 (ax p 0 i) < FAR → mem 123 (ax i x s) < FAR → mem 123 (ax p 0 i) + mem 123 (ax i x s) ≤ 1000000 → R ≤ mem 123 (ax p 0 i) + mem 123 (ax i x s)) →
    V cX10_reads RX10 8 (some .int) (rmk 1 22) (mE (fun r m => ∃ z, r = aI z ∧ mem = m ∧ RDv (mem 123) p x s z)) 16 [aR 116, aI p, aI x, aI s, aI R, aI t, u6, u7] [] mem := by
  have hF := FAR_def
  intro n
  induction n with
  | zero =>
    intro t R u6 u7 h1 h2 h3 h4 h5 h6
    refine v_iload (j := 5) (q := 18) rfl dX10_reads_16 rfl ?_
    refine v_bipush (q := 20) (by decide) dX10_reads_18 rfl ?_
    refine v_icmp_ge (tgt := 103) (q := 23) dX10_reads_20 (by decide) rfl (by omega) (by omega) (fun h20 => ?_) (fun h20 => ?_)
    · refine v_iload (j := 4) (q := 105) rfl dX10_reads_103 rfl ?_
      refine v_iret dX10_reads_105 ?_
      exact ⟨_, rfl, rfl, h3, h4, h5, fun i i0 i1 => h6 i i0 (by omega)⟩
    · exact absurd h20 (by omega)
  | succ n ih =>
    intro t R u6 u7 h1 h2 h3 h4 h5 h6
    have x1 : inX p 0 t := ⟨hp, by omega, by omega⟩
    have x2 : inX t x s := ⟨by omega, by omega, hs⟩
    have r1 := ax_rng x1
    have r2 := ax_rng x2
    have a1 := ha.at x1
    have a2 := ha.at x2
    obtain ⟨A, hA⟩ : ∃ A, A = mem 123 (ax p 0 t) := ⟨_, rfl⟩
    obtain ⟨B, hB⟩ : ∃ B, B = mem 123 (ax t x s) := ⟨_, rfl⟩
    rw [← hA] at a1
    rw [← hB] at a2
    have keep : (¬ (A < FAR ∧ B < FAR ∧ A + B ≤ 1000000 ∧ A + B < R)) → ∀ u6 u7, V cX10_reads RX10 8 (some .int) (rmk 1 22) (mE (fun r m => ∃ z, r = aI z ∧ mem = m ∧ RDv (mem 123) p x s z)) 16 [aR 116, aI p, aI x, aI s, aI R, aI (t + 1), u6, u7] [] mem := fun hno u6 u7 => by
      refine ih (t + 1) R u6 u7 (by omega) (by omega) h3 h4 h5 (fun i i0 i1 l1 l2 l3 => ?_)
      by_cases e : i = t
      · subst e
        rw [← hA] at l1 l3 ⊢
        rw [← hB] at l2 l3 ⊢
        omega
      · exact h6 i i0 (by omega) l1 l2 l3
    refine v_iload (j := 5) (q := 18) rfl dX10_reads_16 rfl ?_
    refine v_bipush (q := 20) (by decide) dX10_reads_18 rfl ?_
    refine v_icmp_ge (tgt := 103) (q := 23) dX10_reads_20 (by decide) rfl (by omega) (by omega) (fun h20 => ?_) (fun h20 => ?_)
    · exact absurd h20 (by omega)
    · refine v_aload_n (j := 0) (q := 24) rfl dX10_reads_23 rfl ?_
      refine v_getR (p' := 123) (q := 27) dX10_reads_24 fl_X10_29 kd_116 rfl (rfc_10_12 kd_116) rfl ?_
      refine v_iload_n (j := 1) (q := 28) rfl dX10_reads_27 rfl ?_
      refine v_iconst (q := 29) dX10_reads_28 rfl ?_
      refine v_iload (j := 5) (q := 31) rfl dX10_reads_29 rfl ?_
      refine v_cSI3 (q := 34) dX10_reads_31 mlX10_160 mdX10_arcAt (by decide) ⟨Nat.le_refl 0, Nat.le_refl 0⟩ (by exact Nat.le_of_ble_eq_true rfl) rfl (c_X10_arcAt p 0 t mem) ?_
      rintro _ _ ⟨rfl, rfl⟩
      refine v_iald (q := 35) dX10_reads_34 kd_123 (by omega) (by omega) rfl ?_
      rw [← hA]
      refine v_ist6 (q := 37) rfl dX10_reads_35 (by decide) rfl ?_
      refine v_aload_n (j := 0) (q := 38) rfl dX10_reads_37 rfl ?_
      refine v_getR (p' := 123) (q := 41) dX10_reads_38 fl_X10_29 kd_116 rfl (rfc_10_12 kd_116) rfl ?_
      refine v_iload (j := 5) (q := 43) rfl dX10_reads_41 rfl ?_
      refine v_iload_n (j := 2) (q := 44) rfl dX10_reads_43 rfl ?_
      refine v_iload_n (j := 3) (q := 45) rfl dX10_reads_44 rfl ?_
      refine v_cSI3 (q := 48) dX10_reads_45 mlX10_160 mdX10_arcAt (by decide) ⟨Nat.le_refl 0, Nat.le_refl 0⟩ (by exact Nat.le_of_ble_eq_true rfl) rfl (c_X10_arcAt t x s mem) ?_
      rintro _ _ ⟨rfl, rfl⟩
      refine v_iald (q := 49) dX10_reads_48 kd_123 (by omega) (by omega) rfl ?_
      rw [← hB]
      refine v_ist7 (q := 51) rfl dX10_reads_49 (by decide) rfl ?_
      refine v_iload (j := 6) (q := 53) rfl dX10_reads_51 rfl ?_
      refine v_ldc (n := 2000000000) (q := 55) klX10_163 rfl dX10_reads_53 rfl ?_
      refine v_icmp_ge (tgt := 93) (q := 58) dX10_reads_55 (by decide) rfl (by omega) (by omega) (fun h55 => ?_) (fun h55 => ?_)
      · refine v_iload (j := 4) (q := 95) rfl dX10_reads_93 rfl ?_
        refine v_ist4 (q := 97) rfl dX10_reads_95 (by decide) rfl ?_
        refine v_iinc5 (q := 100) rfl dX10_reads_97 (by decide) rfl ?_
        refine v_goto (q := 16) dX10_reads_100 (by decide) ?_
        first
          | exact keep (by omega) _ _
          | (have hyes : A < FAR ∧ B < FAR ∧ A + B ≤ 1000000 ∧ A + B < R := by omega
             refine ih (t + 1) (A + B) _ _ (by omega) (by omega) (by omega) (fun _ => Or.inr ⟨t, by omega, by omega, by omega, by omega, by rw [hA, hB]⟩) (by omega) (fun i i0 i1 l1 l2 l3 => ?_)
             by_cases e : i = t
             · subst e
               rw [← hA, ← hB]
               omega
             · have := h6 i i0 (by omega) l1 l2 l3
               omega)
      · refine v_iload (j := 7) (q := 60) rfl dX10_reads_58 rfl ?_
        refine v_ldc (n := 2000000000) (q := 62) klX10_163 rfl dX10_reads_60 rfl ?_
        refine v_icmp_ge (tgt := 93) (q := 65) dX10_reads_62 (by decide) rfl (by omega) (by omega) (fun h62 => ?_) (fun h62 => ?_)
        · refine v_iload (j := 4) (q := 95) rfl dX10_reads_93 rfl ?_
          refine v_ist4 (q := 97) rfl dX10_reads_95 (by decide) rfl ?_
          refine v_iinc5 (q := 100) rfl dX10_reads_97 (by decide) rfl ?_
          refine v_goto (q := 16) dX10_reads_100 (by decide) ?_
          first
            | exact keep (by omega) _ _
            | (have hyes : A < FAR ∧ B < FAR ∧ A + B ≤ 1000000 ∧ A + B < R := by omega
               refine ih (t + 1) (A + B) _ _ (by omega) (by omega) (by omega) (fun _ => Or.inr ⟨t, by omega, by omega, by omega, by omega, by rw [hA, hB]⟩) (by omega) (fun i i0 i1 l1 l2 l3 => ?_)
               by_cases e : i = t
               · subst e
                 rw [← hA, ← hB]
                 omega
               · have := h6 i i0 (by omega) l1 l2 l3
                 omega)
        · refine v_iload (j := 6) (q := 67) rfl dX10_reads_65 rfl ?_
          refine v_iload (j := 7) (q := 69) rfl dX10_reads_67 rfl ?_
          refine v_iadd (q := 70) dX10_reads_69 rfl ?_
          refine v_ldc (n := 1000000) (q := 72) klX10_159 rfl dX10_reads_70 rfl ?_
          refine v_icmp_gt (tgt := 93) (q := 75) dX10_reads_72 (by decide) rfl (by omega) (by omega) (fun h72 => ?_) (fun h72 => ?_)
          · refine v_iload (j := 4) (q := 95) rfl dX10_reads_93 rfl ?_
            refine v_ist4 (q := 97) rfl dX10_reads_95 (by decide) rfl ?_
            refine v_iinc5 (q := 100) rfl dX10_reads_97 (by decide) rfl ?_
            refine v_goto (q := 16) dX10_reads_100 (by decide) ?_
            first
              | exact keep (by omega) _ _
              | (have hyes : A < FAR ∧ B < FAR ∧ A + B ≤ 1000000 ∧ A + B < R := by omega
                 refine ih (t + 1) (A + B) _ _ (by omega) (by omega) (by omega) (fun _ => Or.inr ⟨t, by omega, by omega, by omega, by omega, by rw [hA, hB]⟩) (by omega) (fun i i0 i1 l1 l2 l3 => ?_)
                 by_cases e : i = t
                 · subst e
                   rw [← hA, ← hB]
                   omega
                 · have := h6 i i0 (by omega) l1 l2 l3
                   omega)
          · refine v_iload (j := 6) (q := 77) rfl dX10_reads_75 rfl ?_
            refine v_iload (j := 7) (q := 79) rfl dX10_reads_77 rfl ?_
            refine v_iadd (q := 80) dX10_reads_79 rfl ?_
            refine v_iload (j := 4) (q := 82) rfl dX10_reads_80 rfl ?_
            refine v_icmp_ge (tgt := 93) (q := 85) dX10_reads_82 (by decide) rfl (by omega) (by omega) (fun h82 => ?_) (fun h82 => ?_)
            · refine v_iload (j := 4) (q := 95) rfl dX10_reads_93 rfl ?_
              refine v_ist4 (q := 97) rfl dX10_reads_95 (by decide) rfl ?_
              refine v_iinc5 (q := 100) rfl dX10_reads_97 (by decide) rfl ?_
              refine v_goto (q := 16) dX10_reads_100 (by decide) ?_
              first
                | exact keep (by omega) _ _
                | (have hyes : A < FAR ∧ B < FAR ∧ A + B ≤ 1000000 ∧ A + B < R := by omega
                   refine ih (t + 1) (A + B) _ _ (by omega) (by omega) (by omega) (fun _ => Or.inr ⟨t, by omega, by omega, by omega, by omega, by rw [hA, hB]⟩) (by omega) (fun i i0 i1 l1 l2 l3 => ?_)
                   by_cases e : i = t
                   · subst e
                     rw [← hA, ← hB]
                     omega
                   · have := h6 i i0 (by omega) l1 l2 l3
                     omega)
            · refine v_iload (j := 6) (q := 87) rfl dX10_reads_85 rfl ?_
              refine v_iload (j := 7) (q := 89) rfl dX10_reads_87 rfl ?_
              refine v_iadd (q := 90) dX10_reads_89 rfl ?_
              refine v_goto (q := 95) dX10_reads_90 (by decide) ?_
              refine v_ist4 (q := 97) rfl dX10_reads_95 (by decide) rfl ?_
              refine v_iinc5 (q := 100) rfl dX10_reads_97 (by decide) rfl ?_
              refine v_goto (q := 16) dX10_reads_100 (by decide) ?_
              first
                | exact keep (by omega) _ _
                | (have hyes : A < FAR ∧ B < FAR ∧ A + B ≤ 1000000 ∧ A + B < R := by omega
                   refine ih (t + 1) (A + B) _ _ (by omega) (by omega) (by omega) (fun _ => Or.inr ⟨t, by omega, by omega, by omega, by omega, by rw [hA, hB]⟩) (by omega) (fun i i0 i1 l1 l2 l3 => ?_)
                   by_cases e : i = t
                   · subst e
                     rw [← hA, ← hB]
                     omega
                   · have := h6 i i0 (by omega) l1 l2 l3
                     omega)
theorem c_X10_reads (p x s : Int) (mem : Mem) (hp : 0 ≤ p ∧ p < 35) (hx : 1 ≤ x ∧ x < 6) (hs : 0 ≤ s ∧ s < 35) (ha : ATr (mem 123)) : CtrI mX10_reads [aR 116, aI p, aI x, aI s] mem (fun z m => mem = m ∧ RDv (mem 123) p x s z) := by
  have x1 : inX p x s := ⟨hp, by omega, hs⟩
  have r1 := ax_rng x1
  have a1 := ha.at x1
  refine Ctr.ofV (ls := [aR 116, aI p, aI x, aI s, aU, aU, aU, aU]) rfl (by decide) rfl (Nat.le_of_ble_eq_true rfl) ?_
  refine v_aload_n (j := 0) (q := 1) rfl dX10_reads_0 rfl ?_
  refine v_getR (p' := 123) (q := 4) dX10_reads_1 fl_X10_29 kd_116 rfl (rfc_10_12 kd_116) rfl ?_
  refine v_iload_n (j := 1) (q := 5) rfl dX10_reads_4 rfl ?_
  refine v_iload_n (j := 2) (q := 6) rfl dX10_reads_5 rfl ?_
  refine v_iload_n (j := 3) (q := 7) rfl dX10_reads_6 rfl ?_
  refine v_cSI3 (q := 10) dX10_reads_7 mlX10_160 mdX10_arcAt (by decide) ⟨Nat.le_refl 0, Nat.le_refl 0⟩ (by exact Nat.le_of_ble_eq_true rfl) rfl (c_X10_arcAt p x s mem) ?_
  rintro _ _ ⟨rfl, rfl⟩
  refine v_iald (q := 11) dX10_reads_10 kd_123 (by omega) (by omega) rfl ?_
  refine v_ist4 (q := 13) rfl dX10_reads_11 (by decide) rfl ?_
  refine v_iconst (q := 14) dX10_reads_13 rfl ?_
  refine v_ist5 (q := 16) rfl dX10_reads_14 (by decide) rfl ?_
  exact l_X10_reads p x s mem hp hx hs ha 35 0 _ _ _ (by omega) (by omega) a1 (fun _ => Or.inl rfl) (Int.le_refl _) (fun i i0 i1 => by omega)
theorem RDv.snd {y : Sy} {v : Int → Int} (hv : ASnd y v) {p x s R : Int} (hp : 0 ≤ p ∧ p < 35) (hx : 1 ≤ x ∧ x < 6) (hs : 0 ≤ s ∧ s < 35) (h : RDv v p x s R) (hl : R < FAR) : RDa (AD y) p x s R ∧ R ≤ 1000000 := by
  have hF := FAR_def
  refine ⟨?_, by have := h.1; omega⟩
  rcases h.2.1 hl with e | ⟨t, t0, t1, l1, l2, e⟩
  · have := hv.2 p x s ⟨hp, by omega, hs⟩ (by omega)
    rw [e] at this
    exact Or.inl this
  · exact Or.inr ⟨t, _, _, hv.2 p 0 t ⟨hp, by omega, by omega⟩ l1, hv.2 t x s ⟨by omega, by omega, hs⟩ l2, e⟩
/-- a rule has nothing to add at e -/
def rlxA (r : Rl) (v : Int → Int) (e : Int) : Prop := ∀ R, RDv v r.1 r.2.1 e R → R < FAR → (nd r.2.2.2.1 = 0 → R + r.2.2.2.2 ≤ 1000000 → v (ax r.2.2.1 0 e) ≤ R + r.2.2.2.2) ∧ (nd r.2.2.2.1 = 1 → R + r.2.2.2.2 ≤ 1000000 → v (ax r.2.2.1 r.2.2.2.1 e) ≤ R + r.2.2.2.2) ∧ (nd r.2.2.2.1 = 2 → v (ax r.2.2.1 (r.2.2.2.1 / 10) (nodH r.2.2.1 (r.2.2.2.1 / 10))) ≤ 0 ∧ (R + r.2.2.2.2 ≤ 1000000 → v (ax (nodH r.2.2.1 (r.2.2.2.1 / 10)) (r.2.2.2.1 % 10) e) ≤ R + r.2.2.2.2))
theorem RDv.uniq {v : Int → Int} {p x s R R2 : Int} (h : RDv v p x s R) (h2 : RDv v p x s R2) : R = R2 := by
  have hF := FAR_def
  have key : ∀ {R R2 : Int}, RDv v p x s R → RDv v p x s R2 → R2 ≤ R := fun {R R2} h h2 => by
    rcases Int.lt_or_le R FAR with hl | hl
    · rcases h.2.1 hl with e | ⟨t, t0, t1, l1, l2, e⟩
      · have := h2.2.2.1; omega
      · have := h2.2.2.2 t t0 t1 l1 l2 (by have := h.1; omega); omega
    · have := h2.1; have := h.1; omega
  have a := key h h2
  have b := key h2 h
  omega
/-- a table that a weight lessens -/
theorem ASnd.les {y : Sy} {v : Int → Int} (hv : ASnd y v) {f l s w : Int} (hx : inX f l s) (ha : AD y f l s w) (hw : 0 ≤ w ∧ w ≤ 1000000) : ASnd y (ui v (ax f l s) w) := by
  refine ⟨fun i i0 i1 => ?_, fun f2 l2 s2 hx2 hl => ?_⟩
  · unfold ui
    split
    · exact Or.inr hw
    · exact hv.1 i i0 i1
  · by_cases e : ax f2 l2 s2 = ax f l s
    · obtain ⟨rfl, rfl, rfl⟩ := ax_inj hx2 hx e
      rw [ui_same]
      exact ha
    · rw [ui_ne _ _ e] at hl ⊢
      exact hv.2 f2 l2 s2 hx2 hl
