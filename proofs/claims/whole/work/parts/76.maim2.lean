/-! ===== the reference: symbolOf, aim ===== -/
theorem l_X10_symbolOf (w n : Int) (k : Nat) (mem : Mem) (hn : R32 n) : ∀ (j : Nat) (i r : Int), i + j = n - 1 → 0 ≤ i → R32 r → (dgs r).length = k + 1 + j → (dgs r).getD k 0 = (dgs w).getD k 0 → V cX10_symbolOf RX10 5 (some .int) (rmk 0 0) (mE (fun q m => ∃ z, q = aI z ∧ mem = m ∧ (dgs w).getD k 0 = z)) 5 [aI w, aI n, aI k, aI r, aI i] [] mem := by
  intro j
  induction j with
  | zero =>
    intro i r h1 h2 h3 h4 h5
    have hr : 0 < r := by
      rcases Int.lt_or_le 0 r with h | h
      · exact h
      · rw [dgs_np h] at h4; exact absurd h4 (by show ¬ (0 = k + 1 + 0); omega)
    have e := dgs_pos hr
    have e2 : (dgs (r / 10)).length = k := by
      rw [e, List.length_append, List.length_singleton] at h4; omega
    refine v_iload (j := 4) (q := 7) rfl dX10_symbolOf_5 rfl ?_
    refine v_iload_n (j := 1) (q := 8) rfl dX10_symbolOf_7 rfl ?_
    refine v_iconst (q := 9) dX10_symbolOf_8 rfl ?_
    refine v_isub (q := 10) dX10_symbolOf_9 rfl ?_
    refine v_icmp_ge (tgt := 24) (q := 13) dX10_symbolOf_10 (by decide) rfl (by omega) (by omega) (fun h10 => ?_) (fun h10 => ?_)
    · refine v_iload_n (j := 3) (q := 25) rfl dX10_symbolOf_24 rfl ?_
      refine v_bipush (q := 27) (by decide) dX10_symbolOf_25 rfl ?_
      refine v_irem (q := 28) (by omega) (by omega) dX10_symbolOf_27 rfl ?_
      refine v_iret dX10_symbolOf_28 ?_
      refine ⟨_, rfl, rfl, ?_⟩
      rw [← h5, e, List.getD_eq_getElem?_getD, List.getElem?_append_right (by omega), e2, Nat.sub_self]
      rfl
    · exact absurd h10 (by omega)
  | succ j ih =>
    intro i r h1 h2 h3 h4 h5
    have hr : 0 < r := by
      rcases Int.lt_or_le 0 r with h | h
      · exact h
      · rw [dgs_np h] at h4; exact absurd h4 (by show ¬ (0 = k + 1 + (j + 1)); omega)
    have e := dgs_pos hr
    have e2 : (dgs (r / 10)).length = k + 1 + j := by
      rw [e, List.length_append, List.length_singleton] at h4; omega
    refine v_iload (j := 4) (q := 7) rfl dX10_symbolOf_5 rfl ?_
    refine v_iload_n (j := 1) (q := 8) rfl dX10_symbolOf_7 rfl ?_
    refine v_iconst (q := 9) dX10_symbolOf_8 rfl ?_
    refine v_isub (q := 10) dX10_symbolOf_9 rfl ?_
    refine v_icmp_ge (tgt := 24) (q := 13) dX10_symbolOf_10 (by decide) rfl (by omega) (by omega) (fun h10 => ?_) (fun h10 => ?_)
    · exact absurd h10 (by omega)
    · refine v_iload_n (j := 3) (q := 14) rfl dX10_symbolOf_13 rfl ?_
      refine v_bipush (q := 16) (by decide) dX10_symbolOf_14 rfl ?_
      refine v_idiv (q := 17) (by omega) (by omega) dX10_symbolOf_16 rfl ?_
      refine v_ist3 (q := 18) rfl dX10_symbolOf_17 (by decide) rfl ?_
      refine v_iinc4 (q := 21) rfl dX10_symbolOf_18 (by decide) rfl ?_
      refine v_goto (q := 5) dX10_symbolOf_21 (by decide) ?_
      refine ih (i + 1) (r / 10) (by omega) (by omega) (by omega) e2 ?_
      rw [← h5, e, List.getD_eq_getElem?_getD, List.getD_eq_getElem?_getD, List.getElem?_append_left (by omega)]
theorem c_X10_symbolOf (w : Int) (k : Nat) (mem : Mem) (hw : R32 w) (hk : k < (dgs w).length) (h10 : (dgs w).length ≤ 10) : CtrI mX10_symbolOf [aI w, aI ((dgs w).length : Nat), aI (k : Int)] mem (fun z m => mem = m ∧ (dgs w).getD k 0 = z) := by
  refine Ctr.ofV (ls := [aI w, aI ((dgs w).length : Nat), aI (k : Int), aU, aU]) rfl (by decide) rfl (Nat.le_of_ble_eq_true rfl) ?_
  refine v_iload_n (j := 0) (q := 1) rfl dX10_symbolOf_0 rfl ?_
  refine v_ist3 (q := 2) rfl dX10_symbolOf_1 (by decide) rfl ?_
  refine v_iload_n (j := 2) (q := 3) rfl dX10_symbolOf_2 rfl ?_
  refine v_ist4 (q := 5) rfl dX10_symbolOf_3 (by decide) rfl ?_
  exact l_X10_symbolOf w _ k mem (by omega) ((dgs w).length - 1 - k) k w (by omega) (by omega) hw (by omega) rfl
theorem l_X10_fillW {Post : AV → Mem → Prop} (mem : Mem) (q w ex : Int) (u5 u6 u7 : AV) (K : ∀ v, (∀ i, 0 ≤ i → i < 605 → v i = EN) → V cX10_aim RX10 8 none (rmk 3 75) (mE Post) 27 [aR 116, aI q, aI w, aI ex, aI 605, u5, u6, u7] [] (sm mem 120 v)) :
    ∀ (j : Nat) (k : Int) (v : Int → Int), k + j = 605 → 0 ≤ k → (∀ i, 0 ≤ i → i < k → v i = EN) → V cX10_aim RX10 8 none (rmk 3 75) (mE Post) 3 [aR 116, aI q, aI w, aI ex, aI k, u5, u6, u7] [] (sm mem 120 v) := by
  intro j
  induction j with
  | zero =>
    intro k v h1 h2 h3
    have hk : k = 605 := by omega
    subst hk
    refine v_iload (j := 4) (q := 5) rfl dX10_aim_3 rfl ?_
    refine v_sipush (q := 8) (by decide) dX10_aim_5 rfl ?_
    refine v_icmp_ge (tgt := 27) (q := 11) dX10_aim_8 (by decide) rfl (by omega) (by omega) (fun h8 => ?_) (fun h8 => ?_)
    · exact K v h3
    · exact absurd h8 (by omega)
  | succ j ih =>
    intro k v h1 h2 h3
    have em : um (sm mem 120 v) 120 k 4000000000000000000 = sm mem 120 (ui v k EN) := eq_sm (fun p hp => by rw [um_ne _ _ _ hp, sm_ne _ _ hp]) (fun i => by rw [um_same, sm_same]; rfl)
    refine v_iload (j := 4) (q := 5) rfl dX10_aim_3 rfl ?_
    refine v_sipush (q := 8) (by decide) dX10_aim_5 rfl ?_
    refine v_icmp_ge (tgt := 27) (q := 11) dX10_aim_8 (by decide) rfl (by omega) (by omega) (fun h8 => ?_) (fun h8 => ?_)
    · exact absurd h8 (by omega)
    · refine v_aload_n (j := 0) (q := 12) rfl dX10_aim_11 rfl ?_
      refine v_getR (p' := 120) (q := 15) dX10_aim_12 fl_X10_19 kd_116 rfl (rfc_10_6 kd_116) rfl ?_
      refine v_iload (j := 4) (q := 17) rfl dX10_aim_15 rfl ?_
      refine v_ldc2 (n := 4000000000000000000) (q := 20) klX10_91 rfl dX10_aim_17 rfl ?_
      refine v_last (q := 21) dX10_aim_20 kd_120 (by omega) (by omega) rfl ?_
      refine v_iinc4 (q := 24) rfl dX10_aim_21 (by decide) rfl ?_
      refine v_goto (q := 3) dX10_aim_24 (by decide) ?_
      rw [em]
      refine ih (k + 1) _ (by omega) (by omega) (fun i i0 i1 => ?_)
      by_cases e : i = k
      · rw [e, ui_same]
      · rw [ui_ne _ _ e]; exact h3 i i0 (by omega)
theorem SndW.imp2 {y : Sy} {ex q : Int} {t : List Int} {v : Int → Int} (hv : SndW y ex q t v) {k : Nat} (hk : 1 ≤ k ∧ k < t.length) (hlt : t.length ≤ 6) (hx : 1 ≤ t.getD k 0 ∧ t.getD k 0 ≤ 5) : SndW y ex q t (ui v (ix (4 + k) (t.getD k 0) (5 + k)) 0) := by
  refine ⟨fun i i0 i1 => ?_, fun f2 x2 s2 a1 a2 a3 a4 a5 a6 hl => ?_⟩
  · unfold ui
    split
    · unfold EN; omega
    · exact hv.1 i i0 i1
  · by_cases e : ix f2 x2 s2 = ix (4 + k) (t.getD k 0) (5 + k)
    · obtain ⟨e1, e2, e3⟩ := ix_inj ⟨a3, a4⟩ ⟨a5, a6⟩ hx (by omega) e
      refine Or.inr ⟨by omega, by omega, ?_, by omega, by rw [e, ui_same]⟩
      rw [e2, show (f2 - 4).toNat = k by omega]
    · rw [ui_ne _ _ e] at hl ⊢
      exact hv.2 f2 x2 s2 a1 a2 a3 a4 a5 a6 hl
def nodW (q : Int) (k : Nat) : Int := if k = 0 then q else 4 + k
theorem l_X10_chain {Post : AV → Mem → Prop} (mem : Mem) (y : Sy) (ex q w : Int) (ok : okS y) (hq : 0 ≤ q ∧ q < y.1) (ht : ∀ d ∈ dgs w, 1 ≤ d ∧ d ≤ y.2.1) (hlt : (dgs w).length ≤ 6) (hw : R32 w) (u7 : AV) (K : ∀ v u7, SndW y ex q (dgs w) v → (0 < (dgs w).length → v (ix q ((dgs w).getD 0 0) 5) ≤ 0) → (∀ k : Nat, 1 ≤ k → k < (dgs w).length → v (ix (4 + k) ((dgs w).getD k 0) (5 + k)) ≤ 0) → V cX10_aim RX10 8 none (rmk 3 75) (mE Post) 79 [aR 116, aI q, aI w, aI ex, aI ((dgs w).length : Nat), aI (nodW q (dgs w).length), aI ((dgs w).length : Nat), u7] [] (sm mem 120 v)) :
    ∀ (j k : Nat) (v : Int → Int) (u7 : AV), k + j = (dgs w).length → SndW y ex q (dgs w) v → (0 < k → v (ix q ((dgs w).getD 0 0) 5) ≤ 0) → (∀ i : Nat, 1 ≤ i → i < k → v (ix (4 + i) ((dgs w).getD i 0) (5 + i)) ≤ 0) → V cX10_aim RX10 8 none (rmk 3 75) (mE Post) 39 [aR 116, aI q, aI w, aI ex, aI ((dgs w).length : Nat), aI (nodW q k), aI k, u7] [] (sm mem 120 v) := by
  have hEN := EN_def
  have hS := ok.1
  have hG := ok.2.1
  intro j
  induction j with
  | zero =>
    intro k v u7 h1 h2 h3 h4
    have hk : k = (dgs w).length := by omega
    subst hk
    refine v_iload (j := 6) (q := 41) rfl dX10_aim_39 rfl ?_
    refine v_iload (j := 4) (q := 43) rfl dX10_aim_41 rfl ?_
    refine v_icmp_ge (tgt := 79) (q := 46) dX10_aim_43 (by decide) rfl (by omega) (by omega) (fun h43 => ?_) (fun h43 => ?_)
    · exact K v _ h2 h3 h4
    · exact absurd h43 (by omega)
  | succ j ih =>
    intro k v u7 h1 h2 h3 h4
    have e20 : sm mem 120 v 120 = v := sm_same _ _ _
    have hd : 1 ≤ (dgs w).getD k 0 ∧ (dgs w).getD k 0 ≤ y.2.1 := by
      rw [List.getD_eq_getElem?_getD, List.getElem?_eq_getElem (by omega)]
      exact ht _ (List.getElem_mem (by omega))
    have hnod : 0 ≤ nodW q k ∧ nodW q k < 11 := by unfold nodW; split <;> omega
    have bx := h2.1 _ (ix_rng (f := nodW q k) (x := (dgs w).getD k 0) (s := 5 + k) hnod (by omega) (by omega)).1 (ix_rng hnod (by omega) (by omega)).2
    have hnx : nodW q (k + 1) = 5 + k := by unfold nodW; rw [if_neg (by omega)]; omega
    have keep : ∀ v' : Int → Int, (∀ i, v' i ≤ v i) → SndW y ex q (dgs w) v' → v' (ix (nodW q k) ((dgs w).getD k 0) (5 + k)) ≤ 0 → ∀ u7, V cX10_aim RX10 8 none (rmk 3 75) (mE Post) 39 [aR 116, aI q, aI w, aI ex, aI ((dgs w).length : Nat), aI (5 + (k : Int)), aI ((k : Int) + 1), u7] [] (sm mem 120 v') := fun v' g1 g2 g3 u7 => by
      have hk := ih (k + 1) v' u7 (by omega) g2 (fun _ => ?_) (fun i i1 i2 => ?_)
      · rw [hnx] at hk
        exact hk
      · by_cases e : k = 0
        · subst e
          exact g3
        · exact Int.le_trans (g1 _) (h3 (by omega))
      · by_cases e : i = k
        · subst e
          unfold nodW at g3
          rw [if_neg (by omega)] at g3
          exact g3
        · exact Int.le_trans (g1 _) (h4 i i1 (by omega))
    refine v_iload (j := 6) (q := 41) rfl dX10_aim_39 rfl ?_
    refine v_iload (j := 4) (q := 43) rfl dX10_aim_41 rfl ?_
    refine v_icmp_ge (tgt := 79) (q := 46) dX10_aim_43 (by decide) rfl (by omega) (by omega) (fun h43 => ?_) (fun h43 => ?_)
    · exact absurd h43 (by omega)
    · refine v_aload_n (j := 0) (q := 47) rfl dX10_aim_46 rfl ?_
      refine v_iload (j := 5) (q := 49) rfl dX10_aim_47 rfl ?_
      refine v_iload_n (j := 2) (q := 50) rfl dX10_aim_49 rfl ?_
      refine v_iload (j := 4) (q := 52) rfl dX10_aim_50 rfl ?_
      refine v_iload (j := 6) (q := 54) rfl dX10_aim_52 rfl ?_
      refine v_cSI3 (q := 57) dX10_aim_54 mlX10_107 mdX10_symbolOf (by decide) ⟨Nat.le_refl 0, Nat.le_refl 0⟩ (by exact Nat.le_of_ble_eq_true rfl) rfl (c_X10_symbolOf w k _ hw (by omega) (by omega)) ?_
      rintro _ _ ⟨rfl, rfl⟩
      refine v_iconst (q := 58) dX10_aim_57 rfl ?_
      refine v_iload (j := 6) (q := 60) rfl dX10_aim_58 rfl ?_
      refine v_iadd (q := 61) dX10_aim_60 rfl ?_
      refine v_lconst0 (q := 62) dX10_aim_61 rfl ?_
      refine v_cVI4 (q := 65) dX10_aim_62 mlX10_103 mdX10_improve (by decide) kd_116 rfl rfl ⟨Nat.le_refl 0, Nat.le_refl 0⟩ (by exact Nat.le_of_ble_eq_true rfl) rfl (c_X10_improve (nodW q k) ((dgs w).getD k 0) (5 + k) 0 _ hnod (by omega) (by omega) (by omega) (by rw [e20]; omega)) ?_
      rw [e20, sm_sm]
      rintro _ m9 ⟨C9, rfl, i1, i2, i3⟩
      refine v_ist7 (q := 67) rfl dX10_aim_65 (by decide) rfl ?_
      refine v_iconst (q := 68) dX10_aim_67 rfl ?_
      refine v_iload (j := 6) (q := 70) rfl dX10_aim_68 rfl ?_
      refine v_iadd (q := 71) dX10_aim_70 rfl ?_
      refine v_ist5 (q := 73) rfl dX10_aim_71 (by decide) rfl ?_
      refine v_iinc6 (q := 76) rfl dX10_aim_73 (by decide) rfl ?_
      refine v_goto (q := 39) dX10_aim_76 (by decide) ?_
      by_cases hc : C9
      · rw [← i2 hc]
        refine keep _ (fun i => ?_) ?_ (by rw [ui_same]; omega) _
        · have := (i1.mp hc).1
          unfold ui
          split
          · rename_i e; rw [e]; omega
          · omega
        · by_cases e : k = 0
          · subst e
            refine h2.imp hq hS.2 (by omega) (by omega) (by omega) (Or.inr ⟨by omega, by omega, ?_⟩)
            have e9 : (dgs w).take ((5 + ((0 : Nat) : Int) - 4)).toNat = [(dgs w).getD 0 0] := (take_s (t := dgs w) (n := 0) (by omega)).trans rfl
            rw [e9]
            exact RC.refl _ _
          · have e9 : nodW q k = 4 + k := by unfold nodW; rw [if_neg e]
            rw [e9]
            exact h2.imp2 (by omega) hlt (by omega)
      · rw [← i3 hc]
        refine keep v (fun _ => Int.le_refl _) h2 ?_ _
        rcases Int.lt_or_le 0 (v (ix (nodW q k) ((dgs w).getD k 0) (5 + k))) with h9 | h9
        · exact absurd (i1.mpr ⟨h9, by omega⟩) hc
        · exact h9
