/-! ===== StackLab: the small readers ===== -/
theorem c_X9_isState (p : Int) (mem : Mem) (hp : R32 p) (hs : R32 (mem 1 0)) : CtrI mX9_isState [aR 0, aI p] mem (fun z m => mem = m ∧ bI (0 ≤ p ∧ p < mem 1 0) = z) := by
  refine Ctr.ofV (ls := [aR 0, aI p]) rfl (by decide) rfl (Nat.le_of_ble_eq_true rfl) ?_
  refine v_iload_n (j := 1) (q := 1) rfl dX9_isState_0 rfl ?_
  refine v_if_lt (tgt := 19) (q := 4) dX9_isState_1 (by decide) rfl (by omega) (fun h1 => ?_) (fun h1 => ?_)
  · refine v_iconst (q := 20) dX9_isState_19 rfl ?_
    refine v_zret (by first | exact Or.inl rfl | exact Or.inr rfl | exact bI_01 _ | omega) dX9_isState_20 ?_
    exact ⟨_, rfl, rfl, by first | exact bI_t (by omega) | exact bI_f (by omega)⟩
  · refine v_iload_n (j := 1) (q := 5) rfl dX9_isState_4 rfl ?_
    refine v_aload_n (j := 0) (q := 6) rfl dX9_isState_5 rfl ?_
    refine v_getR (p' := 1) (q := 9) dX9_isState_6 fl_X9_12 kd_0 rfl (rfc_9_0 kd_0) rfl ?_
    refine v_getI (j := 0) (q := 12) dX9_isState_9 fl_X9_160 kd_1 rfl rfl rfl ?_
    refine v_icmp_ge (tgt := 19) (q := 15) dX9_isState_12 (by decide) rfl (by omega) (by omega) (fun h12 => ?_) (fun h12 => ?_)
    · refine v_iconst (q := 20) dX9_isState_19 rfl ?_
      refine v_zret (by first | exact Or.inl rfl | exact Or.inr rfl | exact bI_01 _ | omega) dX9_isState_20 ?_
      exact ⟨_, rfl, rfl, by first | exact bI_t (by omega) | exact bI_f (by omega)⟩
    · refine v_iconst (q := 16) dX9_isState_15 rfl ?_
      refine v_goto (q := 20) dX9_isState_16 (by decide) ?_
      refine v_zret (by first | exact Or.inl rfl | exact Or.inr rfl | exact bI_01 _ | omega) dX9_isState_20 ?_
      exact ⟨_, rfl, rfl, by first | exact bI_t (by omega) | exact bI_f (by omega)⟩
theorem c_X9_isSymbol (x : Int) (mem : Mem) (hp : R32 x) (hs : R32 (mem 1 1)) : CtrI mX9_isSymbol [aR 0, aI x] mem (fun z m => mem = m ∧ bI (1 ≤ x ∧ x ≤ mem 1 1) = z) := by
  refine Ctr.ofV (ls := [aR 0, aI x]) rfl (by decide) rfl (Nat.le_of_ble_eq_true rfl) ?_
  refine v_iload_n (j := 1) (q := 1) rfl dX9_isSymbol_0 rfl ?_
  refine v_iconst (q := 2) dX9_isSymbol_1 rfl ?_
  refine v_icmp_lt (tgt := 20) (q := 5) dX9_isSymbol_2 (by decide) rfl (by omega) (by omega) (fun h2 => ?_) (fun h2 => ?_)
  · refine v_iconst (q := 21) dX9_isSymbol_20 rfl ?_
    refine v_zret (by first | exact Or.inl rfl | exact Or.inr rfl | exact bI_01 _ | omega) dX9_isSymbol_21 ?_
    exact ⟨_, rfl, rfl, by first | exact bI_t (by omega) | exact bI_f (by omega)⟩
  · refine v_iload_n (j := 1) (q := 6) rfl dX9_isSymbol_5 rfl ?_
    refine v_aload_n (j := 0) (q := 7) rfl dX9_isSymbol_6 rfl ?_
    refine v_getR (p' := 1) (q := 10) dX9_isSymbol_7 fl_X9_12 kd_0 rfl (rfc_9_0 kd_0) rfl ?_
    refine v_getI (j := 1) (q := 13) dX9_isSymbol_10 fl_X9_163 kd_1 rfl rfl rfl ?_
    refine v_icmp_gt (tgt := 20) (q := 16) dX9_isSymbol_13 (by decide) rfl (by omega) (by omega) (fun h13 => ?_) (fun h13 => ?_)
    · refine v_iconst (q := 21) dX9_isSymbol_20 rfl ?_
      refine v_zret (by first | exact Or.inl rfl | exact Or.inr rfl | exact bI_01 _ | omega) dX9_isSymbol_21 ?_
      exact ⟨_, rfl, rfl, by first | exact bI_t (by omega) | exact bI_f (by omega)⟩
    · refine v_iconst (q := 17) dX9_isSymbol_16 rfl ?_
      refine v_goto (q := 21) dX9_isSymbol_17 (by decide) ?_
      refine v_zret (by first | exact Or.inl rfl | exact Or.inr rfl | exact bI_01 _ | omega) dX9_isSymbol_21 ?_
      exact ⟨_, rfl, rfl, by first | exact bI_t (by omega) | exact bI_f (by omega)⟩
theorem c_X9_isRule (k : Int) (mem : Mem) (hp : R32 k) (hs : R32 (mem 1 4)) : CtrI mX9_isRule [aR 0, aI k] mem (fun z m => mem = m ∧ bI (0 ≤ k ∧ k < mem 1 4) = z) := by
  refine Ctr.ofV (ls := [aR 0, aI k]) rfl (by decide) rfl (Nat.le_of_ble_eq_true rfl) ?_
  refine v_iload_n (j := 1) (q := 1) rfl dX9_isRule_0 rfl ?_
  refine v_if_lt (tgt := 19) (q := 4) dX9_isRule_1 (by decide) rfl (by omega) (fun h1 => ?_) (fun h1 => ?_)
  · refine v_iconst (q := 20) dX9_isRule_19 rfl ?_
    refine v_zret (by first | exact Or.inl rfl | exact Or.inr rfl | exact bI_01 _ | omega) dX9_isRule_20 ?_
    exact ⟨_, rfl, rfl, by first | exact bI_t (by omega) | exact bI_f (by omega)⟩
  · refine v_iload_n (j := 1) (q := 5) rfl dX9_isRule_4 rfl ?_
    refine v_aload_n (j := 0) (q := 6) rfl dX9_isRule_5 rfl ?_
    refine v_getR (p' := 1) (q := 9) dX9_isRule_6 fl_X9_12 kd_0 rfl (rfc_9_0 kd_0) rfl ?_
    refine v_getI (j := 4) (q := 12) dX9_isRule_9 fl_X9_93 kd_1 rfl rfl rfl ?_
    refine v_icmp_ge (tgt := 19) (q := 15) dX9_isRule_12 (by decide) rfl (by omega) (by omega) (fun h12 => ?_) (fun h12 => ?_)
    · refine v_iconst (q := 20) dX9_isRule_19 rfl ?_
      refine v_zret (by first | exact Or.inl rfl | exact Or.inr rfl | exact bI_01 _ | omega) dX9_isRule_20 ?_
      exact ⟨_, rfl, rfl, by first | exact bI_t (by omega) | exact bI_f (by omega)⟩
    · refine v_iconst (q := 16) dX9_isRule_15 rfl ?_
      refine v_goto (q := 20) dX9_isRule_16 (by decide) ?_
      refine v_zret (by first | exact Or.inl rfl | exact Or.inr rfl | exact bI_01 _ | omega) dX9_isRule_20 ?_
      exact ⟨_, rfl, rfl, by first | exact bI_t (by omega) | exact bI_f (by omega)⟩
theorem c_X9_isWeight (w : Int) (mem : Mem) (hp : R32 w) : CtrI mX9_isWeight [aI w] mem (fun z m => mem = m ∧ bI (1 ≤ w ∧ w ≤ 20) = z) := by
  refine Ctr.ofV (ls := [aI w]) rfl (by decide) rfl (Nat.le_of_ble_eq_true rfl) ?_
  refine v_iload_n (j := 0) (q := 1) rfl dX9_isWeight_0 rfl ?_
  refine v_iconst (q := 2) dX9_isWeight_1 rfl ?_
  refine v_icmp_lt (tgt := 15) (q := 5) dX9_isWeight_2 (by decide) rfl (by omega) (by omega) (fun h2 => ?_) (fun h2 => ?_)
  · refine v_iconst (q := 16) dX9_isWeight_15 rfl ?_
    refine v_zret (by first | exact Or.inl rfl | exact Or.inr rfl | exact bI_01 _ | omega) dX9_isWeight_16 ?_
    exact ⟨_, rfl, rfl, by first | exact bI_t (by omega) | exact bI_f (by omega)⟩
  · refine v_iload_n (j := 0) (q := 6) rfl dX9_isWeight_5 rfl ?_
    refine v_bipush (q := 8) (by decide) dX9_isWeight_6 rfl ?_
    refine v_icmp_gt (tgt := 15) (q := 11) dX9_isWeight_8 (by decide) rfl (by omega) (by omega) (fun h8 => ?_) (fun h8 => ?_)
    · refine v_iconst (q := 16) dX9_isWeight_15 rfl ?_
      refine v_zret (by first | exact Or.inl rfl | exact Or.inr rfl | exact bI_01 _ | omega) dX9_isWeight_16 ?_
      exact ⟨_, rfl, rfl, by first | exact bI_t (by omega) | exact bI_f (by omega)⟩
    · refine v_iconst (q := 12) dX9_isWeight_11 rfl ?_
      refine v_goto (q := 16) dX9_isWeight_12 (by decide) ?_
      refine v_zret (by first | exact Or.inl rfl | exact Or.inr rfl | exact bI_01 _ | omega) dX9_isWeight_16 ?_
      exact ⟨_, rfl, rfl, by first | exact bI_t (by omega) | exact bI_f (by omega)⟩
