/-! ===== The reference: its small methods ===== -/
theorem c_X10_isIn (v lo hi : Int) (mem : Mem) (h1 : R32 v) (h2 : R32 lo) (h3 : R32 hi) : CtrI mX10_isIn [aI v, aI lo, aI hi] mem (fun z m => mem = m ∧ bI (lo ≤ v ∧ v ≤ hi) = z) := by
  refine Ctr.ofV (ls := [aI v, aI lo, aI hi]) rfl (by decide) rfl (Nat.le_of_ble_eq_true rfl) ?_
  refine v_iload_n (j := 0) (q := 1) rfl dX10_isIn_0 rfl ?_
  refine v_iload_n (j := 1) (q := 2) rfl dX10_isIn_1 rfl ?_
  refine v_icmp_lt (tgt := 14) (q := 5) dX10_isIn_2 (by decide) rfl (by omega) (by omega) (fun h2 => ?_) (fun h2 => ?_)
  · refine v_iconst (q := 15) dX10_isIn_14 rfl ?_
    refine v_zret (by first | exact Or.inl rfl | exact Or.inr rfl | exact bI_01 _ | omega) dX10_isIn_15 ?_
    exact ⟨_, rfl, rfl, by first | exact bI_t (by omega) | exact bI_f (by omega)⟩
  · refine v_iload_n (j := 0) (q := 6) rfl dX10_isIn_5 rfl ?_
    refine v_iload_n (j := 2) (q := 7) rfl dX10_isIn_6 rfl ?_
    refine v_icmp_gt (tgt := 14) (q := 10) dX10_isIn_7 (by decide) rfl (by omega) (by omega) (fun h7 => ?_) (fun h7 => ?_)
    · refine v_iconst (q := 15) dX10_isIn_14 rfl ?_
      refine v_zret (by first | exact Or.inl rfl | exact Or.inr rfl | exact bI_01 _ | omega) dX10_isIn_15 ?_
      exact ⟨_, rfl, rfl, by first | exact bI_t (by omega) | exact bI_f (by omega)⟩
    · refine v_iconst (q := 11) dX10_isIn_10 rfl ?_
      refine v_goto (q := 15) dX10_isIn_11 (by decide) ?_
      refine v_zret (by first | exact Or.inl rfl | exact Or.inr rfl | exact bI_01 _ | omega) dX10_isIn_15 ?_
      exact ⟨_, rfl, rfl, by first | exact bI_t (by omega) | exact bI_f (by omega)⟩
theorem c_X10_isState (p : Int) (mem : Mem) (h1 : R32 p) (h2 : 1 ≤ mem 117 0 ∧ mem 117 0 ≤ 4) : CtrI mX10_isState [aR 116, aI p] mem (fun z m => mem = m ∧ bI (0 ≤ p ∧ p < mem 117 0) = z) := by
  refine Ctr.ofV (ls := [aR 116, aI p]) rfl (by decide) rfl (Nat.le_of_ble_eq_true rfl) ?_
  refine v_iload_n (j := 1) (q := 1) rfl dX10_isState_0 rfl ?_
  refine v_iconst (q := 2) dX10_isState_1 rfl ?_
  refine v_aload_n (j := 0) (q := 3) rfl dX10_isState_2 rfl ?_
  refine v_getR (p' := 117) (q := 6) dX10_isState_3 fl_X10_7 kd_116 rfl (rfc_10_0 kd_116) rfl ?_
  refine v_iconst (q := 7) dX10_isState_6 rfl ?_
  refine v_iald (q := 8) dX10_isState_7 kd_117 (by omega) (by omega) rfl ?_
  refine v_iconst (q := 9) dX10_isState_8 rfl ?_
  refine v_isub (q := 10) dX10_isState_9 rfl ?_
  refine v_cSI3 (q := 13) dX10_isState_10 mlX10_44 mdX10_isIn (by decide) ⟨Nat.le_refl 0, Nat.le_refl 0⟩ (by exact Nat.le_of_ble_eq_true rfl) rfl (c_X10_isIn _ _ _ mem h1 (by omega) (by omega)) ?_
  rintro _ _ ⟨rfl, rfl⟩
  refine v_zret (by first | exact Or.inl rfl | exact Or.inr rfl | exact bI_01 _ | omega) dX10_isState_13 ?_
  exact ⟨_, rfl, rfl, bI_congr (by omega)⟩
theorem c_X10_isSymbol (x : Int) (mem : Mem) (h1 : R32 x) (h2 : 1 ≤ mem 117 1 ∧ mem 117 1 ≤ 5) : CtrI mX10_isSymbol [aR 116, aI x] mem (fun z m => mem = m ∧ bI (1 ≤ x ∧ x ≤ mem 117 1) = z) := by
  refine Ctr.ofV (ls := [aR 116, aI x]) rfl (by decide) rfl (Nat.le_of_ble_eq_true rfl) ?_
  refine v_iload_n (j := 1) (q := 1) rfl dX10_isSymbol_0 rfl ?_
  refine v_iconst (q := 2) dX10_isSymbol_1 rfl ?_
  refine v_aload_n (j := 0) (q := 3) rfl dX10_isSymbol_2 rfl ?_
  refine v_getR (p' := 117) (q := 6) dX10_isSymbol_3 fl_X10_7 kd_116 rfl (rfc_10_0 kd_116) rfl ?_
  refine v_iconst (q := 7) dX10_isSymbol_6 rfl ?_
  refine v_iald (q := 8) dX10_isSymbol_7 kd_117 (by omega) (by omega) rfl ?_
  refine v_cSI3 (q := 11) dX10_isSymbol_8 mlX10_44 mdX10_isIn (by decide) ⟨Nat.le_refl 0, Nat.le_refl 0⟩ (by exact Nat.le_of_ble_eq_true rfl) rfl (c_X10_isIn _ _ _ mem h1 (by omega) (by omega)) ?_
  rintro _ _ ⟨rfl, rfl⟩
  refine v_zret (by first | exact Or.inl rfl | exact Or.inr rfl | exact bI_01 _ | omega) dX10_isSymbol_11 ?_
  exact ⟨_, rfl, rfl, rfl⟩
theorem c_X10_isRule (k : Int) (mem : Mem) (h1 : R32 k) (h2 : 0 ≤ mem 117 2 ∧ mem 117 2 ≤ 20) : CtrI mX10_isRule [aR 116, aI k] mem (fun z m => mem = m ∧ bI (0 ≤ k ∧ k < mem 117 2) = z) := by
  refine Ctr.ofV (ls := [aR 116, aI k]) rfl (by decide) rfl (Nat.le_of_ble_eq_true rfl) ?_
  refine v_iload_n (j := 1) (q := 1) rfl dX10_isRule_0 rfl ?_
  refine v_iconst (q := 2) dX10_isRule_1 rfl ?_
  refine v_aload_n (j := 0) (q := 3) rfl dX10_isRule_2 rfl ?_
  refine v_getR (p' := 117) (q := 6) dX10_isRule_3 fl_X10_7 kd_116 rfl (rfc_10_0 kd_116) rfl ?_
  refine v_iconst (q := 7) dX10_isRule_6 rfl ?_
  refine v_iald (q := 8) dX10_isRule_7 kd_117 (by omega) (by omega) rfl ?_
  refine v_iconst (q := 9) dX10_isRule_8 rfl ?_
  refine v_isub (q := 10) dX10_isRule_9 rfl ?_
  refine v_cSI3 (q := 13) dX10_isRule_10 mlX10_44 mdX10_isIn (by decide) ⟨Nat.le_refl 0, Nat.le_refl 0⟩ (by exact Nat.le_of_ble_eq_true rfl) rfl (c_X10_isIn _ _ _ mem h1 (by omega) (by omega)) ?_
  rintro _ _ ⟨rfl, rfl⟩
  refine v_zret (by first | exact Or.inl rfl | exact Or.inr rfl | exact bI_01 _ | omega) dX10_isRule_13 ?_
  exact ⟨_, rfl, rfl, bI_congr (by omega)⟩
theorem l_X10_sizeOf {E : EQ} (w : Int) (mem : Mem) : ∀ (j : Nat) (n r : Int), R32 r → nd r ≤ j → (∀ r', V cX10_sizeOf RX10 3 (some .int) (rmk 0 0) E 19 [aI w, aI (n + nd r), aI r'] [] mem) → V cX10_sizeOf RX10 3 (some .int) (rmk 0 0) E 4 [aI w, aI n, aI r] [] mem := by
  intro j
  induction j with
  | zero =>
    intro n r h1 h2 K
    have hn := nd_nn r
    have hr : r ≤ 0 := by
      rcases Int.lt_or_le 0 r with h | h
      · have := nd_ge h; omega
      · exact h
    rw [nd_np hr, Int.add_zero] at K
    refine v_iload_n (j := 2) (q := 5) rfl dX10_sizeOf_4 rfl ?_
    refine v_if_le (tgt := 19) (q := 8) dX10_sizeOf_5 (by decide) rfl (by omega) (fun h5 => ?_) (fun h5 => ?_)
    · exact K _
    · exact absurd h5 (by omega)
  | succ j ih =>
    intro n r h1 h2 K
    refine v_iload_n (j := 2) (q := 5) rfl dX10_sizeOf_4 rfl ?_
    refine v_if_le (tgt := 19) (q := 8) dX10_sizeOf_5 (by decide) rfl (by omega) (fun h5 => ?_) (fun h5 => ?_)
    · rw [nd_np h5, Int.add_zero] at K
      exact K _
    · rw [nd_pos (by omega)] at K h2
      refine v_iinc1 (q := 11) rfl dX10_sizeOf_8 (by decide) rfl ?_
      refine v_iload_n (j := 2) (q := 12) rfl dX10_sizeOf_11 rfl ?_
      refine v_bipush (q := 14) (by decide) dX10_sizeOf_12 rfl ?_
      refine v_idiv (q := 15) (by omega) (by omega) dX10_sizeOf_14 rfl ?_
      refine v_ist2 (q := 16) rfl dX10_sizeOf_15 (by decide) rfl ?_
      refine v_goto (q := 4) dX10_sizeOf_16 (by decide) ?_
      exact ih (n + 1) (r / 10) (by omega) (by omega) (by rw [show n + 1 + nd (r / 10) = n + (nd (r / 10) + 1) by omega]; exact K)
theorem c_X10_sizeOf (w : Int) (mem : Mem) (hw : R32 w) : CtrI mX10_sizeOf [aI w] mem (fun z m => mem = m ∧ nd w = z) := by
  refine Ctr.ofV (ls := [aI w, aU, aU]) rfl (by decide) rfl (Nat.le_of_ble_eq_true rfl) ?_
  refine v_iconst (q := 1) dX10_sizeOf_0 rfl ?_
  refine v_ist1 (q := 2) rfl dX10_sizeOf_1 (by decide) rfl ?_
  refine v_iload_n (j := 0) (q := 3) rfl dX10_sizeOf_2 rfl ?_
  refine v_ist2 (q := 4) rfl dX10_sizeOf_3 (by decide) rfl ?_
  refine l_X10_sizeOf w mem 10 0 w hw (nd_10 (by omega)) (fun r' => ?_)
  rw [Int.zero_add]
  refine v_iload_n (j := 1) (q := 20) rfl dX10_sizeOf_19 rfl ?_
  exact v_iret dX10_sizeOf_20 ⟨_, rfl, rfl, rfl⟩
/-- all digits of r are symbols -/
def dOK (r g : Int) : Prop := ∀ d ∈ dgs r, 1 ≤ d ∧ d ≤ g
theorem dOK_np {r g : Int} (h : r ≤ 0) : dOK r g := fun d hd => by rw [dgs_np h] at hd; cases hd
theorem dOK_pos {r g : Int} (h : 0 < r) : dOK r g ↔ (1 ≤ r % 10 ∧ r % 10 ≤ g) ∧ dOK (r / 10) g := by
  unfold dOK
  rw [dgs_pos h]
  constructor
  · intro hd
    exact ⟨hd _ (List.mem_append_right _ (List.mem_singleton.mpr rfl)), fun d h1 => hd d (List.mem_append_left _ h1)⟩
  · rintro ⟨h1, h2⟩ d hd
    rcases List.mem_append.mp hd with hd | hd
    · exact h2 d hd
    · rw [List.mem_singleton.mp hd]; exact h1
theorem l_X10_isWord (n lo hi : Int) (mem : Mem) (h2 : 1 ≤ mem 117 1 ∧ mem 117 1 ≤ 5) (Q : Prop) : ∀ (j : Nat) (r : Int) (c : Prop), R32 r → nd r ≤ j → ((c ∧ dOK r (mem 117 1)) ↔ Q) →
    V cX10_isWord RX10 6 (some .boolean) (rmk 2 43) (mE (fun r m => ∃ z, r = aI z ∧ mem = m ∧ bI Q = z)) 26 [aR 116, aI n, aI lo, aI hi, aI (bI c), aI r] [] mem := by
  intro j
  induction j with
  | zero =>
    intro r c h1 h3 hQ
    have hr : r ≤ 0 := by
      rcases Int.lt_or_le 0 r with h | h
      · have := nd_ge h; omega
      · exact h
    refine v_iload (j := 5) (q := 28) rfl dX10_isWord_26 rfl ?_
    refine v_if_le (tgt := 55) (q := 31) dX10_isWord_28 (by decide) rfl (by omega) (fun h28 => ?_) (fun h28 => ?_)
    · refine v_iload (j := 4) (q := 57) rfl dX10_isWord_55 rfl ?_
      refine v_zret (by first | exact Or.inl rfl | exact Or.inr rfl | exact bI_01 _ | omega) dX10_isWord_57 ?_
      exact ⟨_, rfl, rfl, bI_congr ⟨fun h => (hQ.mpr h).1, fun h => hQ.mp ⟨h, dOK_np hr⟩⟩⟩
    · exact absurd h28 (by omega)
  | succ j ih =>
    intro r c h1 h3 hQ
    refine v_iload (j := 5) (q := 28) rfl dX10_isWord_26 rfl ?_
    refine v_if_le (tgt := 55) (q := 31) dX10_isWord_28 (by decide) rfl (by omega) (fun h28 => ?_) (fun h28 => ?_)
    · refine v_iload (j := 4) (q := 57) rfl dX10_isWord_55 rfl ?_
      refine v_zret (by first | exact Or.inl rfl | exact Or.inr rfl | exact bI_01 _ | omega) dX10_isWord_57 ?_
      exact ⟨_, rfl, rfl, bI_congr ⟨fun h => (hQ.mpr h).1, fun h => hQ.mp ⟨h, dOK_np h28⟩⟩⟩
    · rw [nd_pos (by omega)] at h3
      refine v_iload (j := 4) (q := 33) rfl dX10_isWord_31 rfl ?_
      refine v_aload_n (j := 0) (q := 34) rfl dX10_isWord_33 rfl ?_
      refine v_iload (j := 5) (q := 36) rfl dX10_isWord_34 rfl ?_
      refine v_bipush (q := 38) (by decide) dX10_isWord_36 rfl ?_
      refine v_irem (q := 39) (by omega) (by omega) dX10_isWord_38 rfl ?_
      refine v_cVI1 (q := 42) dX10_isWord_39 mlX10_52 mdX10_isSymbol (by decide) kd_116 rfl rfl ⟨Nat.le_refl 0, Nat.le_refl 0⟩ (by exact Nat.le_of_ble_eq_true rfl) rfl (c_X10_isSymbol _ mem (by omega) h2) ?_
      rintro _ _ ⟨rfl, rfl⟩
      refine v_iand (q := 43) (bI_and _ _) dX10_isWord_42 rfl ?_
      refine v_ist4 (q := 45) rfl dX10_isWord_43 (by decide) rfl ?_
      refine v_iload (j := 5) (q := 47) rfl dX10_isWord_45 rfl ?_
      refine v_bipush (q := 49) (by decide) dX10_isWord_47 rfl ?_
      refine v_idiv (q := 50) (by omega) (by omega) dX10_isWord_49 rfl ?_
      refine v_ist5 (q := 52) rfl dX10_isWord_50 (by decide) rfl ?_
      refine v_goto (q := 26) dX10_isWord_52 (by decide) ?_
      exact ih (r / 10) _ (by omega) (by omega) (by rw [← hQ, dOK_pos (show 0 < r by omega), and_assoc])
theorem c_X10_isWord (n lo hi : Int) (mem : Mem) (hn : R32 n) (hl : R32 lo) (hh : R32 hi) (h2 : 1 ≤ mem 117 1 ∧ mem 117 1 ≤ 5) : CtrI mX10_isWord [aR 116, aI n, aI lo, aI hi] mem (fun z m => mem = m ∧ bI (isW n (mem 117 1) ∧ lo ≤ nd n ∧ nd n ≤ hi) = z) := by
  have h0 := nd_nn n
  have h10 := nd_10 (z := n) (by omega)
  have key : ∀ c : Prop, (c ↔ (0 ≤ n ∧ lo ≤ nd n ∧ nd n ≤ hi)) → V cX10_isWord RX10 6 (some .boolean) (rmk 2 43) (mE (fun r m => ∃ z, r = aI z ∧ mem = m ∧ bI (isW n (mem 117 1) ∧ lo ≤ nd n ∧ nd n ≤ hi) = z)) 26 [aR 116, aI n, aI lo, aI hi, aI (bI c), aI n] [] mem := fun c hc => by
    refine l_X10_isWord n lo hi mem h2 _ 10 n c hn (by omega) ?_
    unfold isW dOK
    rw [hc]
    constructor
    · rintro ⟨⟨a, b, d⟩, e⟩; exact ⟨⟨a, e⟩, b, d⟩
    · rintro ⟨⟨a, e⟩, b, d⟩; exact ⟨⟨a, b, d⟩, e⟩
  refine Ctr.ofV (ls := [aR 116, aI n, aI lo, aI hi, aU, aU]) rfl (by decide) rfl (Nat.le_of_ble_eq_true rfl) ?_
  refine v_iload_n (j := 1) (q := 1) rfl dX10_isWord_0 rfl ?_
  refine v_if_lt (tgt := 20) (q := 4) dX10_isWord_1 (by decide) rfl (by omega) (fun h1 => ?_) (fun h1 => ?_)
  · refine v_iconst (q := 21) dX10_isWord_20 rfl ?_
    refine v_ist4 (q := 23) rfl dX10_isWord_21 (by decide) rfl ?_
    refine v_iload_n (j := 1) (q := 24) rfl dX10_isWord_23 rfl ?_
    refine v_ist5 (q := 26) rfl dX10_isWord_24 (by decide) rfl ?_
    first | (have hk := key True ⟨fun _ => by omega, fun _ => trivial⟩; rw [← bI_1] at hk; exact hk) | (have hk := key False ⟨fun h => h.elim, fun h => by omega⟩; rw [← bI_0] at hk; exact hk)
  · refine v_iload_n (j := 1) (q := 5) rfl dX10_isWord_4 rfl ?_
    refine v_cSI1 (q := 8) dX10_isWord_5 mlX10_48 mdX10_sizeOf (by decide) ⟨Nat.le_refl 0, Nat.le_refl 0⟩ (by exact Nat.le_of_ble_eq_true rfl) rfl (c_X10_sizeOf _ mem hn) ?_
    rintro _ _ ⟨rfl, rfl⟩
    refine v_iload_n (j := 2) (q := 9) rfl dX10_isWord_8 rfl ?_
    refine v_iload_n (j := 3) (q := 10) rfl dX10_isWord_9 rfl ?_
    refine v_cSI3 (q := 13) dX10_isWord_10 mlX10_44 mdX10_isIn (by decide) ⟨Nat.le_refl 0, Nat.le_refl 0⟩ (by exact Nat.le_of_ble_eq_true rfl) rfl (c_X10_isIn _ _ _ mem (by omega) hl hh) ?_
    rintro _ _ ⟨rfl, rfl⟩
    refine v_if_eqB (tgt := 20) (q := 16) dX10_isWord_13 (by decide) rfl (fun h13 => ?_) (fun h13 => ?_)
    · refine v_iconst (q := 21) dX10_isWord_20 rfl ?_
      refine v_ist4 (q := 23) rfl dX10_isWord_21 (by decide) rfl ?_
      refine v_iload_n (j := 1) (q := 24) rfl dX10_isWord_23 rfl ?_
      refine v_ist5 (q := 26) rfl dX10_isWord_24 (by decide) rfl ?_
      first | (have hk := key True ⟨fun _ => by omega, fun _ => trivial⟩; rw [← bI_1] at hk; exact hk) | (have hk := key False ⟨fun h => h.elim, fun h => by omega⟩; rw [← bI_0] at hk; exact hk)
    · refine v_iconst (q := 17) dX10_isWord_16 rfl ?_
      refine v_goto (q := 21) dX10_isWord_17 (by decide) ?_
      refine v_ist4 (q := 23) rfl dX10_isWord_21 (by decide) rfl ?_
      refine v_iload_n (j := 1) (q := 24) rfl dX10_isWord_23 rfl ?_
      refine v_ist5 (q := 26) rfl dX10_isWord_24 (by decide) rfl ?_
      first | (have hk := key True ⟨fun _ => by omega, fun _ => trivial⟩; rw [← bI_1] at hk; exact hk) | (have hk := key False ⟨fun h => h.elim, fun h => by omega⟩; rw [← bI_0] at hk; exact hk)
theorem c_X10_of (k w : Int) (mem : Mem) (h0 : 0 ≤ 5 + 5 * k + w) (h1 : 5 + 5 * k + w < 105) : CtrI mX10_of [aR 116, aI k, aI w] mem (fun z m => mem = m ∧ mem 117 (5 + 5 * k + w) = z) := by
  refine Ctr.ofV (ls := [aR 116, aI k, aI w]) rfl (by decide) rfl (Nat.le_of_ble_eq_true rfl) ?_
  refine v_aload_n (j := 0) (q := 1) rfl dX10_of_0 rfl ?_
  refine v_getR (p' := 117) (q := 4) dX10_of_1 fl_X10_7 kd_116 rfl (rfc_10_0 kd_116) rfl ?_
  refine v_iconst (q := 5) dX10_of_4 rfl ?_
  refine v_iconst (q := 6) dX10_of_5 rfl ?_
  refine v_iload_n (j := 1) (q := 7) rfl dX10_of_6 rfl ?_
  refine v_imul (q := 8) dX10_of_7 rfl ?_
  refine v_iadd (q := 9) dX10_of_8 rfl ?_
  refine v_iload_n (j := 2) (q := 10) rfl dX10_of_9 rfl ?_
  refine v_iadd (q := 11) dX10_of_10 rfl ?_
  refine v_iald (q := 12) dX10_of_11 kd_117 (by omega) (by omega) rfl ?_
  refine v_iret dX10_of_12 ?_
  exact ⟨_, rfl, rfl, rfl⟩
/-! keep -/
/-- the reference's kept systems moved down by one; a copy of w laid on top -/
def shF (f : Int → Int) : Int → Int := fun j => if 0 ≤ j ∧ j < 735 then f (j + 105) else f j
def cpF (f g : Int → Int) (o : Int) : Int → Int := fun j => if o ≤ j ∧ j < o + 105 then g (j - o) else f j
theorem l_X10_keep1 {E : EQ} (mem : Mem) (K : ∀ k', V cX10_keep RX10 2 none (rmk 0 0) E 44 [aR 116, aI k'] [] (sm mem 118 (shF (mem 118)))) : ∀ (j : Nat) (k : Int) (M : Mem), k + j = 735 → 0 ≤ k → (∀ q, q ≠ 118 → M q = mem q) → (∀ i, M 118 i = if 0 ≤ i ∧ i < k then mem 118 (i + 105) else mem 118 i) →
    V cX10_keep RX10 2 none (rmk 0 0) E 16 [aR 116, aI k] [] M := by
  intro j
  induction j with
  | zero =>
    intro k M h1 h2 h3 h4
    have e : M = sm mem 118 (shF (mem 118)) := eq_sm h3 (fun i => by rw [h4, show k = 735 by omega]; rfl)
    subst e
    refine v_iload_n (j := 1) (q := 17) rfl dX10_keep_16 rfl ?_
    refine v_sipush (q := 20) (by decide) dX10_keep_17 rfl ?_
    refine v_icmp_ge (tgt := 44) (q := 23) dX10_keep_20 (by decide) rfl (by omega) (by omega) (fun h20 => ?_) (fun h20 => ?_)
    · exact K _
    · exact absurd h20 (by omega)
  | succ j ih =>
    intro k M h1 h2 h3 h4
    refine v_iload_n (j := 1) (q := 17) rfl dX10_keep_16 rfl ?_
    refine v_sipush (q := 20) (by decide) dX10_keep_17 rfl ?_
    refine v_icmp_ge (tgt := 44) (q := 23) dX10_keep_20 (by decide) rfl (by omega) (by omega) (fun h20 => ?_) (fun h20 => ?_)
    · exact absurd h20 (by omega)
    · refine v_aload_n (j := 0) (q := 24) rfl dX10_keep_23 rfl ?_
      refine v_getR (p' := 118) (q := 27) dX10_keep_24 fl_X10_13 kd_116 rfl (rfc_10_1 kd_116) rfl ?_
      refine v_iload_n (j := 1) (q := 28) rfl dX10_keep_27 rfl ?_
      refine v_aload_n (j := 0) (q := 29) rfl dX10_keep_28 rfl ?_
      refine v_getR (p' := 118) (q := 32) dX10_keep_29 fl_X10_13 kd_116 rfl (rfc_10_1 kd_116) rfl ?_
      refine v_iload_n (j := 1) (q := 33) rfl dX10_keep_32 rfl ?_
      refine v_bipush (q := 35) (by decide) dX10_keep_33 rfl ?_
      refine v_iadd (q := 36) dX10_keep_35 rfl ?_
      refine v_iald (q := 37) dX10_keep_36 kd_118 (by omega) (by omega) rfl ?_
      refine v_iast (q := 38) dX10_keep_37 kd_118 (by omega) (by omega) rfl ?_
      refine v_iinc1 (q := 41) rfl dX10_keep_38 (by decide) rfl ?_
      refine v_goto (q := 16) dX10_keep_41 (by decide) ?_
      refine ih (k + 1) _ (by omega) (by omega) (fun q hq => by rw [um_ne _ _ _ hq]; exact h3 q hq) (fun i => ?_)
      rw [um_same]
      unfold ui
      by_cases e : i = k
      · rw [if_pos e, h4, if_neg (by omega), if_pos (by omega), e]
      · rw [if_neg e, h4]
        by_cases e2 : 0 ≤ i ∧ i < k
        · rw [if_pos e2, if_pos (by omega)]
        · rw [if_neg e2, if_neg (by omega)]
theorem l_X10_keep2 {E : EQ} (mem : Mem) (hc : 0 ≤ mem 116 2 ∧ mem 116 2 ≤ 7) (K : ∀ k', V cX10_keep RX10 2 none (rmk 0 0) E 88 [aR 116, aI k'] [] (sm mem 118 (cpF (mem 118) (mem 117) (105 * mem 116 2)))) : ∀ (j : Nat) (k : Int) (M : Mem), k + j = 105 → 0 ≤ k → (∀ q, q ≠ 118 → M q = mem q) → (∀ i, M 118 i = if 105 * mem 116 2 ≤ i ∧ i < 105 * mem 116 2 + k then mem 117 (i - 105 * mem 116 2) else mem 118 i) →
    V cX10_keep RX10 2 none (rmk 0 0) E 56 [aR 116, aI k] [] M := by
  intro j
  induction j with
  | zero =>
    intro k M h1 h2 h3 h4
    have e : M = sm mem 118 (cpF (mem 118) (mem 117) (105 * mem 116 2)) := eq_sm h3 (fun i => by rw [h4, show k = 105 by omega]; rfl)
    subst e
    refine v_iload_n (j := 1) (q := 57) rfl dX10_keep_56 rfl ?_
    refine v_bipush (q := 59) (by decide) dX10_keep_57 rfl ?_
    refine v_icmp_ge (tgt := 88) (q := 62) dX10_keep_59 (by decide) rfl (by omega) (by omega) (fun h59 => ?_) (fun h59 => ?_)
    · exact K _
    · exact absurd h59 (by omega)
  | succ j ih =>
    intro k M h1 h2 h3 h4
    have e6 := h3 116 (by decide)
    have e7 := h3 117 (by decide)
    refine v_iload_n (j := 1) (q := 57) rfl dX10_keep_56 rfl ?_
    refine v_bipush (q := 59) (by decide) dX10_keep_57 rfl ?_
    refine v_icmp_ge (tgt := 88) (q := 62) dX10_keep_59 (by decide) rfl (by omega) (by omega) (fun h59 => ?_) (fun h59 => ?_)
    · exact absurd h59 (by omega)
    · refine v_aload_n (j := 0) (q := 63) rfl dX10_keep_62 rfl ?_
      refine v_getR (p' := 118) (q := 66) dX10_keep_63 fl_X10_13 kd_116 rfl (rfc_10_1 kd_116) rfl ?_
      refine v_bipush (q := 68) (by decide) dX10_keep_66 rfl ?_
      refine v_aload_n (j := 0) (q := 69) rfl dX10_keep_68 rfl ?_
      refine v_getI (j := 2) (q := 72) dX10_keep_69 fl_X10_60 kd_116 rfl rfl rfl ?_
      rw [e6]
      refine v_imul (q := 73) dX10_keep_72 rfl ?_
      refine v_iload_n (j := 1) (q := 74) rfl dX10_keep_73 rfl ?_
      refine v_iadd (q := 75) dX10_keep_74 rfl ?_
      refine v_aload_n (j := 0) (q := 76) rfl dX10_keep_75 rfl ?_
      refine v_getR (p' := 117) (q := 79) dX10_keep_76 fl_X10_7 kd_116 rfl (rfc_10_0 kd_116) rfl ?_
      refine v_iload_n (j := 1) (q := 80) rfl dX10_keep_79 rfl ?_
      refine v_iald (q := 81) dX10_keep_80 kd_117 (by omega) (by omega) rfl ?_
      rw [e7]
      refine v_iast (q := 82) dX10_keep_81 kd_118 (by omega) (by omega) rfl ?_
      refine v_iinc1 (q := 85) rfl dX10_keep_82 (by decide) rfl ?_
      refine v_goto (q := 56) dX10_keep_85 (by decide) ?_
      refine ih (k + 1) _ (by omega) (by omega) (fun q hq => by rw [um_ne _ _ _ hq]; exact h3 q hq) (fun i => ?_)
      rw [um_same]
      unfold ui
      by_cases e : i = 105 * mem 116 2 + k
      · rw [if_pos e, if_pos (by omega), e]
        congr 1
        omega
      · rw [if_neg e, h4]
        by_cases e2 : 105 * mem 116 2 ≤ i ∧ i < 105 * mem 116 2 + k
        · rw [if_pos e2, if_pos (by omega)]
        · rw [if_neg e2, if_neg (by omega)]
/-- what keep leaves -/
def kpM (mem : Mem) : Mem := if mem 116 2 = 8
  then um (sm (um (sm (um mem 116 3 0) 118 (shF (mem 118))) 116 2 7) 118 (cpF (shF (mem 118)) (mem 117) 735)) 116 2 8
  else um (sm (um mem 116 3 0) 118 (cpF (mem 118) (mem 117) (105 * mem 116 2))) 116 2 (mem 116 2 + 1)
theorem c_X10_keep (mem : Mem) (h0 : 0 ≤ mem 116 2) (h1 : mem 116 2 ≤ 8) : CtrV mX10_keep [aR 116] mem (fun m => kpM mem = m) := by
  have e2 : um mem 116 3 0 116 2 = mem 116 2 := by rw [um_same, ui_ne _ _ (by omega)]
  have e7 : um mem 116 3 0 117 = mem 117 := um_ne _ _ _ (by decide)
  have e8 : um mem 116 3 0 118 = mem 118 := um_ne _ _ _ (by decide)
  refine Ctr.ofV (ls := [aR 116, aU]) rfl (by decide) rfl (Nat.le_of_ble_eq_true rfl) ?_
  refine v_aload_n (j := 0) (q := 1) rfl dX10_keep_0 rfl ?_
  refine v_iconst (q := 2) dX10_keep_1 rfl ?_
  refine v_putZ (j := 3) (q := 5) (by first | exact Or.inl rfl | exact Or.inr rfl | exact bI_01 _ | omega) dX10_keep_2 fl_X10_56 kd_116 rfl rfl rfl ?_
  refine v_aload_n (j := 0) (q := 6) rfl dX10_keep_5 rfl ?_
  refine v_getI (j := 2) (q := 9) dX10_keep_6 fl_X10_60 kd_116 rfl rfl rfl ?_
  refine v_bipush (q := 11) (by decide) dX10_keep_9 rfl ?_
  rw [e2]
  refine v_icmp_ne (tgt := 54) (q := 14) dX10_keep_11 (by decide) rfl (by omega) (by omega) (fun h11 => ?_) (fun h11 => ?_)
  · refine v_iconst (q := 55) dX10_keep_54 rfl ?_
    refine v_ist1 (q := 56) rfl dX10_keep_55 (by decide) rfl ?_
    refine l_X10_keep2 (um mem 116 3 0) (by rw [e2]; omega) (fun k' => ?_) 105 0 _ (by omega) (by omega) (fun _ _ => rfl) (fun i => by rw [if_neg (by omega)])
    rw [e2, e7, e8]
    refine v_aload_n (j := 0) (q := 89) rfl dX10_keep_88 rfl ?_
    refine v_dup (q := 90) rfl dX10_keep_89 rfl ?_
    refine v_getI (j := 2) (q := 93) dX10_keep_90 fl_X10_60 kd_116 rfl rfl rfl ?_
    refine v_iconst (q := 94) dX10_keep_93 rfl ?_
    refine v_iadd (q := 95) dX10_keep_94 rfl ?_
    refine v_putI (j := 2) (q := 98) dX10_keep_95 fl_X10_60 kd_116 rfl rfl rfl ?_
    refine v_vret dX10_keep_98 ?_
    refine ⟨rfl, ?_⟩
    unfold kpM
    rw [if_neg (by omega), sm_ne _ _ (show 116 ≠ 118 by decide), e2]
  · refine v_iconst (q := 15) dX10_keep_14 rfl ?_
    refine v_ist1 (q := 16) rfl dX10_keep_15 (by decide) rfl ?_
    refine l_X10_keep1 (um mem 116 3 0) (fun k' => ?_) 735 0 _ (by omega) (by omega) (fun _ _ => rfl) (fun i => by rw [if_neg (by omega)])
    rw [e8]
    obtain ⟨N, hN⟩ : ∃ N, N = sm (um mem 116 3 0) 118 (shF (mem 118)) := ⟨_, rfl⟩
    rw [← hN]
    have n6 : N 116 2 = mem 116 2 := by rw [hN, sm_ne _ _ (by decide), e2]
    have n7 : N 117 = mem 117 := by rw [hN, sm_ne _ _ (by decide), e7]
    have n8 : N 118 = shF (mem 118) := by rw [hN, sm_same]
    refine v_aload_n (j := 0) (q := 45) rfl dX10_keep_44 rfl ?_
    refine v_dup (q := 46) rfl dX10_keep_45 rfl ?_
    refine v_getI (j := 2) (q := 49) dX10_keep_46 fl_X10_60 kd_116 rfl rfl rfl ?_
    refine v_iconst (q := 50) dX10_keep_49 rfl ?_
    refine v_isub (q := 51) dX10_keep_50 rfl ?_
    rw [n6, show mem 116 2 - 1 = 7 by omega]
    refine v_putI (j := 2) (q := 54) dX10_keep_51 fl_X10_60 kd_116 rfl rfl rfl ?_
    refine v_iconst (q := 55) dX10_keep_54 rfl ?_
    refine v_ist1 (q := 56) rfl dX10_keep_55 (by decide) rfl ?_
    skip
    have u2 : um N 116 2 7 116 2 = 7 := by rw [um_same, ui_same]
    have u7 : um N 116 2 7 117 = mem 117 := by rw [um_ne _ _ _ (by decide), n7]
    have u8 : um N 116 2 7 118 = shF (mem 118) := by rw [um_ne _ _ _ (by decide), n8]
    refine l_X10_keep2 (um N 116 2 7) (by rw [u2]; omega) (fun k'' => ?_) 105 0 _ (by omega) (by omega) (fun _ _ => rfl) (fun i => by rw [if_neg (by omega)])
    rw [u2, u7, u8]
    refine v_aload_n (j := 0) (q := 89) rfl dX10_keep_88 rfl ?_
    refine v_dup (q := 90) rfl dX10_keep_89 rfl ?_
    refine v_getI (j := 2) (q := 93) dX10_keep_90 fl_X10_60 kd_116 rfl rfl rfl ?_
    refine v_iconst (q := 94) dX10_keep_93 rfl ?_
    refine v_iadd (q := 95) dX10_keep_94 rfl ?_
    refine v_putI (j := 2) (q := 98) dX10_keep_95 fl_X10_60 kd_116 rfl rfl rfl ?_
    refine v_vret dX10_keep_98 ?_
    refine ⟨rfl, ?_⟩
    unfold kpM
    rw [if_pos (by omega), sm_ne _ _ (show 116 ≠ 118 by decide), u2, ← hN]
    rfl
