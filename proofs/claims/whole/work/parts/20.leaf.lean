/-! ===== StackLab: the small readers ===== -/
theorem c_X9_isState (p : Int) (mem : Mem) (hp : R32 p) (hs : R32 (mem 1 0)) : CtrI mX9_isState [aR 0, aI p] mem (fun z m => mem = m ∧ bI (0 ≤ p ∧ p < mem 1 0) = z) := by
  refine Ctr.ofV (ls := [aR 0, aI p]) rfl (by decide) rfl (Nat.le_of_ble_eq_true rfl) ?_
  refine v_iload_n (j := 1) (q := 1) rfl dX9_isState_0 rfl ?_
  refine v_if_lt (tgt := 19) (q := 4) dX9_isState_1 (by decide) rfl (by omega) (fun h1 => ?_) (fun h1 => ?_)
  · refine v_iconst (q := 20) dX9_isState_19 rfl ?_
    refine v_zret (by first | exact Or.inl rfl | exact Or.inr rfl | exact bI_01 _ | omega) dX9_isState_20 ?_
    exact ⟨_, rfl, rfl, by first | exact bI_t (by omega) | exact bI_f (by omega)⟩
  · refine v_iload_n (j := 1) (q := 5) rfl dX9_isState_4 rfl ?_
    refine v_aload_n (j := 0) (q := 6) rfl dX9_isState_5 rfl ?_
    refine v_getR (p' := 1) (q := 9) dX9_isState_6 fl_X9_12 kd_0 rfl (rfc_9_0 kd_0) rfl ?_
    refine v_getI (j := 0) (q := 12) dX9_isState_9 fl_X9_160 kd_1 rfl rfl rfl ?_
    refine v_icmp_ge (tgt := 19) (q := 15) dX9_isState_12 (by decide) rfl (by omega) (by omega) (fun h12 => ?_) (fun h12 => ?_)
    · refine v_iconst (q := 20) dX9_isState_19 rfl ?_
      refine v_zret (by first | exact Or.inl rfl | exact Or.inr rfl | exact bI_01 _ | omega) dX9_isState_20 ?_
      exact ⟨_, rfl, rfl, by first | exact bI_t (by omega) | exact bI_f (by omega)⟩
    · refine v_iconst (q := 16) dX9_isState_15 rfl ?_
      refine v_goto (q := 20) dX9_isState_16 (by decide) ?_
      refine v_zret (by first | exact Or.inl rfl | exact Or.inr rfl | exact bI_01 _ | omega) dX9_isState_20 ?_
      exact ⟨_, rfl, rfl, by first | exact bI_t (by omega) | exact bI_f (by omega)⟩
theorem c_X9_isSymbol (x : Int) (mem : Mem) (hp : R32 x) (hs : R32 (mem 1 1)) : CtrI mX9_isSymbol [aR 0, aI x] mem (fun z m => mem = m ∧ bI (1 ≤ x ∧ x ≤ mem 1 1) = z) := by
  refine Ctr.ofV (ls := [aR 0, aI x]) rfl (by decide) rfl (Nat.le_of_ble_eq_true rfl) ?_
  refine v_iload_n (j := 1) (q := 1) rfl dX9_isSymbol_0 rfl ?_
  refine v_iconst (q := 2) dX9_isSymbol_1 rfl ?_
  refine v_icmp_lt (tgt := 20) (q := 5) dX9_isSymbol_2 (by decide) rfl (by omega) (by omega) (fun h2 => ?_) (fun h2 => ?_)
  · refine v_iconst (q := 21) dX9_isSymbol_20 rfl ?_
    refine v_zret (by first | exact Or.inl rfl | exact Or.inr rfl | exact bI_01 _ | omega) dX9_isSymbol_21 ?_
    exact ⟨_, rfl, rfl, by first | exact bI_t (by omega) | exact bI_f (by omega)⟩
  · refine v_iload_n (j := 1) (q := 6) rfl dX9_isSymbol_5 rfl ?_
    refine v_aload_n (j := 0) (q := 7) rfl dX9_isSymbol_6 rfl ?_
    refine v_getR (p' := 1) (q := 10) dX9_isSymbol_7 fl_X9_12 kd_0 rfl (rfc_9_0 kd_0) rfl ?_
    refine v_getI (j := 1) (q := 13) dX9_isSymbol_10 fl_X9_163 kd_1 rfl rfl rfl ?_
    refine v_icmp_gt (tgt := 20) (q := 16) dX9_isSymbol_13 (by decide) rfl (by omega) (by omega) (fun h13 => ?_) (fun h13 => ?_)
    · refine v_iconst (q := 21) dX9_isSymbol_20 rfl ?_
      refine v_zret (by first | exact Or.inl rfl | exact Or.inr rfl | exact bI_01 _ | omega) dX9_isSymbol_21 ?_
      exact ⟨_, rfl, rfl, by first | exact bI_t (by omega) | exact bI_f (by omega)⟩
    · refine v_iconst (q := 17) dX9_isSymbol_16 rfl ?_
      refine v_goto (q := 21) dX9_isSymbol_17 (by decide) ?_
      refine v_zret (by first | exact Or.inl rfl | exact Or.inr rfl | exact bI_01 _ | omega) dX9_isSymbol_21 ?_
      exact ⟨_, rfl, rfl, by first | exact bI_t (by omega) | exact bI_f (by omega)⟩
theorem c_X9_isRule (k : Int) (mem : Mem) (hp : R32 k) (hs : R32 (mem 1 4)) : CtrI mX9_isRule [aR 0, aI k] mem (fun z m => mem = m ∧ bI (0 ≤ k ∧ k < mem 1 4) = z) := by
  refine Ctr.ofV (ls := [aR 0, aI k]) rfl (by decide) rfl (Nat.le_of_ble_eq_true rfl) ?_
  refine v_iload_n (j := 1) (q := 1) rfl dX9_isRule_0 rfl ?_
  refine v_if_lt (tgt := 19) (q := 4) dX9_isRule_1 (by decide) rfl (by omega) (fun h1 => ?_) (fun h1 => ?_)
  · refine v_iconst (q := 20) dX9_isRule_19 rfl ?_
    refine v_zret (by first | exact Or.inl rfl | exact Or.inr rfl | exact bI_01 _ | omega) dX9_isRule_20 ?_
    exact ⟨_, rfl, rfl, by first | exact bI_t (by omega) | exact bI_f (by omega)⟩
  · refine v_iload_n (j := 1) (q := 5) rfl dX9_isRule_4 rfl ?_
    refine v_aload_n (j := 0) (q := 6) rfl dX9_isRule_5 rfl ?_
    refine v_getR (p' := 1) (q := 9) dX9_isRule_6 fl_X9_12 kd_0 rfl (rfc_9_0 kd_0) rfl ?_
    refine v_getI (j := 4) (q := 12) dX9_isRule_9 fl_X9_93 kd_1 rfl rfl rfl ?_
    refine v_icmp_ge (tgt := 19) (q := 15) dX9_isRule_12 (by decide) rfl (by omega) (by omega) (fun h12 => ?_) (fun h12 => ?_)
    · refine v_iconst (q := 20) dX9_isRule_19 rfl ?_
      refine v_zret (by first | exact Or.inl rfl | exact Or.inr rfl | exact bI_01 _ | omega) dX9_isRule_20 ?_
      exact ⟨_, rfl, rfl, by first | exact bI_t (by omega) | exact bI_f (by omega)⟩
    · refine v_iconst (q := 16) dX9_isRule_15 rfl ?_
      refine v_goto (q := 20) dX9_isRule_16 (by decide) ?_
      refine v_zret (by first | exact Or.inl rfl | exact Or.inr rfl | exact bI_01 _ | omega) dX9_isRule_20 ?_
      exact ⟨_, rfl, rfl, by first | exact bI_t (by omega) | exact bI_f (by omega)⟩
theorem c_X9_isWeight (w : Int) (mem : Mem) (hp : R32 w) : CtrI mX9_isWeight [aI w] mem (fun z m => mem = m ∧ bI (1 ≤ w ∧ w ≤ 20) = z) := by
  refine Ctr.ofV (ls := [aI w]) rfl (by decide) rfl (Nat.le_of_ble_eq_true rfl) ?_
  refine v_iload_n (j := 0) (q := 1) rfl dX9_isWeight_0 rfl ?_
  refine v_iconst (q := 2) dX9_isWeight_1 rfl ?_
  refine v_icmp_lt (tgt := 15) (q := 5) dX9_isWeight_2 (by decide) rfl (by omega) (by omega) (fun h2 => ?_) (fun h2 => ?_)
  · refine v_iconst (q := 16) dX9_isWeight_15 rfl ?_
    refine v_zret (by first | exact Or.inl rfl | exact Or.inr rfl | exact bI_01 _ | omega) dX9_isWeight_16 ?_
    exact ⟨_, rfl, rfl, by first | exact bI_t (by omega) | exact bI_f (by omega)⟩
  · refine v_iload_n (j := 0) (q := 6) rfl dX9_isWeight_5 rfl ?_
    refine v_bipush (q := 8) (by decide) dX9_isWeight_6 rfl ?_
    refine v_icmp_gt (tgt := 15) (q := 11) dX9_isWeight_8 (by decide) rfl (by omega) (by omega) (fun h8 => ?_) (fun h8 => ?_)
    · refine v_iconst (q := 16) dX9_isWeight_15 rfl ?_
      refine v_zret (by first | exact Or.inl rfl | exact Or.inr rfl | exact bI_01 _ | omega) dX9_isWeight_16 ?_
      exact ⟨_, rfl, rfl, by first | exact bI_t (by omega) | exact bI_f (by omega)⟩
    · refine v_iconst (q := 12) dX9_isWeight_11 rfl ?_
      refine v_goto (q := 16) dX9_isWeight_12 (by decide) ?_
      refine v_zret (by first | exact Or.inl rfl | exact Or.inr rfl | exact bI_01 _ | omega) dX9_isWeight_16 ?_
      exact ⟨_, rfl, rfl, by first | exact bI_t (by omega) | exact bI_f (by omega)⟩
theorem c_X9_headOf (p x : Int) (mem : Mem) : CtrI mX9_headOf [aI p, aI x] mem (fun z m => mem = m ∧ p * 5 + x - 1 = z) := by
  refine Ctr.ofV (ls := [aI p, aI x]) rfl (by decide) rfl (Nat.le_of_ble_eq_true rfl) ?_
  refine v_iload_n (j := 0) (q := 1) rfl dX9_headOf_0 rfl ?_
  refine v_iconst (q := 2) dX9_headOf_1 rfl ?_
  refine v_imul (q := 3) dX9_headOf_2 rfl ?_
  refine v_iload_n (j := 1) (q := 4) rfl dX9_headOf_3 rfl ?_
  refine v_iadd (q := 5) dX9_headOf_4 rfl ?_
  refine v_iconst (q := 6) dX9_headOf_5 rfl ?_
  refine v_isub (q := 7) dX9_headOf_6 rfl ?_
  refine v_iret dX9_headOf_7 ?_
  exact ⟨_, rfl, rfl, rfl⟩
/-- costs: a weight above 24 bits, a count below -/
theorem bv64 (n : Nat) : (Int64.ofInt ((n : Nat) : Int)).toBitVec = BitVec.ofNat 64 n := rfl
theorem sh24 {a : Int} (h : 0 ≤ a ∧ a < 274877906944) : Int64.ofInt a <<< ((Int32.ofInt 24).toInt64 &&& 63) = Int64.ofInt (a * 16777216) := by
  have e : ((Int32.ofInt 24).toInt64 &&& 63) = 24 := by decide
  rw [e]
  obtain ⟨n, rfl⟩ := Int.eq_ofNat_of_zero_le h.1
  obtain ⟨N, hN⟩ : ∃ N, N = n * 16777216 := ⟨_, rfl⟩
  have e7 : ((n : Nat) : Int) * 16777216 = (N : Int) := by omega
  rw [e7]
  apply Int64.toBitVec_inj.mp
  rw [Int64.toBitVec_shiftLeft, bv64, bv64, show (24 : Int64).toBitVec.smod 64 = 24#64 by decide]
  apply BitVec.eq_of_toNat_eq
  have e5 : (24#64).toNat = 24 := by decide
  rw [BitVec.shiftLeft_eq', BitVec.toNat_shiftLeft, e5, BitVec.toNat_ofNat, BitVec.toNat_ofNat, Nat.shiftLeft_eq, Nat.mod_eq_of_lt (show n < 2 ^ 64 by omega), hN]
theorem sr24 {a : Int} (h : 0 ≤ a ∧ a < 4611686018427387904) : Int64.ofInt a >>> ((Int32.ofInt 24).toInt64 &&& 63) = Int64.ofInt (a / 16777216) := by
  have e : ((Int32.ofInt 24).toInt64 &&& 63) = 24 := by decide
  rw [e]
  apply Int64.toInt_inj.mp
  have e8 : (Int64.ofInt a >>> (24 : Int64)).toInt = ((Int64.ofInt a).toBitVec.sshiftRight' (24#64)).toInt := by
    show (Int64.ofInt a >>> (24 : Int64)).toBitVec.toInt = _
    rw [Int64.toBitVec_shiftRight, show (24 : Int64).toBitVec.smod 64 = 24#64 by decide]
  rw [e8, BitVec.sshiftRight_eq', BitVec.toInt_sshiftRight]
  have e9 : (Int64.ofInt a).toBitVec.toInt = a := i64 (by omega)
  rw [e9, i64 (by omega)]
  have e5 : (24#64).toNat = 24 := by decide
  rw [e5, Int.shiftRight_eq_div_pow, show ((2 ^ 24 : Nat) : Int) = 16777216 by decide]
theorem an24 {a : Int} (h : 0 ≤ a ∧ a < 4611686018427387904) : Int64.ofInt a &&& Int64.ofInt 16777215 = Int64.ofInt (a % 16777216) := by
  obtain ⟨n, rfl⟩ := Int.eq_ofNat_of_zero_le h.1
  obtain ⟨N, hN⟩ : ∃ N, N = n % 16777216 := ⟨_, rfl⟩
  have e7 : ((n : Nat) : Int) % 16777216 = (N : Int) := by omega
  rw [e7]
  apply Int64.toBitVec_inj.mp
  rw [Int64.toBitVec_and, bv64, bv64, show (Int64.ofInt 16777215).toBitVec = 16777215#64 by decide]
  apply BitVec.eq_of_toNat_eq
  rw [BitVec.toNat_and, BitVec.toNat_ofNat, BitVec.toNat_ofNat, BitVec.toNat_ofNat, Nat.mod_eq_of_lt (show n < 2 ^ 64 by omega), Nat.mod_eq_of_lt (show 16777215 < 2 ^ 64 by decide), Nat.mod_eq_of_lt (show N < 2 ^ 64 by omega), hN]
  exact Nat.and_two_pow_sub_one_eq_mod n 24
theorem c_X9_costOfWeight (w : Int) (mem : Mem) (h : 0 ≤ w ∧ w ≤ 100000000) : CtrL mX9_costOfWeight [aI w] mem (fun z m => mem = m ∧ w * 16777216 = z) := by
  refine Ctr.ofV (ls := [aI w]) rfl (by decide) rfl (Nat.le_of_ble_eq_true rfl) ?_
  refine v_iload_n (j := 0) (q := 1) rfl dX9_costOfWeight_0 rfl ?_
  refine v_i2l (q := 2) (by omega) dX9_costOfWeight_1 rfl ?_
  refine v_bipush (q := 4) (by decide) dX9_costOfWeight_2 rfl ?_
  refine v_lsh (q := 5) (sh24 (by omega)) dX9_costOfWeight_4 rfl ?_
  refine v_lret dX9_costOfWeight_5 ?_
  exact ⟨_, rfl, rfl, rfl⟩

theorem c_X9_weightOf (c : Int) (mem : Mem) (h : 0 ≤ c ∧ c ≤ 4000000000000000) : CtrI mX9_weightOf [aL c] mem (fun z m => mem = m ∧ c / 16777216 = z) := by
  refine Ctr.ofV (ls := [aL c, aU]) rfl (by decide) rfl (Nat.le_of_ble_eq_true rfl) ?_
  refine v_lload_n (j := 0) (q := 1) rfl dX9_weightOf_0 rfl ?_
  refine v_bipush (q := 3) (by decide) dX9_weightOf_1 rfl ?_
  refine v_lshr (q := 4) (sr24 (by omega)) dX9_weightOf_3 rfl ?_
  refine v_l2i (q := 5) (by omega) dX9_weightOf_4 rfl ?_
  refine v_iret dX9_weightOf_5 ?_
  exact ⟨_, rfl, rfl, rfl⟩
theorem c_X9_countOf (c : Int) (mem : Mem) (h : 0 ≤ c ∧ c ≤ 4000000000000000) : CtrI mX9_countOf [aL c] mem (fun z m => mem = m ∧ c % 16777216 = z) := by
  refine Ctr.ofV (ls := [aL c, aU]) rfl (by decide) rfl (Nat.le_of_ble_eq_true rfl) ?_
  refine v_lload_n (j := 0) (q := 1) rfl dX9_countOf_0 rfl ?_
  refine v_ldc2 (n := 16777215) (q := 4) klX9_302 rfl dX9_countOf_1 rfl ?_
  refine v_land (q := 5) (an24 (by omega)) dX9_countOf_4 rfl ?_
  refine v_l2i (q := 6) (by omega) dX9_countOf_5 rfl ?_
  refine v_iret dX9_countOf_6 ?_
  exact ⟨_, rfl, rfl, rfl⟩
theorem c_X9_weightOrNone (c : Int) (mem : Mem) (h : 0 ≤ c ∧ c ≤ 4000000000000000) : CtrI mX9_weightOrNone [aL c] mem (fun z m => mem = m ∧ (if 16777232777216 ≤ c then -6 else c / 16777216) = z) := by
  refine Ctr.ofV (ls := [aL c, aU]) rfl (by decide) rfl (Nat.le_of_ble_eq_true rfl) ?_
  refine v_lload_n (j := 0) (q := 1) rfl dX9_weightOrNone_0 rfl ?_
  refine v_ldc2 (n := 16777232777216) (q := 4) klX9_181 rfl dX9_weightOrNone_1 rfl ?_
  refine v_lcmp_lt (tgt := 13) (q := 8) dX9_weightOrNone_4 dX9_weightOrNone_5 (by decide) rfl (by omega) (by omega) (fun h4 => ?_) (fun h4 => ?_)
  · refine v_lload_n (j := 0) (q := 14) rfl dX9_weightOrNone_13 rfl ?_
    refine v_cSI1 (q := 17) dX9_weightOrNone_14 mlX9_196 mdX9_weightOf (by decide) ⟨Nat.le_refl 0, Nat.le_refl 0⟩ (by exact Nat.le_of_ble_eq_true rfl) rfl (c_X9_weightOf _ _ (by omega)) ?_
    rintro z m1 ⟨rfl, rfl⟩
    refine v_iret dX9_weightOrNone_17 ?_
    exact ⟨_, rfl, rfl, by split <;> first | rfl | omega⟩
  · refine v_bipush (q := 10) (by decide) dX9_weightOrNone_8 rfl ?_
    refine v_goto (q := 17) dX9_weightOrNone_10 (by decide) ?_
    refine v_iret dX9_weightOrNone_17 ?_
    exact ⟨_, rfl, rfl, by split <;> first | rfl | omega⟩
/-- lower(row, i, c): the row at the place b is lowered at i to c, if c is less -/
theorem c_X9_lower (b n : Nat) (i c : Int) (mem : Mem) (hb : kd b = (1, n)) (h0 : 0 ≤ i) (h1 : i < n) (hc : R64 c) (hm : R64 (mem b i)) : CtrI mX9_lower [aR b, aI i, aL c] mem (fun z m => (if c < mem b i then um mem b i c else mem) = m ∧ bI (c < mem b i) = z) := by
  refine Ctr.ofV (ls := [aR b, aI i, aL c, aU]) rfl (by decide) rfl (Nat.le_of_ble_eq_true rfl) ?_
  refine v_lload_n (j := 2) (q := 1) rfl dX9_lower_0 rfl ?_
  refine v_aload_n (j := 0) (q := 2) rfl dX9_lower_1 rfl ?_
  refine v_iload_n (j := 1) (q := 3) rfl dX9_lower_2 rfl ?_
  refine v_lald (q := 4) dX9_lower_3 hb (by omega) (by omega) rfl ?_
  refine v_lcmp_lt (tgt := 10) (q := 8) dX9_lower_4 dX9_lower_5 (by decide) rfl (by omega) (by omega) (fun h4 => ?_) (fun h4 => ?_)
  · refine v_aload_n (j := 0) (q := 11) rfl dX9_lower_10 rfl ?_
    refine v_iload_n (j := 1) (q := 12) rfl dX9_lower_11 rfl ?_
    refine v_lload_n (j := 2) (q := 13) rfl dX9_lower_12 rfl ?_
    refine v_last (q := 14) dX9_lower_13 hb (by omega) (by omega) rfl ?_
    refine v_iconst (q := 15) dX9_lower_14 rfl ?_
    refine v_zret (by first | exact Or.inl rfl | exact Or.inr rfl | exact bI_01 _ | omega) dX9_lower_15 ?_
    exact ⟨_, rfl, by first | rw [if_neg (by omega)] | rw [if_pos (by omega)], by first | exact bI_t (by omega) | exact bI_f (by omega)⟩
  · refine v_iconst (q := 9) dX9_lower_8 rfl ?_
    refine v_zret (by first | exact Or.inl rfl | exact Or.inr rfl | exact bI_01 _ | omega) dX9_lower_9 ?_
    exact ⟨_, rfl, by first | rw [if_neg (by omega)] | rw [if_pos (by omega)], by first | exact bI_t (by omega) | exact bI_f (by omega)⟩
/-- digitsOf: the loop, and the method -/
theorem l_X9_digitsOf {E : EQ} (n : Int) (mem : Mem) : ∀ (j : Nat) (d r k : Int), k + j = 10 → 0 ≤ k → R32 r → nd r ≤ j → (∀ r' k', V cX9_digitsOf RX9 4 (some .int) (rmk 0 0) E 30 [aI n, aI (d + nd r), aI r', aI k'] [] mem) → V cX9_digitsOf RX9 4 (some .int) (rmk 0 0) E 6 [aI n, aI d, aI r, aI k] [] mem := by
  intro j
  induction j with
  | zero =>
    intro d r k h1 h2 h3 h4 K
    have e : nd r = 0 := by have := nd_nn r; omega
    rw [e, Int.add_zero] at K
    refine v_iload_n (j := 3) (q := 7) rfl dX9_digitsOf_6 rfl ?_
    refine v_bipush (q := 9) (by decide) dX9_digitsOf_7 rfl ?_
    refine v_icmp_ge (tgt := 30) (q := 12) dX9_digitsOf_9 (by decide) rfl (by omega) (by omega) (fun h9 => ?_) (fun h9 => ?_)
    · exact K _ _
    · exact absurd h9 (by omega)
  | succ j ih =>
    intro d r k h1 h2 h3 h4 K
    refine v_iload_n (j := 3) (q := 7) rfl dX9_digitsOf_6 rfl ?_
    refine v_bipush (q := 9) (by decide) dX9_digitsOf_7 rfl ?_
    refine v_icmp_ge (tgt := 30) (q := 12) dX9_digitsOf_9 (by decide) rfl (by omega) (by omega) (fun h9 => ?_) (fun h9 => ?_)
    · exact absurd h9 (by omega)
    · refine v_iload_n (j := 2) (q := 13) rfl dX9_digitsOf_12 rfl ?_
      refine v_if_le (tgt := 30) (q := 16) dX9_digitsOf_13 (by decide) rfl (by omega) (fun h13 => ?_) (fun h13 => ?_)
      · rw [nd_np (by omega), Int.add_zero] at K
        exact K _ _
      · rw [nd_pos (by omega)] at K h4
        refine v_iload_n (j := 2) (q := 17) rfl dX9_digitsOf_16 rfl ?_
        refine v_bipush (q := 19) (by decide) dX9_digitsOf_17 rfl ?_
        refine v_idiv (q := 20) (by omega) (by omega) dX9_digitsOf_19 rfl ?_
        refine v_ist2 (q := 21) rfl dX9_digitsOf_20 (by decide) rfl ?_
        refine v_iinc1 (q := 24) rfl dX9_digitsOf_21 (by decide) rfl ?_
        refine v_iinc3 (q := 27) rfl dX9_digitsOf_24 (by decide) rfl ?_
        refine v_goto (q := 6) dX9_digitsOf_27 (by decide) ?_
        exact ih (d + 1) (r / 10) (k + 1) (by omega) (by omega) (by omega) (by omega) (by rw [show d + 1 + nd (r / 10) = d + (nd (r / 10) + 1) by omega]; exact K)
theorem c_X9_digitsOf (n : Int) (mem : Mem) (hn : R32 n) : CtrI mX9_digitsOf [aI n] mem (fun z m => mem = m ∧ nd n = z) := by
  refine Ctr.ofV (ls := [aI n, aU, aU, aU]) rfl (by decide) rfl (Nat.le_of_ble_eq_true rfl) ?_
  refine v_iconst (q := 1) dX9_digitsOf_0 rfl ?_
  refine v_ist1 (q := 2) rfl dX9_digitsOf_1 (by decide) rfl ?_
  refine v_iload_n (j := 0) (q := 3) rfl dX9_digitsOf_2 rfl ?_
  refine v_ist2 (q := 4) rfl dX9_digitsOf_3 (by decide) rfl ?_
  refine v_iconst (q := 5) dX9_digitsOf_4 rfl ?_
  refine v_ist3 (q := 6) rfl dX9_digitsOf_5 (by decide) rfl ?_
  refine l_X9_digitsOf n mem 10 0 n 0 (by omega) (by omega) hn (nd_10 (by omega)) (fun r' k' => ?_)
  rw [Int.zero_add]
  refine v_iload_n (j := 1) (q := 31) rfl dX9_digitsOf_30 rfl ?_
  exact v_iret dX9_digitsOf_31 ⟨_, rfl, rfl, rfl⟩
