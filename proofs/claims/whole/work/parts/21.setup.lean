/-! ===== The library's own, Setup, History, Word ===== -/
theorem mlAC : Cond.methodLink RX4 31 arraycopyName ∈ gw ∧ Cond.native arraycopyName ∈ gw ∧ Cond.static arraycopyName ∈ gw ∧ Cond.initialized "java/lang/System" ∈ gw := ⟨gw_in (tb_at 487 (by decide +kernel)) rfl, gw_in (tb_at 489 (by decide +kernel)) rfl, gw_in (tb_at 488 (by decide +kernel)) rfl, gw_in (tb_at 94 (by decide +kernel)) rfl⟩
theorem mmin_w : Cond.static Lib.Math.min.name ∈ gw ∧ Cond.initialized "java/lang/Math" ∈ gw ∧ Cond.code Lib.Math.min.name Lib.Math.min.code 2 (some .int) ∈ gw := ⟨mdJ9_min_7cf53.1, mdJ9_min_7cf53.2.1, mdJ9_min_7cf53.2.2.1⟩
theorem mminl_w : Cond.static Lib.MathLoose.min_long.x ∈ gw ∧ Cond.initialized "java/lang/Math" ∈ gw ∧ Cond.code Lib.MathLoose.min_long.x Lib.MathLoose.min_long.code 4 (some .long) ∈ gw := ⟨mdJ9_min_f86c9.1, mdJ9_min_f86c9.2.1, mdJ9_min_f86c9.2.2.1⟩
section MinRows
variable {cc : ByteArray} {own : String} {nL : Nat} {ret : Option FieldType} {R : Room} {E : EQ} {pc q : Nat} {ls st : List AV} {mem : Mem}
theorem v_mmin {x : Nat} {a b : Int} (hd : decode cc pc = .ok (.invokestatic x, 3)) (hl0 : Cond.methodLink own x mJ9_min_7cf53.1 ∈ gw) (hR : 1 ≤ R.frames ∧ 21 ≤ R.locals) (hcs : E.2.1.1 ≤ R.cells ∧ E.2.1.2 ≤ R.slots) (hcat : (st.map ctg).sum ≤ 8) (hq : pc + 3 = q) (ha : R32 a) (hb : R32 b) (k : V cc own nL ret R E q ls (aI (min a b) :: st) mem) : V cc own nL ret R E pc ls (aI b :: aI a :: st) mem := by
  subst hq
  intro p l e s m args below meth c G ad H locs la hC hP hS hl
  have hcat2 := cat_ok ad hcat
  refine va_mmin hC.1.1 hC.1.2.1 (by rw [hC.1.2.2.1]; exact hl.1.symm) hC.1.2.2.2.1 (hC.1.2.2.2.2 _ hl0) (hC.1.2.2.2.2 _ mmin_w.1) (hC.1.2.2.2.2 _ mmin_w.2.1) (hC.1.2.2.2.2 _ mmin_w.2.2) hR.1 (by omega) hcs.1 hcs.2 hd ?_
  have h9 : (if Int32.ofInt b < Int32.ofInt a then Int32.ofInt b else Int32.ofInt a) = Int32.ofInt (min a b) := by
    by_cases h : b < a
    · rw [if_pos ((i32_lt hb ha).mpr h), Int.min_eq_right (by omega)]
    · rw [if_neg (fun z => h ((i32_lt hb ha).mp z)), Int.min_eq_left (by omega)]
  rw [h9]
  exact k p l e s m args below meth c G ad H locs la hC hP hS hl
theorem v_mminl {x : Nat} {a b : Int} (hd : decode cc pc = .ok (.invokestatic x, 3)) (hl0 : Cond.methodLink own x mJ9_min_f86c9.1 ∈ gw) (hR : 1 ≤ R.frames ∧ 23 ≤ R.locals) (hcs : E.2.1.1 ≤ R.cells ∧ E.2.1.2 ≤ R.slots) (hcat : (st.map ctg).sum ≤ 8) (hq : pc + 3 = q) (ha : R64 a) (hb : R64 b) (k : V cc own nL ret R E q ls (aL (min a b) :: st) mem) : V cc own nL ret R E pc ls (aL b :: aL a :: st) mem := by
  subst hq
  intro p l e s m args below meth c G ad H locs la hC hP hS hl
  have hcat2 := cat_ok ad hcat
  refine va_mmin_long hC.1.1 hC.1.2.1 (by rw [hC.1.2.2.1]; exact hl.1.symm) hC.1.2.2.2.1 (hC.1.2.2.2.2 _ hl0) (hC.1.2.2.2.2 _ mminl_w.1) (hC.1.2.2.2.2 _ mminl_w.2.1) (hC.1.2.2.2.2 _ mminl_w.2.2) hR.1 (by omega) hcs.1 hcs.2 hd ?_
  have h9 : (if Int64.ofInt b < Int64.ofInt a then Int64.ofInt b else Int64.ofInt a) = Int64.ofInt (min a b) := by
    by_cases h : b < a
    · rw [if_pos ((i64_lt hb ha).mpr h), Int.min_eq_right (by omega)]
    · rw [if_neg (fun z => h ((i64_lt hb ha).mp z)), Int.min_eq_left (by omega)]
  rw [h9]
  exact k p l e s m args below meth c G ad H locs la hC hP hS hl
end MinRows
/-- a row of n with one value -/
def flm (mem : Mem) (b : Nat) (k n v : Int) : Mem := fun q => if q = b then (fun j => if k ≤ j ∧ j < n then v else mem b j) else mem q
theorem flm_end (mem : Mem) (b : Nat) {k n : Int} (v : Int) (h : n ≤ k) : flm mem b k n v = mem := by
  funext q
  unfold flm
  split
  · rename_i h1; subst h1
    funext j
    rw [if_neg (by omega)]
  · rfl
theorem flm_step (mem : Mem) (b : Nat) {k n : Int} (v : Int) (h : k < n) : flm (um mem b k v) b (k + 1) n v = flm mem b k n v := by
  funext q
  unfold flm
  split
  · rename_i h1; subst h1
    funext j
    rw [um_same]
    unfold ui
    by_cases hj : j = k
    · subst hj; rw [if_neg (by omega), if_pos rfl, if_pos (by omega)]
    · rw [if_neg hj]
      by_cases h2 : k ≤ j ∧ j < n
      · rw [if_pos (by omega), if_pos h2]
      · rw [if_neg (by omega), if_neg h2]
  · rename_i h1
    rw [um_ne _ _ _ h1]
theorem l_J7_fill_53178 {E : EQ} (b n : Nat) (v : Int) (hb : kd b = (0, n)) (hn : n ≤ 100000) : ∀ (j : Nat) (k : Int) (mem : Mem), k + j = n → 0 ≤ k → (∀ k', V cJ7_fill_53178 RJ7 4 none (rmk 0 0) E 20 [aR b, aI v, aI k', aI n] [] (flm mem b k n v)) → V cJ7_fill_53178 RJ7 4 none (rmk 0 0) E 5 [aR b, aI v, aI k, aI n] [] mem := by
  intro j
  induction j with
  | zero =>
    intro k mem h1 h2 K
    rw [flm_end mem b v (by omega)] at K
    refine v_iload_n (j := 2) (q := 6) rfl dJ7_fill_53178_5 rfl ?_
    refine v_iload_n (j := 3) (q := 7) rfl dJ7_fill_53178_6 rfl ?_
    refine v_icmp_ge (tgt := 20) (q := 10) dJ7_fill_53178_7 (by decide) rfl (by omega) (by omega) (fun h7 => ?_) (fun h7 => ?_)
    · exact K _
    · exact absurd h7 (by omega)
  | succ j ih =>
    intro k mem h1 h2 K
    refine v_iload_n (j := 2) (q := 6) rfl dJ7_fill_53178_5 rfl ?_
    refine v_iload_n (j := 3) (q := 7) rfl dJ7_fill_53178_6 rfl ?_
    refine v_icmp_ge (tgt := 20) (q := 10) dJ7_fill_53178_7 (by decide) rfl (by omega) (by omega) (fun h7 => ?_) (fun h7 => ?_)
    · exact absurd h7 (by omega)
    · refine v_aload_n (j := 0) (q := 11) rfl dJ7_fill_53178_10 rfl ?_
      refine v_iload_n (j := 2) (q := 12) rfl dJ7_fill_53178_11 rfl ?_
      refine v_iload_n (j := 1) (q := 13) rfl dJ7_fill_53178_12 rfl ?_
      refine v_iast (q := 14) dJ7_fill_53178_13 hb (by omega) (by omega) rfl ?_
      refine v_iinc2 (q := 17) rfl dJ7_fill_53178_14 (by decide) rfl ?_
      refine v_goto (q := 5) dJ7_fill_53178_17 (by decide) ?_
      exact ih (k + 1) _ (by omega) (by omega) (by rw [flm_step mem b v (by omega)]; exact K)
theorem c_J7_fill_53178 (b n : Nat) (v : Int) (mem : Mem) (hb : kd b = (0, n)) : CtrV mJ7_fill_53178 [aR b, aI v] mem (fun m => flm mem b 0 n v = m) := by
  have hn := kd_sm hb
  refine Ctr.ofV (ls := [aR b, aI v, aU, aU]) rfl (by decide) rfl (Nat.le_of_ble_eq_true rfl) ?_
  refine v_iconst (q := 1) dJ7_fill_53178_0 rfl ?_
  refine v_ist2 (q := 2) rfl dJ7_fill_53178_1 (by decide) rfl ?_
  refine v_aload_n (j := 0) (q := 3) rfl dJ7_fill_53178_2 rfl ?_
  refine v_alen0 (q := 4) dJ7_fill_53178_3 hb rfl ?_
  refine v_ist3 (q := 5) rfl dJ7_fill_53178_4 (by decide) rfl ?_
  exact l_J7_fill_53178 b n v hb hn n 0 mem (by omega) (by omega) (fun k' => v_vret dJ7_fill_53178_20 ⟨rfl, rfl⟩)
theorem l_J7_fill_d0a16 {E : EQ} (b n : Nat) (v : Int) (hb : kd b = (1, n)) (hn : n ≤ 100000) : ∀ (j : Nat) (k : Int) (mem : Mem), k + j = n → 0 ≤ k → (∀ k', V cJ7_fill_d0a16 RJ7 5 none (rmk 0 0) E 22 [aR b, aL v, aU, aI k', aI n] [] (flm mem b k n v)) → V cJ7_fill_d0a16 RJ7 5 none (rmk 0 0) E 6 [aR b, aL v, aU, aI k, aI n] [] mem := by
  intro j
  induction j with
  | zero =>
    intro k mem h1 h2 K
    rw [flm_end mem b v (by omega)] at K
    refine v_iload_n (j := 3) (q := 7) rfl dJ7_fill_d0a16_6 rfl ?_
    refine v_iload (j := 4) (q := 9) rfl dJ7_fill_d0a16_7 rfl ?_
    refine v_icmp_ge (tgt := 22) (q := 12) dJ7_fill_d0a16_9 (by decide) rfl (by omega) (by omega) (fun h9 => ?_) (fun h9 => ?_)
    · exact K _
    · exact absurd h9 (by omega)
  | succ j ih =>
    intro k mem h1 h2 K
    refine v_iload_n (j := 3) (q := 7) rfl dJ7_fill_d0a16_6 rfl ?_
    refine v_iload (j := 4) (q := 9) rfl dJ7_fill_d0a16_7 rfl ?_
    refine v_icmp_ge (tgt := 22) (q := 12) dJ7_fill_d0a16_9 (by decide) rfl (by omega) (by omega) (fun h9 => ?_) (fun h9 => ?_)
    · exact absurd h9 (by omega)
    · refine v_aload_n (j := 0) (q := 13) rfl dJ7_fill_d0a16_12 rfl ?_
      refine v_iload_n (j := 3) (q := 14) rfl dJ7_fill_d0a16_13 rfl ?_
      refine v_lload_n (j := 1) (q := 15) rfl dJ7_fill_d0a16_14 rfl ?_
      refine v_last (q := 16) dJ7_fill_d0a16_15 hb (by omega) (by omega) rfl ?_
      refine v_iinc3 (q := 19) rfl dJ7_fill_d0a16_16 (by decide) rfl ?_
      refine v_goto (q := 6) dJ7_fill_d0a16_19 (by decide) ?_
      exact ih (k + 1) _ (by omega) (by omega) (by rw [flm_step mem b v (by omega)]; exact K)
theorem c_J7_fill_d0a16 (b n : Nat) (v : Int) (mem : Mem) (hb : kd b = (1, n)) : CtrV mJ7_fill_d0a16 [aR b, aL v] mem (fun m => flm mem b 0 n v = m) := by
  have hn := kd_sm hb
  refine Ctr.ofV (ls := [aR b, aL v, aU, aU, aU]) rfl (by decide) rfl (Nat.le_of_ble_eq_true rfl) ?_
  refine v_iconst (q := 1) dJ7_fill_d0a16_0 rfl ?_
  refine v_ist3 (q := 2) rfl dJ7_fill_d0a16_1 (by decide) rfl ?_
  refine v_aload_n (j := 0) (q := 3) rfl dJ7_fill_d0a16_2 rfl ?_
  refine v_alen1 (q := 4) dJ7_fill_d0a16_3 hb rfl ?_
  refine v_ist4 (q := 6) rfl dJ7_fill_d0a16_4 (by decide) rfl ?_
  exact l_J7_fill_d0a16 b n v hb hn n 0 mem (by omega) (by omega) (fun k' => v_vret dJ7_fill_d0a16_22 ⟨rfl, rfl⟩)
/-- System.arraycopy between two rows of ints -/
def cpm (mem : Mem) (p0 p1 : Nat) (sp dp n : Int) : Mem := fun q => if q = p1 then (fun j => if dp ≤ j ∧ j < dp + n then mem p0 (sp + (j - dp)) else mem p1 j) else mem q
theorem v_copy {cc : ByteArray} {nL : Nat} {ret : Option FieldType} {R : Room} {E : EQ} {pc q : Nat} {ls st : List AV} {mem : Mem} {p0 p1 n0 n1 : Nat} {sp dp n : Int} (hd : decode cc pc = .ok (.invokestatic 31, 3)) (hk0 : kd p0 = (0, n0)) (hk1 : kd p1 = (0, n1)) (h1 : 0 ≤ sp) (h2 : 0 ≤ dp) (h3 : 0 ≤ n) (h4 : sp + n ≤ n0) (h5 : dp + n ≤ n1) (hR : 1 ≤ R.frames ∧ 26 ≤ R.locals) (hcat : (st.map ctg).sum ≤ 8) (hq : pc + 3 = q)
    (K : V cc RX4 nL ret R E q ls st (cpm mem p0 p1 sp dp n)) : V cc RX4 nL ret R E pc ls (aI n :: aI dp :: aR p1 :: aI sp :: aR p0 :: st) mem := by
  subst hq
  intro p l e s m args below meth c G ad H locs la hC hP hS hl
  have g0 := kd_sm hk0
  have g1 := kd_sm hk1
  have e9 : ∀ x : Int, 0 ≤ x → x ≤ 100000 → ¬ Int32.ofInt x < 0 ∧ (Int32.ofInt x).toNatClampNeg = x.toNat := fun x a b => by
    refine ⟨?_, by rw [Int32.toNatClampNeg, i32 (by omega)]⟩
    rw [i32_z, i32_lt (by omega) (by omega)]
    omega
  obtain ⟨a1, a2⟩ := e9 sp h1 (by omega)
  obtain ⟨b1, b2⟩ := e9 dp h2 (by omega)
  obtain ⟨c1, c2⟩ := e9 n h3 (by omega)
  have hlt := kd_lt hk1 (by decide)
  have hcat2 := cat_ok ad hcat
  refine va_copyi hC.1.1 hC.1.2.1 (by rw [hC.1.2.2.1]; exact hl.1.symm) hC.1.2.2.2.1 (hC.1.2.2.2.2 _ mlAC.1) (hC.1.2.2.2.2 _ mlAC.2.1) (hC.1.2.2.2.2 _ mlAC.2.2.1) (hC.1.2.2.2.2 _ mlAC.2.2.2) hC.2.2.2.1 hP (WS_D hC.2.2.2.2.2.1 hC.2.2.2.2.2.2.1) hS p0 p1 0 0 (WS_0 G ad mem hk0) (WS_0 G ad mem hk1) rfl rfl rfl a1 b1 c1 (by rw [a2, c2]; omega) (by rw [b2, c2]; omega) (fun i hi => rfl) hR.1 (by rw [show nativeFrameWords "java/lang/System" "arraycopy" 5 = 7 by decide]; omega) hd (fun H1 locs1 hP1 hD1 hS1 => ?_)
  refine K p l e s m args below meth c G ad H1 locs1 la hC ?_ hS1 hl
  rw [← WS_set (mem := mem) (mem' := cpm mem p0 p1 sp dp n) hlt ?_ (fun q h => if_neg h)]
  · exact hP1
  · rw [cell_0 _ _ _ hk1, a2, b2, c2]
    congr 4
    funext k
    unfold cpm va_cpy
    rw [if_pos rfl]
    by_cases hk : dp.toNat ≤ k ∧ k < dp.toNat + n.toNat
    · rw [if_pos hk, if_pos (by omega)]
      show Int32.ofInt (mem p0 ((sp.toNat + (k - dp.toNat) : Nat) : Int)) = _
      rw [show ((sp.toNat + (k - dp.toNat) : Nat) : Int) = sp + (k - dp) by omega]
    · rw [if_neg hk, if_neg (by omega)]
/-! Setup -/
def isSU (b : Nat) : Prop := b ∈ [1, 3, 7, 9, 11, 13, 15, 17, 19, 21]
theorem su1 {b : Nat} (h : isSU b) : kd b = (5, 4) := by
  have : ∀ b ∈ [1, 3, 7, 9, 11, 13, 15, 17, 19, 21], kd b = (5, 4) := by decide
  exact this b h
theorem su2 {b : Nat} (h : isSU b) : kd (b + 1) = (0, 100) := by
  have : ∀ b ∈ [1, 3, 7, 9, 11, 13, 15, 17, 19, 21], kd (b + 1) = (0, 100) := by decide
  exact this b h
theorem su3 {b d : Nat} (h : isSU b) (h2 : isSU d) : b ≠ d + 1 ∧ b + 1 ≠ d := by
  have : ∀ b ∈ [1, 3, 7, 9, 11, 13, 15, 17, 19, 21], ∀ d ∈ [1, 3, 7, 9, 11, 13, 15, 17, 19, 21], b ≠ d + 1 ∧ b + 1 ≠ d := by decide
  exact this b h d h2
theorem su4 {b : Nat} (h : isSU b) : 1 ≤ b ∧ b ≤ 21 ∧ b ≠ 5 ∧ b + 1 ≠ 5 ∧ b ≠ 6 ∧ b + 1 ≠ 6 := by
  have : ∀ b ∈ [1, 3, 7, 9, 11, 13, 15, 17, 19, 21], 1 ≤ b ∧ b ≤ 21 ∧ b ≠ 5 ∧ b + 1 ≠ 5 ∧ b ≠ 6 ∧ b + 1 ≠ 6 := by decide
  exact this b h
theorem c_X4_part (b : Nat) (k w : Int) (mem : Mem) (hb : isSU b) (h0 : 0 ≤ k * 5 + w) (h1 : k * 5 + w < 100) : CtrI mX4_part [aR b, aI k, aI w] mem (fun z m => mem = m ∧ mem (b + 1) (k * 5 + w) = z) := by
  refine Ctr.ofV (ls := [aR b, aI k, aI w]) rfl (by decide) rfl (Nat.le_of_ble_eq_true rfl) ?_
  refine v_aload_n (j := 0) (q := 1) rfl dX4_part_0 rfl ?_
  refine v_getR (p' := b + 1) (q := 4) dX4_part_1 fl_X4_27 (su1 hb) rfl (rfc_4_5 (su1 hb)) rfl ?_
  refine v_iload_n (j := 1) (q := 5) rfl dX4_part_4 rfl ?_
  refine v_iconst (q := 6) dX4_part_5 rfl ?_
  refine v_imul (q := 7) dX4_part_6 rfl ?_
  refine v_iload_n (j := 2) (q := 8) rfl dX4_part_7 rfl ?_
  refine v_iadd (q := 9) dX4_part_8 rfl ?_
  refine v_iald (q := 10) dX4_part_9 (su2 hb) (by omega) (by omega) rfl ?_
  refine v_iret dX4_part_10 ?_
  exact ⟨_, rfl, rfl, rfl⟩
theorem c_X4_putWeight (b : Nat) (k w : Int) (mem : Mem) (hb : isSU b) (h0 : 0 ≤ k) (h1 : k < 20) : CtrV mX4_putWeight [aR b, aI k, aI w] mem (fun m => um mem (b + 1) (k * 5 + 4) w = m) := by
  refine Ctr.ofV (ls := [aR b, aI k, aI w]) rfl (by decide) rfl (Nat.le_of_ble_eq_true rfl) ?_
  refine v_aload_n (j := 0) (q := 1) rfl dX4_putWeight_0 rfl ?_
  refine v_getR (p' := b + 1) (q := 4) dX4_putWeight_1 fl_X4_27 (su1 hb) rfl (rfc_4_5 (su1 hb)) rfl ?_
  refine v_iload_n (j := 1) (q := 5) rfl dX4_putWeight_4 rfl ?_
  refine v_iconst (q := 6) dX4_putWeight_5 rfl ?_
  refine v_imul (q := 7) dX4_putWeight_6 rfl ?_
  refine v_iconst (q := 8) dX4_putWeight_7 rfl ?_
  refine v_iadd (q := 9) dX4_putWeight_8 rfl ?_
  refine v_iload_n (j := 2) (q := 10) rfl dX4_putWeight_9 rfl ?_
  refine v_iast (q := 11) dX4_putWeight_10 (su2 hb) (by omega) (by omega) rfl ?_
  refine v_vret dX4_putWeight_11 ?_
  exact ⟨rfl, rfl⟩
theorem c_X4_reset (b : Nat) (s g : Int) (mem : Mem) (hb : isSU b) : CtrV mX4_reset [aR b, aI s, aI g] mem (fun m => um (um (um (um (um mem b 0 s) b 1 g) b 2 0) b 3 1) b 4 0 = m) := by
  refine Ctr.ofV (ls := [aR b, aI s, aI g]) rfl (by decide) rfl (Nat.le_of_ble_eq_true rfl) ?_
  refine v_aload_n (j := 0) (q := 1) rfl dX4_reset_0 rfl ?_
  refine v_iload_n (j := 1) (q := 2) rfl dX4_reset_1 rfl ?_
  refine v_putI (j := 0) (q := 5) dX4_reset_2 fl_X4_9 (su1 hb) rfl rfl rfl ?_
  refine v_aload_n (j := 0) (q := 6) rfl dX4_reset_5 rfl ?_
  refine v_iload_n (j := 2) (q := 7) rfl dX4_reset_6 rfl ?_
  refine v_putI (j := 1) (q := 10) dX4_reset_7 fl_X4_15 (su1 hb) rfl rfl rfl ?_
  refine v_aload_n (j := 0) (q := 11) rfl dX4_reset_10 rfl ?_
  refine v_iconst (q := 12) dX4_reset_11 rfl ?_
  refine v_putI (j := 2) (q := 15) dX4_reset_12 fl_X4_18 (su1 hb) rfl rfl rfl ?_
  refine v_aload_n (j := 0) (q := 16) rfl dX4_reset_15 rfl ?_
  refine v_iconst (q := 17) dX4_reset_16 rfl ?_
  refine v_putI (j := 3) (q := 20) dX4_reset_17 fl_X4_21 (su1 hb) rfl rfl rfl ?_
  refine v_aload_n (j := 0) (q := 21) rfl dX4_reset_20 rfl ?_
  refine v_iconst (q := 22) dX4_reset_21 rfl ?_
  refine v_putI (j := 4) (q := 25) dX4_reset_22 fl_X4_24 (su1 hb) rfl rfl rfl ?_
  refine v_vret dX4_reset_25 ?_
  exact ⟨rfl, rfl⟩
/-- the Setup at b, as that at d -/
def cpS (mem : Mem) (b d : Nat) : Mem := fun q => if q = b then (fun j => if 0 ≤ j ∧ j ≤ 4 then mem d j else mem b j) else if q = b + 1 then (fun j => if 0 ≤ j ∧ j < 100 then mem (d + 1) j else mem (b + 1) j) else mem q
theorem cpS_eq {mem M1 M2 M3 M4 M5 : Mem} {b d : Nat} (hne : b ≠ d) (g1 : b ≠ d + 1) (h1 : M1 = um mem b 0 (mem d 0)) (h2 : M2 = um M1 b 1 (M1 d 1)) (h3 : M3 = um M2 b 2 (M2 d 2)) (h4 : M4 = um M3 b 3 (M3 d 3)) (h5 : M5 = um M4 b 4 (M4 d 4)) : cpS mem b d = cpm M5 (d + 1) (b + 1) 0 0 ((100 : Nat) : Int) := by
  have o : ∀ q, q ≠ b → M5 q = mem q := fun q h => by
    rw [h5, um_ne _ _ _ h, h4, um_ne _ _ _ h, h3, um_ne _ _ _ h, h2, um_ne _ _ _ h, h1, um_ne _ _ _ h]
  have hd1 : M1 d = mem d := by rw [h1, um_ne _ _ _ hne.symm]
  have hd2 : M2 d = mem d := by rw [h2, um_ne _ _ _ hne.symm, hd1]
  have hd3 : M3 d = mem d := by rw [h3, um_ne _ _ _ hne.symm, hd2]
  have hd4 : M4 d = mem d := by rw [h4, um_ne _ _ _ hne.symm, hd3]
  have hb : M5 b = ui (ui (ui (ui (ui (mem b) 0 (mem d 0)) 1 (mem d 1)) 2 (mem d 2)) 3 (mem d 3)) 4 (mem d 4) := by
    rw [h5, um_same, h4, um_same, ← h4, hd4, h3, um_same, ← h3, hd3, h2, um_same, ← h2, hd2, h1, um_same, ← h1, hd1]
  funext q
  unfold cpS cpm
  by_cases e1 : q = b + 1
  · rw [if_neg (by omega), if_pos e1, if_pos e1]
    funext j
    rw [o (d + 1) (by omega), o (b + 1) (by omega)]
    by_cases e2 : 0 ≤ j ∧ j < 100
    · rw [if_pos e2, if_pos (by omega)]; congr 1; omega
    · rw [if_neg e2, if_neg (by omega)]
  · rw [if_neg e1, if_neg e1]
    by_cases e2 : q = b
    · rw [if_pos e2]
      subst e2
      rw [hb]
      funext j
      unfold ui
      by_cases e5 : 0 ≤ j ∧ j ≤ 4
      · rw [if_pos e5]
        rcases (show j = 0 ∨ j = 1 ∨ j = 2 ∨ j = 3 ∨ j = 4 by omega) with rfl | rfl | rfl | rfl | rfl <;> simp
      · rw [if_neg e5, if_neg (by omega), if_neg (by omega), if_neg (by omega), if_neg (by omega), if_neg (by omega)]
    · rw [if_neg e2, o q e2]
theorem c_X4_copyFrom (b d : Nat) (mem : Mem) (hb : isSU b) (hd : isSU d) (hne : b ≠ d) : CtrV mX4_copyFrom [aR b, aR d] mem (fun m => cpS mem b d = m) := by
  have h3 := su3 hb hd
  refine Ctr.ofV (ls := [aR b, aR d]) rfl (by decide) rfl (Nat.le_of_ble_eq_true rfl) ?_
  refine v_aload_n (j := 0) (q := 1) rfl dX4_copyFrom_0 rfl ?_
  refine v_aload_n (j := 1) (q := 2) rfl dX4_copyFrom_1 rfl ?_
  refine v_getI (j := 0) (q := 5) dX4_copyFrom_2 fl_X4_9 (su1 hd) rfl rfl rfl ?_
  refine v_putI (j := 0) (q := 8) dX4_copyFrom_5 fl_X4_9 (su1 hb) rfl rfl rfl ?_
  refine v_aload_n (j := 0) (q := 9) rfl dX4_copyFrom_8 rfl ?_
  refine v_aload_n (j := 1) (q := 10) rfl dX4_copyFrom_9 rfl ?_
  refine v_getI (j := 1) (q := 13) dX4_copyFrom_10 fl_X4_15 (su1 hd) rfl rfl rfl ?_
  refine v_putI (j := 1) (q := 16) dX4_copyFrom_13 fl_X4_15 (su1 hb) rfl rfl rfl ?_
  refine v_aload_n (j := 0) (q := 17) rfl dX4_copyFrom_16 rfl ?_
  refine v_aload_n (j := 1) (q := 18) rfl dX4_copyFrom_17 rfl ?_
  refine v_getI (j := 2) (q := 21) dX4_copyFrom_18 fl_X4_18 (su1 hd) rfl rfl rfl ?_
  refine v_putI (j := 2) (q := 24) dX4_copyFrom_21 fl_X4_18 (su1 hb) rfl rfl rfl ?_
  refine v_aload_n (j := 0) (q := 25) rfl dX4_copyFrom_24 rfl ?_
  refine v_aload_n (j := 1) (q := 26) rfl dX4_copyFrom_25 rfl ?_
  refine v_getI (j := 3) (q := 29) dX4_copyFrom_26 fl_X4_21 (su1 hd) rfl rfl rfl ?_
  refine v_putI (j := 3) (q := 32) dX4_copyFrom_29 fl_X4_21 (su1 hb) rfl rfl rfl ?_
  refine v_aload_n (j := 0) (q := 33) rfl dX4_copyFrom_32 rfl ?_
  refine v_aload_n (j := 1) (q := 34) rfl dX4_copyFrom_33 rfl ?_
  refine v_getI (j := 4) (q := 37) dX4_copyFrom_34 fl_X4_24 (su1 hd) rfl rfl rfl ?_
  refine v_putI (j := 4) (q := 40) dX4_copyFrom_37 fl_X4_24 (su1 hb) rfl rfl rfl ?_
  refine v_aload_n (j := 1) (q := 41) rfl dX4_copyFrom_40 rfl ?_
  refine v_getR (p' := d + 1) (q := 44) dX4_copyFrom_41 fl_X4_27 (su1 hd) rfl (rfc_4_5 (su1 hd)) rfl ?_
  refine v_iconst (q := 45) dX4_copyFrom_44 rfl ?_
  refine v_aload_n (j := 0) (q := 46) rfl dX4_copyFrom_45 rfl ?_
  refine v_getR (p' := b + 1) (q := 49) dX4_copyFrom_46 fl_X4_27 (su1 hb) rfl (rfc_4_5 (su1 hb)) rfl ?_
  refine v_iconst (q := 50) dX4_copyFrom_49 rfl ?_
  refine v_aload_n (j := 0) (q := 51) rfl dX4_copyFrom_50 rfl ?_
  refine v_getR (p' := b + 1) (q := 54) dX4_copyFrom_51 fl_X4_27 (su1 hb) rfl (rfc_4_5 (su1 hb)) rfl ?_
  refine v_alen0 (q := 55) dX4_copyFrom_54 (su2 hb) rfl ?_
  refine v_copy (q := 58) dX4_copyFrom_55 (su2 hd) (su2 hb) (by omega) (by omega) (by omega) (by omega) (by omega) (by decide) (by exact Nat.le_of_ble_eq_true rfl) rfl ?_
  refine v_vret dX4_copyFrom_58 ?_
  exact ⟨rfl, cpS_eq hne h3.1 rfl rfl rfl rfl rfl⟩
theorem c_X4_append (b : Nat) (p x q w t : Int) (mem : Mem) (hb : isSU b) (h0 : 0 ≤ mem b 4) (h1 : mem b 4 < 20) : CtrV mX4_append [aR b, aI p, aI x, aI q, aI w, aI t] mem (fun m => um (um (um (um (um (um mem (b + 1) (mem b 4 * 5 + 0) p) (b + 1) (mem b 4 * 5 + 1) x) (b + 1) (mem b 4 * 5 + 2) q) (b + 1) (mem b 4 * 5 + 3) w) (b + 1) (mem b 4 * 5 + 4) t) b 4 (mem b 4 + 1) = m) := by
  refine Ctr.ofV (ls := [aR b, aI p, aI x, aI q, aI w, aI t, aU]) rfl (by decide) rfl (Nat.le_of_ble_eq_true rfl) ?_
  refine v_aload_n (j := 0) (q := 1) rfl dX4_append_0 rfl ?_
  refine v_getI (j := 4) (q := 4) dX4_append_1 fl_X4_24 (su1 hb) rfl rfl rfl ?_
  refine v_bipush (q := 6) (by decide) dX4_append_4 rfl ?_
  refine v_icmp_lt (tgt := 10) (q := 9) dX4_append_6 (by decide) rfl (by omega) (by omega) (fun h6 => ?_) (fun h6 => ?_)
  · refine v_aload_n (j := 0) (q := 11) rfl dX4_append_10 rfl ?_
    refine v_getI (j := 4) (q := 14) dX4_append_11 fl_X4_24 (su1 hb) rfl rfl rfl ?_
    refine v_iconst (q := 15) dX4_append_14 rfl ?_
    refine v_imul (q := 16) dX4_append_15 rfl ?_
    refine v_ist6 (q := 18) rfl dX4_append_16 (by decide) rfl ?_
    refine v_aload_n (j := 0) (q := 19) rfl dX4_append_18 rfl ?_
    refine v_getR (p' := b + 1) (q := 22) dX4_append_19 fl_X4_27 (su1 hb) rfl (rfc_4_5 (su1 hb)) rfl ?_
    refine v_iload (j := 6) (q := 24) rfl dX4_append_22 rfl ?_
    refine v_iconst (q := 25) dX4_append_24 rfl ?_
    refine v_iadd (q := 26) dX4_append_25 rfl ?_
    refine v_iload_n (j := 1) (q := 27) rfl dX4_append_26 rfl ?_
    refine v_iast (q := 28) dX4_append_27 (su2 hb) (by omega) (by omega) rfl ?_
    refine v_aload_n (j := 0) (q := 29) rfl dX4_append_28 rfl ?_
    refine v_getR (p' := b + 1) (q := 32) dX4_append_29 fl_X4_27 (su1 hb) rfl (rfc_4_5 (su1 hb)) rfl ?_
    refine v_iload (j := 6) (q := 34) rfl dX4_append_32 rfl ?_
    refine v_iconst (q := 35) dX4_append_34 rfl ?_
    refine v_iadd (q := 36) dX4_append_35 rfl ?_
    refine v_iload_n (j := 2) (q := 37) rfl dX4_append_36 rfl ?_
    refine v_iast (q := 38) dX4_append_37 (su2 hb) (by omega) (by omega) rfl ?_
    refine v_aload_n (j := 0) (q := 39) rfl dX4_append_38 rfl ?_
    refine v_getR (p' := b + 1) (q := 42) dX4_append_39 fl_X4_27 (su1 hb) rfl (rfc_4_5 (su1 hb)) rfl ?_
    refine v_iload (j := 6) (q := 44) rfl dX4_append_42 rfl ?_
    refine v_iconst (q := 45) dX4_append_44 rfl ?_
    refine v_iadd (q := 46) dX4_append_45 rfl ?_
    refine v_iload_n (j := 3) (q := 47) rfl dX4_append_46 rfl ?_
    refine v_iast (q := 48) dX4_append_47 (su2 hb) (by omega) (by omega) rfl ?_
    refine v_aload_n (j := 0) (q := 49) rfl dX4_append_48 rfl ?_
    refine v_getR (p' := b + 1) (q := 52) dX4_append_49 fl_X4_27 (su1 hb) rfl (rfc_4_5 (su1 hb)) rfl ?_
    refine v_iload (j := 6) (q := 54) rfl dX4_append_52 rfl ?_
    refine v_iconst (q := 55) dX4_append_54 rfl ?_
    refine v_iadd (q := 56) dX4_append_55 rfl ?_
    refine v_iload (j := 4) (q := 58) rfl dX4_append_56 rfl ?_
    refine v_iast (q := 59) dX4_append_58 (su2 hb) (by omega) (by omega) rfl ?_
    refine v_aload_n (j := 0) (q := 60) rfl dX4_append_59 rfl ?_
    refine v_getR (p' := b + 1) (q := 63) dX4_append_60 fl_X4_27 (su1 hb) rfl (rfc_4_5 (su1 hb)) rfl ?_
    refine v_iload (j := 6) (q := 65) rfl dX4_append_63 rfl ?_
    refine v_iconst (q := 66) dX4_append_65 rfl ?_
    refine v_iadd (q := 67) dX4_append_66 rfl ?_
    refine v_iload (j := 5) (q := 69) rfl dX4_append_67 rfl ?_
    refine v_iast (q := 70) dX4_append_69 (su2 hb) (by omega) (by omega) rfl ?_
    refine v_aload_n (j := 0) (q := 71) rfl dX4_append_70 rfl ?_
    refine v_dup (q := 72) rfl dX4_append_71 rfl ?_
    refine v_getI (j := 4) (q := 75) dX4_append_72 fl_X4_24 (su1 hb) rfl rfl rfl ?_
    refine v_iconst (q := 76) dX4_append_75 rfl ?_
    refine v_iadd (q := 77) dX4_append_76 rfl ?_
    refine v_putI (j := 4) (q := 80) dX4_append_77 fl_X4_24 (su1 hb) rfl rfl rfl ?_
    refine v_vret dX4_append_80 ?_
    refine ⟨rfl, ?_⟩
    rw [um_ne _ _ _ (show b ≠ b + 1 by omega), um_ne _ _ _ (show b ≠ b + 1 by omega), um_ne _ _ _ (show b ≠ b + 1 by omega), um_ne _ _ _ (show b ≠ b + 1 by omega), um_ne _ _ _ (show b ≠ b + 1 by omega)]
  · exact absurd h6 (by omega)
theorem c_X4_leaveOut (b : Nat) (k : Int) (mem : Mem) (hb : isSU b) (h0 : 0 ≤ k) (h1 : k < mem b 4) (h2 : mem b 4 ≤ 20) : CtrV mX4_leaveOut [aR b, aI k] mem (fun m => um (cpm mem (b + 1) (b + 1) (k * 5 + 5) (k * 5) ((mem b 4 - k - 1) * 5)) b 4 (mem b 4 - 1) = m) := by
  refine Ctr.ofV (ls := [aR b, aI k, aU]) rfl (by decide) rfl (Nat.le_of_ble_eq_true rfl) ?_
  refine v_iload_n (j := 1) (q := 1) rfl dX4_leaveOut_0 rfl ?_
  refine v_iconst (q := 2) dX4_leaveOut_1 rfl ?_
  refine v_imul (q := 3) dX4_leaveOut_2 rfl ?_
  refine v_ist2 (q := 4) rfl dX4_leaveOut_3 (by decide) rfl ?_
  refine v_aload_n (j := 0) (q := 5) rfl dX4_leaveOut_4 rfl ?_
  refine v_getR (p' := b + 1) (q := 8) dX4_leaveOut_5 fl_X4_27 (su1 hb) rfl (rfc_4_5 (su1 hb)) rfl ?_
  refine v_iload_n (j := 2) (q := 9) rfl dX4_leaveOut_8 rfl ?_
  refine v_iconst (q := 10) dX4_leaveOut_9 rfl ?_
  refine v_iadd (q := 11) dX4_leaveOut_10 rfl ?_
  refine v_aload_n (j := 0) (q := 12) rfl dX4_leaveOut_11 rfl ?_
  refine v_getR (p' := b + 1) (q := 15) dX4_leaveOut_12 fl_X4_27 (su1 hb) rfl (rfc_4_5 (su1 hb)) rfl ?_
  refine v_iload_n (j := 2) (q := 16) rfl dX4_leaveOut_15 rfl ?_
  refine v_aload_n (j := 0) (q := 17) rfl dX4_leaveOut_16 rfl ?_
  refine v_getI (j := 4) (q := 20) dX4_leaveOut_17 fl_X4_24 (su1 hb) rfl rfl rfl ?_
  refine v_iload_n (j := 1) (q := 21) rfl dX4_leaveOut_20 rfl ?_
  refine v_isub (q := 22) dX4_leaveOut_21 rfl ?_
  refine v_iconst (q := 23) dX4_leaveOut_22 rfl ?_
  refine v_isub (q := 24) dX4_leaveOut_23 rfl ?_
  refine v_iconst (q := 25) dX4_leaveOut_24 rfl ?_
  refine v_imul (q := 26) dX4_leaveOut_25 rfl ?_
  refine v_copy (q := 29) dX4_leaveOut_26 (su2 hb) (su2 hb) (by omega) (by omega) (by omega) (by omega) (by omega) (by decide) (by exact Nat.le_of_ble_eq_true rfl) rfl ?_
  refine v_aload_n (j := 0) (q := 30) rfl dX4_leaveOut_29 rfl ?_
  refine v_dup (q := 31) rfl dX4_leaveOut_30 rfl ?_
  refine v_getI (j := 4) (q := 34) dX4_leaveOut_31 fl_X4_24 (su1 hb) rfl rfl rfl ?_
  refine v_iconst (q := 35) dX4_leaveOut_34 rfl ?_
  refine v_isub (q := 36) dX4_leaveOut_35 rfl ?_
  refine v_putI (j := 4) (q := 39) dX4_leaveOut_36 fl_X4_24 (su1 hb) rfl rfl rfl ?_
  refine v_vret dX4_leaveOut_39 ?_
  refine ⟨rfl, ?_⟩
  rw [show cpm mem (b + 1) (b + 1) (k * 5 + 5) (k * 5) ((mem b 4 - k - 1) * 5) b = mem b from if_neg (by omega)]
/-- is there a rule of the first n with these four -/
def hasR (f : Int → Int) (n p x q w : Int) : Prop := ∃ k : Int, 0 ≤ k ∧ k < n ∧ f (k * 5) = p ∧ f (k * 5 + 1) = x ∧ f (k * 5 + 2) = q ∧ f (k * 5 + 3) = w
theorem l_X4_holds (b : Nat) (p x q w : Int) (mem : Mem) (hb : isSU b) (hp : R32 p ∧ R32 x ∧ R32 q ∧ R32 w) (h2 : mem b 4 ≤ 20) (hr : ∀ i, 0 ≤ i → i < 100 → R32 (mem (b + 1) i)) : ∀ (j : Nat) (k : Int), k + j = mem b 4 → 0 ≤ k → (∀ i : Int, 0 ≤ i → i < k → ¬ (mem (b + 1) (i * 5) = p ∧ mem (b + 1) (i * 5 + 1) = x ∧ mem (b + 1) (i * 5 + 2) = q ∧ mem (b + 1) (i * 5 + 3) = w)) →
    V cX4_holds RX4 6 (some .boolean) (rmk 1 22) (mE (fun r m => ∃ z, r = aI z ∧ mem = m ∧ bI (hasR (mem (b + 1)) (mem b 4) p x q w) = z)) 3 [aR b, aI p, aI x, aI q, aI w, aI k] [] mem := by
  intro j
  induction j with
  | zero =>
    intro k h3 h4 h5
    refine v_iload (j := 5) (q := 5) rfl dX4_holds_3 rfl ?_
    refine v_aload_n (j := 0) (q := 6) rfl dX4_holds_5 rfl ?_
    refine v_getI (j := 4) (q := 9) dX4_holds_6 fl_X4_24 (su1 hb) rfl rfl rfl ?_
    refine v_icmp_ge (tgt := 65) (q := 12) dX4_holds_9 (by decide) rfl (by omega) (by omega) (fun h9 => ?_) (fun h9 => ?_)
    · refine v_iconst (q := 66) dX4_holds_65 rfl ?_
      refine v_zret (by first | exact Or.inl rfl | exact Or.inr rfl | exact bI_01 _ | omega) dX4_holds_66 ?_
      refine ⟨_, rfl, rfl, bI_f ?_⟩
      rintro ⟨i, i0, i1, i2⟩
      exact h5 i i0 (by omega) i2
    · exact absurd h9 (by omega)
  | succ j ih =>
    intro k h3 h4 h5
    have r0 := hr (k * 5) (by omega) (by omega)
    have r1 := hr (k * 5 + 1) (by omega) (by omega)
    have r2 := hr (k * 5 + 2) (by omega) (by omega)
    have r3 := hr (k * 5 + 3) (by omega) (by omega)
    refine v_iload (j := 5) (q := 5) rfl dX4_holds_3 rfl ?_
    refine v_aload_n (j := 0) (q := 6) rfl dX4_holds_5 rfl ?_
    refine v_getI (j := 4) (q := 9) dX4_holds_6 fl_X4_24 (su1 hb) rfl rfl rfl ?_
    refine v_icmp_ge (tgt := 65) (q := 12) dX4_holds_9 (by decide) rfl (by omega) (by omega) (fun h9 => ?_) (fun h9 => ?_)
    · exact absurd h9 (by omega)
    · refine v_aload_n (j := 0) (q := 13) rfl dX4_holds_12 rfl ?_
      refine v_iload (j := 5) (q := 15) rfl dX4_holds_13 rfl ?_
      refine v_iconst (q := 16) dX4_holds_15 rfl ?_
      refine v_cVI2 (q := 19) dX4_holds_16 mlX4_37 mdX4_part (by decide) (su1 hb) rfl rfl ⟨Nat.le_refl 0, Nat.le_refl 0⟩ (by exact Nat.le_of_ble_eq_true rfl) rfl (c_X4_part b k 0 mem hb (by omega) (by omega)) ?_
      rintro _ _ ⟨rfl, rfl⟩
      rw [Int.add_zero]
      refine v_iload_n (j := 1) (q := 20) rfl dX4_holds_19 rfl ?_
      refine v_icmp_ne (tgt := 59) (q := 23) dX4_holds_20 (by decide) rfl (by omega) (by omega) (fun h20 => ?_) (fun h20 => ?_)
      · refine v_iinc5 (q := 62) rfl dX4_holds_59 (by decide) rfl ?_
        refine v_goto (q := 3) dX4_holds_62 (by decide) ?_
        refine ih (k + 1) (by omega) (by omega) (fun i i0 i1 => ?_)
        by_cases hi : i = k
        rotate_left
        exact h5 i i0 (by omega)
        subst hi
        rintro ⟨a, a1, a2, a3⟩
        omega
      · refine v_aload_n (j := 0) (q := 24) rfl dX4_holds_23 rfl ?_
        refine v_iload (j := 5) (q := 26) rfl dX4_holds_24 rfl ?_
        refine v_iconst (q := 27) dX4_holds_26 rfl ?_
        refine v_cVI2 (q := 30) dX4_holds_27 mlX4_37 mdX4_part (by decide) (su1 hb) rfl rfl ⟨Nat.le_refl 0, Nat.le_refl 0⟩ (by exact Nat.le_of_ble_eq_true rfl) rfl (c_X4_part b k 1 mem hb (by omega) (by omega)) ?_
        rintro _ _ ⟨rfl, rfl⟩
        refine v_iload_n (j := 2) (q := 31) rfl dX4_holds_30 rfl ?_
        refine v_icmp_ne (tgt := 59) (q := 34) dX4_holds_31 (by decide) rfl (by omega) (by omega) (fun h31 => ?_) (fun h31 => ?_)
        · refine v_iinc5 (q := 62) rfl dX4_holds_59 (by decide) rfl ?_
          refine v_goto (q := 3) dX4_holds_62 (by decide) ?_
          refine ih (k + 1) (by omega) (by omega) (fun i i0 i1 => ?_)
          by_cases hi : i = k
          rotate_left
          exact h5 i i0 (by omega)
          subst hi
          rintro ⟨a, a1, a2, a3⟩
          omega
        · refine v_aload_n (j := 0) (q := 35) rfl dX4_holds_34 rfl ?_
          refine v_iload (j := 5) (q := 37) rfl dX4_holds_35 rfl ?_
          refine v_iconst (q := 38) dX4_holds_37 rfl ?_
          refine v_cVI2 (q := 41) dX4_holds_38 mlX4_37 mdX4_part (by decide) (su1 hb) rfl rfl ⟨Nat.le_refl 0, Nat.le_refl 0⟩ (by exact Nat.le_of_ble_eq_true rfl) rfl (c_X4_part b k 2 mem hb (by omega) (by omega)) ?_
          rintro _ _ ⟨rfl, rfl⟩
          refine v_iload_n (j := 3) (q := 42) rfl dX4_holds_41 rfl ?_
          refine v_icmp_ne (tgt := 59) (q := 45) dX4_holds_42 (by decide) rfl (by omega) (by omega) (fun h42 => ?_) (fun h42 => ?_)
          · refine v_iinc5 (q := 62) rfl dX4_holds_59 (by decide) rfl ?_
            refine v_goto (q := 3) dX4_holds_62 (by decide) ?_
            refine ih (k + 1) (by omega) (by omega) (fun i i0 i1 => ?_)
            by_cases hi : i = k
            rotate_left
            exact h5 i i0 (by omega)
            subst hi
            rintro ⟨a, a1, a2, a3⟩
            omega
          · refine v_aload_n (j := 0) (q := 46) rfl dX4_holds_45 rfl ?_
            refine v_iload (j := 5) (q := 48) rfl dX4_holds_46 rfl ?_
            refine v_iconst (q := 49) dX4_holds_48 rfl ?_
            refine v_cVI2 (q := 52) dX4_holds_49 mlX4_37 mdX4_part (by decide) (su1 hb) rfl rfl ⟨Nat.le_refl 0, Nat.le_refl 0⟩ (by exact Nat.le_of_ble_eq_true rfl) rfl (c_X4_part b k 3 mem hb (by omega) (by omega)) ?_
            rintro _ _ ⟨rfl, rfl⟩
            refine v_iload (j := 4) (q := 54) rfl dX4_holds_52 rfl ?_
            refine v_icmp_ne (tgt := 59) (q := 57) dX4_holds_54 (by decide) rfl (by omega) (by omega) (fun h54 => ?_) (fun h54 => ?_)
            · refine v_iinc5 (q := 62) rfl dX4_holds_59 (by decide) rfl ?_
              refine v_goto (q := 3) dX4_holds_62 (by decide) ?_
              refine ih (k + 1) (by omega) (by omega) (fun i i0 i1 => ?_)
              by_cases hi : i = k
              rotate_left
              exact h5 i i0 (by omega)
              subst hi
              rintro ⟨a, a1, a2, a3⟩
              omega
            · refine v_iconst (q := 58) dX4_holds_57 rfl ?_
              refine v_zret (by first | exact Or.inl rfl | exact Or.inr rfl | exact bI_01 _ | omega) dX4_holds_58 ?_
              exact ⟨_, rfl, rfl, bI_t ⟨k, by omega, by omega, by omega, by omega, by omega, by omega⟩⟩
theorem c_X4_holds (b : Nat) (p x q w : Int) (mem : Mem) (hb : isSU b) (hp : R32 p ∧ R32 x ∧ R32 q ∧ R32 w) (h1 : 0 ≤ mem b 4) (h2 : mem b 4 ≤ 20) (hr : ∀ i, 0 ≤ i → i < 100 → R32 (mem (b + 1) i)) : CtrI mX4_holds [aR b, aI p, aI x, aI q, aI w] mem (fun z m => mem = m ∧ bI (hasR (mem (b + 1)) (mem b 4) p x q w) = z) := by
  refine Ctr.ofV (ls := [aR b, aI p, aI x, aI q, aI w, aU]) rfl (by decide) rfl (Nat.le_of_ble_eq_true rfl) ?_
  refine v_iconst (q := 1) dX4_holds_0 rfl ?_
  refine v_ist5 (q := 3) rfl dX4_holds_1 (by decide) rfl ?_
  exact l_X4_holds b p x q w mem hb hp h2 hr (mem b 4).toNat 0 (by omega) (by omega) (fun i i0 i1 => by omega)
