/-! ===== Machine: the nearest stack ===== -/
theorem PTH.app {y : Sy} {t e : Int} {v : List Int} {W2 : Int} (h2 : PTH y v t e W2) : ∀ {u : List Int} {s W1 : Int}, PTH y u s t W1 → PTH y (u ++ v) s e (W1 + W2)
  | [], s, W1, ⟨a, b⟩ => by
    subst a; subst b
    rw [List.nil_append, Int.zero_add]
    exact h2
  | l :: u, s, W1, ⟨x, w, a, b⟩ => ⟨x, w, a, by have := PTH.app h2 b; rwa [show W1 - w + W2 = W1 + W2 - w by omega] at this⟩
theorem PTH.cut {y : Sy} {e : Int} {v : List Int} : ∀ {u : List Int} {s W : Int}, PTH y (u ++ v) s e W → ∃ t W1 W2, PTH y u s t W1 ∧ PTH y v t e W2 ∧ W = W1 + W2
  | [], s, W, h => ⟨s, 0, W, ⟨rfl, rfl⟩, h, by omega⟩
  | l :: u, s, W, ⟨x, w, a, b⟩ => by
    obtain ⟨t, W1, W2, g1, g2, g3⟩ := PTH.cut b
    exact ⟨t, W1 + w, W2, ⟨x, w, a, by rw [show W1 + w - w = W1 by omega]; exact g1⟩, g2, by omega⟩
theorem PTH.one {y : Sy} {s l e W : Int} : PTH y [l] s e W ↔ AD y s l e W := by
  constructor
  · rintro ⟨t, w, a, b, c⟩
    rw [← b, show W = w by omega]
    exact a
  · intro h
    exact ⟨e, W, h, rfl, by omega⟩
theorem PTH.mid {y : Sy} (ok : okS y) : ∀ {u : List Int} {s t W : Int}, (isHn y s ∨ isCh y s) → PTH y u s t W → (isHn y t ∨ isCh y t) ∧ 0 ≤ W
  | [], s, t, W, hs, ⟨a, b⟩ => ⟨by rw [← a]; exact hs, by omega⟩
  | l :: u, s, t, W, hs, ⟨x, w, a, b⟩ => by
    have k := a.ok ok
    have := PTH.mid ok k.2.1 b
    exact ⟨this.1, by have := k.1.1; omega⟩
theorem AD.lab {y : Sy} (ok : okS y) {s l t w : Int} (hs : isHn y s ∨ isCh y s) (h : AD y s l t w) : 1 ≤ l ∧ l ≤ 5 := by
  have hS := ok.1
  have hG := ok.2.1
  have r := isN_rng ok hs
  rcases (h.ok ok).2.2 with ⟨g, -⟩ | ⟨-, g, -⟩ | ⟨-, -, -, -, g, -⟩ <;> omega
theorem PTH.labs {y : Sy} (ok : okS y) : ∀ {u : List Int} {s t W : Int}, (isHn y s ∨ isCh y s) → PTH y u s t W → ∀ l ∈ u, 1 ≤ l ∧ l ≤ 5
  | [], _, _, _, _, _, l, hl => by cases hl
  | a :: u, s, t, W, hs, ⟨x, w, h1, h2⟩, l, hl => by
    rcases List.mem_cons.mp hl with rfl | hl
    · exact AD.lab ok hs h1
    · exact PTH.labs ok (h1.ok ok).2.1 h2 l hl
def num (x : Int) (u : List Int) : Int := u.foldl (fun a l => a * 10 + l) x
theorem num_app (x : Int) (u : List Int) (l : Int) : num x (u ++ [l]) = num x u * 10 + l := by unfold num; rw [List.foldl_append]; rfl
/-- the nearest stack of a head -/
def sNs (y : Sy) (p x z : Int) : Prop := (¬ hval y p x ∧ z = -1) ∨ (hval y p x ∧ ((hdw y p x = 1000001 ∧ z = -6) ∨ (hdw y p x < 1000001 ∧ (((∀ u, DSt y p x u (hdw y p x) → 5 < u.length) ∧ z = -6) ∨ ∃ u, u.length ≤ 5 ∧ DSt y p x u (hdw y p x) ∧ (∀ u', DSt y p x u' (hdw y p x) → u.length ≤ u'.length) ∧ (∀ u', DSt y p x u' (hdw y p x) → u'.length = u.length → num x u ≤ num x u') ∧ z = num x u))))
theorem sNs.det {y : Sy} {p x z z2 : Int} (h : sNs y p x z) (h2 : sNs y p x z2) : z = z2 := by
  rcases h with ⟨a, b⟩ | ⟨a, h⟩
  · rcases h2 with ⟨a2, b2⟩ | ⟨a2, -⟩
    · omega
    · exact absurd a2 a
  · rcases h2 with ⟨a2, -⟩ | ⟨-, h2⟩
    · exact absurd a a2
    · rcases h with ⟨b, c⟩ | ⟨b, h⟩
      · rcases h2 with ⟨b2, c2⟩ | ⟨b2, -⟩
        · omega
        · omega
      · rcases h2 with ⟨b2, c2⟩ | ⟨b2, h2⟩
        · omega
        · rcases h with ⟨c, d⟩ | ⟨u, u1, u2, u3, u4, u5⟩
          · rcases h2 with ⟨c2, d2⟩ | ⟨v, v1, v2, v3, v4, v5⟩
            · omega
            · have := c v v2; omega
          · rcases h2 with ⟨c2, d2⟩ | ⟨v, v1, v2, v3, v4, v5⟩
            · have := c2 u u2; omega
            · have e1 := u3 v v2
              have e2 := v3 u u2
              have e3 := u4 v v2 (by omega)
              have e4 := v4 u u2 (by omega)
              omega
theorem shl24 {k : Nat} (h : k < 24) : (Int32.ofInt 1) <<< ((Int32.ofInt (k : Int)) &&& 31) = Int32.ofInt ((2 ^ k : Nat) : Int) := by
  have : ∀ k : Fin 24, (Int32.ofInt 1) <<< ((Int32.ofInt ((k : Nat) : Int)) &&& 31) = Int32.ofInt ((2 ^ (k : Nat) : Nat) : Int) := by decide +kernel
  exact this ⟨k, h⟩
theorem shr24 {U k : Nat} (hU : U < 2147483648) (h : k < 24) : (Int32.ofInt (U : Int)) >>> ((Int32.ofInt (k : Int)) &&& 31) = Int32.ofInt ((U / 2 ^ k : Nat) : Int) := by
  have hm : ∀ k : Fin 24, ((Int32.ofInt ((k : Nat) : Int)) &&& 31).toBitVec.smod 32 = BitVec.ofNat 32 k := by decide +kernel
  have hm := hm ⟨k, h⟩
  have hle : U / 2 ^ k ≤ U := Nat.div_le_self _ _
  have hk : (BitVec.ofNat 32 k).toNat = k := by rw [BitVec.toNat_ofNat]; omega
  apply Int32.toBitVec_inj.mp
  apply BitVec.eq_of_toInt_eq
  rw [Int32.toBitVec_shiftRight, hm, BitVec.sshiftRight_eq', BitVec.toInt_sshiftRight, hk]
  have e : ∀ n : Nat, n < 2147483648 → (Int32.ofInt (n : Int)).toBitVec.toInt = n := fun n hn => Int32.toInt_ofInt_of_le (by omega) (by omega)
  rw [e U hU, e _ (by omega), Int.shiftRight_eq_div_pow]
  rfl
theorem or_lt24 {U k : Nat} (h : U < 16777216) (hk : k < 24) : U ||| 2 ^ k < 16777216 := by
  have e : (16777216 : Nat) = 2 ^ 24 := by decide
  rw [e] at h ⊢
  exact Nat.or_lt_two_pow h (Nat.pow_lt_pow_right (by omega) hk)
theorem pow24 {k : Nat} (hk : k < 24) : 2 ^ k < 2147483648 := by
  have : (2 : Nat) ^ k ≤ 2 ^ 24 := Nat.pow_le_pow_right (by omega) (by omega)
  have e : (2 : Nat) ^ 24 = 16777216 := by decide
  omega
/-- the arc at j leads on a best way, from one of the ends in U -/
def bst (m : Mem) (U j : Nat) : Prop := 4 ≤ (j : Int) / 144 ∧ U.testBit (j / 144 - 4) = true ∧ m 84 j * 16777216 + 1 + m 110 ((j : Int) % 24) = m 110 ((j : Int) / 144 - 4)
theorem c_X1_isBestFrom (k : Int) (U j : Nat) (mem : Mem) (y : Sy) (ok : okS y) (hm : MO mem y) (h : arcK mem k j) (hU : U < 16777216) : CtrI mX1_isBestFrom [aR 83, aI (U : Int), aI k] mem (fun z m => mem = m ∧ bI (bst mem U j) = z) := by
  obtain ⟨h1, h2, h3, h4, h5, h6⟩ := id h
  have w := hm.1 j (by omega) (by omega)
  have hh := hm.home ok (e := (j : Int) % 24) (by omega)
  have f0 : 4 ≤ (j : Int) / 144 → (((j / 144 - 4 : Nat)) : Int) = (j : Int) / 144 - 4 := fun h => by omega
  have hle : U / 2 ^ (j / 144 - 4) ≤ U := Nat.div_le_self _ _
  refine Ctr.ofV (ls := [aR 83, aI (U : Int), aI k, aU]) rfl (by decide) rfl (Nat.le_of_ble_eq_true rfl) ?_
  refine v_aload_n (j := 0) (q := 1) rfl dX1_isBestFrom_0 rfl ?_
  refine v_getR (p' := 113) (q := 4) dX1_isBestFrom_1 fl_X1_42 kd_83 rfl (rfc_1_10 kd_83) rfl ?_
  refine v_iload_n (j := 2) (q := 5) rfl dX1_isBestFrom_4 rfl ?_
  refine v_iald (q := 6) dX1_isBestFrom_5 kd_113 (by omega) (by omega) rfl ?_
  rw [h3]
  refine v_iconst (q := 7) dX1_isBestFrom_6 rfl ?_
  refine v_isub (q := 8) dX1_isBestFrom_7 rfl ?_
  refine v_ist3 (q := 9) rfl dX1_isBestFrom_8 (by decide) rfl ?_
  refine v_iload_n (j := 3) (q := 10) rfl dX1_isBestFrom_9 rfl ?_
  refine v_if_lt (tgt := 40) (q := 13) dX1_isBestFrom_10 (by decide) rfl (by omega) (fun h10 => ?_) (fun h10 => ?_)
  · refine v_iconst (q := 41) dX1_isBestFrom_40 rfl ?_
    refine v_zret (by first | exact Or.inl rfl | exact Or.inr rfl | exact bI_01 _ | omega) dX1_isBestFrom_41 ?_
    refine ⟨_, rfl, rfl, ?_⟩
    first
      | exact bI_f (fun hb => by have := hb.1; omega)
      | exact bI_f (fun hb => by have := (tb_div _ _).mp hb.2.1; omega)
      | exact bI_f (fun hb => h32 (by rw [f1]; exact hb.2.2))
      | exact bI_t ⟨by omega, (tb_div _ _).mpr (by omega), by rw [← f1]; exact h32⟩
  · have f1 := f0 (by omega)
    rw [← f1]
    have hh2 := hm.home ok (e := ((j / 144 - 4 : Nat) : Int)) (by omega)
    refine v_iload_n (j := 1) (q := 14) rfl dX1_isBestFrom_13 rfl ?_
    refine v_iload_n (j := 3) (q := 15) rfl dX1_isBestFrom_14 rfl ?_
    refine v_ishr (q := 16) (shr24 (by omega) (by omega)) dX1_isBestFrom_15 rfl ?_
    refine v_iconst (q := 17) dX1_isBestFrom_16 rfl ?_
    refine v_iand (q := 18) (and1 (by omega)) dX1_isBestFrom_17 rfl ?_
    refine v_if_eq (tgt := 40) (q := 21) dX1_isBestFrom_18 (by decide) rfl (by omega) (fun h18 => ?_) (fun h18 => ?_)
    · refine v_iconst (q := 41) dX1_isBestFrom_40 rfl ?_
      refine v_zret (by first | exact Or.inl rfl | exact Or.inr rfl | exact bI_01 _ | omega) dX1_isBestFrom_41 ?_
      refine ⟨_, rfl, rfl, ?_⟩
      first
        | exact bI_f (fun hb => by have := hb.1; omega)
        | exact bI_f (fun hb => by have := (tb_div _ _).mp hb.2.1; omega)
        | exact bI_f (fun hb => h32 (by rw [f1]; exact hb.2.2))
        | exact bI_t ⟨by omega, (tb_div _ _).mpr (by omega), by rw [← f1]; exact h32⟩
    · refine v_aload_n (j := 0) (q := 22) rfl dX1_isBestFrom_21 rfl ?_
      refine v_iload_n (j := 2) (q := 23) rfl dX1_isBestFrom_22 rfl ?_
      refine v_cVL1 (q := 26) dX1_isBestFrom_23 mlX1_169 mdX1_costOverArc (by decide) kd_83 rfl rfl ⟨Nat.le_refl 0, Nat.le_refl 0⟩ (by exact Nat.le_of_ble_eq_true rfl) rfl (c_X1_costOverArc k j mem h hm.1) ?_
      rintro _ _ ⟨rfl, rfl⟩
      refine v_aload_n (j := 0) (q := 27) rfl dX1_isBestFrom_26 rfl ?_
      refine v_getR (p' := 110) (q := 30) dX1_isBestFrom_27 fl_X1_28 kd_83 rfl (rfc_1_6 kd_83) rfl ?_
      refine v_iload_n (j := 3) (q := 31) rfl dX1_isBestFrom_30 rfl ?_
      refine v_lald (q := 32) dX1_isBestFrom_31 kd_110 (by omega) (by omega) rfl ?_
      refine v_lcmp_ne (tgt := 40) (q := 36) dX1_isBestFrom_32 dX1_isBestFrom_33 (by decide) rfl (by omega) (by omega) (fun h32 => ?_) (fun h32 => ?_)
      · refine v_iconst (q := 41) dX1_isBestFrom_40 rfl ?_
        refine v_zret (by first | exact Or.inl rfl | exact Or.inr rfl | exact bI_01 _ | omega) dX1_isBestFrom_41 ?_
        refine ⟨_, rfl, rfl, ?_⟩
        first
          | exact bI_f (fun hb => by have := hb.1; omega)
          | exact bI_f (fun hb => by have := (tb_div _ _).mp hb.2.1; omega)
          | exact bI_f (fun hb => h32 (by rw [f1]; exact hb.2.2))
          | exact bI_t ⟨by omega, (tb_div _ _).mpr (by omega), by rw [← f1]; exact h32⟩
      · refine v_iconst (q := 37) dX1_isBestFrom_36 rfl ?_
        refine v_goto (q := 41) dX1_isBestFrom_37 (by decide) ?_
        refine v_zret (by first | exact Or.inl rfl | exact Or.inr rfl | exact bI_01 _ | omega) dX1_isBestFrom_41 ?_
        refine ⟨_, rfl, rfl, ?_⟩
        first
          | exact bI_f (fun hb => by have := hb.1; omega)
          | exact bI_f (fun hb => by have := (tb_div _ _).mp hb.2.1; omega)
          | exact bI_f (fun hb => h32 (by rw [f1]; exact hb.2.2))
          | exact bI_t ⟨by omega, (tb_div _ _).mpr (by omega), by rw [← f1]; exact h32⟩
theorem l_X1_leastLabel (U : Nat) (mem : Mem) (y : Sy) (ok : okS y) (hm : MO mem y) (hU : U < 16777216) :
    ∀ (n : Nat) (k L : Int), k + n = mem 83 1 → 0 ≤ k → L ≤ 6 → (L = 6 ∨ (0 ≤ L ∧ ∃ j : Nat, j < 4032 ∧ mem 84 j ≠ -6 ∧ bst mem U j ∧ (j : Int) / 24 % 6 = L)) → (∀ j : Nat, j < 4032 → mem 84 j ≠ -6 → cP (fun i => mem 84 i ≠ -6) j < k → bst mem U j → L ≤ (j : Int) / 24 % 6) →
    V cX1_leastLabel RX1 4 (some .int) (rmk 4 88) (mE (fun r m => ∃ z, r = aI z ∧ mem = m ∧ (z = 6 ∨ ∃ j : Nat, j < 4032 ∧ mem 84 j ≠ -6 ∧ bst mem U j ∧ (j : Int) / 24 % 6 = z) ∧ ∀ j : Nat, j < 4032 → mem 84 j ≠ -6 → bst mem U j → z ≤ (j : Int) / 24 % 6)) 5 [aR 83, aI (U : Int), aI L, aI k] [] mem := by
  have hc504 : mem 83 1 ≤ 504 := by rw [hm.2.2.2.1.1]; exact hm.2.2.2.2.1
  intro n
  induction n with
  | zero =>
    intro k L h1 h2 h3 h4 h5
    have hk : k = mem 83 1 := by omega
    refine v_iload_n (j := 3) (q := 6) rfl dX1_leastLabel_5 rfl ?_
    refine v_aload_n (j := 0) (q := 7) rfl dX1_leastLabel_6 rfl ?_
    refine v_getI (j := 1) (q := 10) dX1_leastLabel_7 fl_X1_15 kd_83 rfl rfl rfl ?_
    refine v_icmp_ge (tgt := 45) (q := 13) dX1_leastLabel_10 (by decide) rfl (by omega) (by omega) (fun h10 => ?_) (fun h10 => ?_)
    · refine v_iload_n (j := 2) (q := 46) rfl dX1_leastLabel_45 rfl ?_
      refine v_iret dX1_leastLabel_46 ?_
      refine ⟨_, rfl, rfl, h4.imp id (fun h => h.2), fun j hj hp hb => h5 j hj hp ?_ hb⟩
      rw [hk, hm.2.2.2.1.1]
      exact cP_lt (P := fun i => mem 84 i ≠ -6) hj hp
    · exact absurd h10 (by omega)
  | succ n ih =>
    intro k L h1 h2 h3 h4 h5
    obtain ⟨j, ak, a7⟩ := hm.2.2.2.1.at rfl hm.2.2.2.2.1 h2 (by omega)
    obtain ⟨a1, a2, a3, a4, a5, a6⟩ := id ak
    have uniq : ∀ j2 : Nat, mem 84 j2 ≠ -6 → cP (fun i => mem 84 i ≠ -6) j2 < k + 1 → cP (fun i => mem 84 i ≠ -6) j2 < k ∨ j2 = j := fun j2 p2 h9 => by
      by_cases g : cP (fun i => mem 84 i ≠ -6) j2 = k
      · exact Or.inr (cP_inj (P := fun i => mem 84 i ≠ -6) p2 a6 (by rw [g, a7]))
      · exact Or.inl (by omega)
    refine v_iload_n (j := 3) (q := 6) rfl dX1_leastLabel_5 rfl ?_
    refine v_aload_n (j := 0) (q := 7) rfl dX1_leastLabel_6 rfl ?_
    refine v_getI (j := 1) (q := 10) dX1_leastLabel_7 fl_X1_15 kd_83 rfl rfl rfl ?_
    refine v_icmp_ge (tgt := 45) (q := 13) dX1_leastLabel_10 (by decide) rfl (by omega) (by omega) (fun h10 => ?_) (fun h10 => ?_)
    · exact absurd h10 (by omega)
    · refine v_aload_n (j := 0) (q := 14) rfl dX1_leastLabel_13 rfl ?_
      refine v_getR (p' := 114) (q := 17) dX1_leastLabel_14 fl_X1_45 kd_83 rfl (rfc_1_11 kd_83) rfl ?_
      refine v_iload_n (j := 3) (q := 18) rfl dX1_leastLabel_17 rfl ?_
      refine v_iald (q := 19) dX1_leastLabel_18 kd_114 (by omega) (by omega) rfl ?_
      rw [a4]
      refine v_iload_n (j := 2) (q := 20) rfl dX1_leastLabel_19 rfl ?_
      refine v_icmp_ge (tgt := 39) (q := 23) dX1_leastLabel_20 (by decide) rfl (by omega) (by omega) (fun h20 => ?_) (fun h20 => ?_)
      · refine v_iinc3 (q := 42) rfl dX1_leastLabel_39 (by decide) rfl ?_
        refine v_goto (q := 5) dX1_leastLabel_42 (by decide) ?_
        first
          | (have g20 : L ≤ (j : Int) / 24 % 6 := by omega
             exact ih (k + 1) L (by omega) (by omega) h3 h4 (fun j2 hj2 p2 hlt hb => by
              rcases uniq j2 p2 hlt with g | g
              · exact h5 j2 hj2 p2 g hb
              · subst g; omega))
          | exact ih (k + 1) L (by omega) (by omega) h3 h4 (fun j2 hj2 p2 hlt hb => by
              rcases uniq j2 p2 hlt with g | g
              · exact h5 j2 hj2 p2 g hb
              · subst g; exact absurd hb h29)
          | exact ih (k + 1) ((j : Int) / 24 % 6) (by omega) (by omega) (by omega) (Or.inr ⟨by omega, j, a2, a6, h29, rfl⟩) (fun j2 hj2 p2 hlt hb => by
              rcases uniq j2 p2 hlt with g | g
              · have := h5 j2 hj2 p2 g hb; omega
              · subst g; omega)
      · refine v_aload_n (j := 0) (q := 24) rfl dX1_leastLabel_23 rfl ?_
        refine v_iload_n (j := 1) (q := 25) rfl dX1_leastLabel_24 rfl ?_
        refine v_iload_n (j := 3) (q := 26) rfl dX1_leastLabel_25 rfl ?_
        refine v_cVI2 (q := 29) dX1_leastLabel_26 mlX1_198 mdX1_isBestFrom (by decide) kd_83 rfl rfl ⟨Nat.le_refl 0, Nat.le_refl 0⟩ (by exact Nat.le_of_ble_eq_true rfl) rfl (c_X1_isBestFrom k U j mem y ok hm ak hU) ?_
        rintro _ _ ⟨rfl, rfl⟩
        refine v_if_eqB (tgt := 39) (q := 32) dX1_leastLabel_29 (by decide) rfl (fun h29 => ?_) (fun h29 => ?_)
        · refine v_iinc3 (q := 42) rfl dX1_leastLabel_39 (by decide) rfl ?_
          refine v_goto (q := 5) dX1_leastLabel_42 (by decide) ?_
          first
            | (have g20 : L ≤ (j : Int) / 24 % 6 := by omega
               exact ih (k + 1) L (by omega) (by omega) h3 h4 (fun j2 hj2 p2 hlt hb => by
                rcases uniq j2 p2 hlt with g | g
                · exact h5 j2 hj2 p2 g hb
                · subst g; omega))
            | exact ih (k + 1) L (by omega) (by omega) h3 h4 (fun j2 hj2 p2 hlt hb => by
                rcases uniq j2 p2 hlt with g | g
                · exact h5 j2 hj2 p2 g hb
                · subst g; exact absurd hb h29)
            | exact ih (k + 1) ((j : Int) / 24 % 6) (by omega) (by omega) (by omega) (Or.inr ⟨by omega, j, a2, a6, h29, rfl⟩) (fun j2 hj2 p2 hlt hb => by
                rcases uniq j2 p2 hlt with g | g
                · have := h5 j2 hj2 p2 g hb; omega
                · subst g; omega)
        · refine v_aload_n (j := 0) (q := 33) rfl dX1_leastLabel_32 rfl ?_
          refine v_getR (p' := 114) (q := 36) dX1_leastLabel_33 fl_X1_45 kd_83 rfl (rfc_1_11 kd_83) rfl ?_
          refine v_iload_n (j := 3) (q := 37) rfl dX1_leastLabel_36 rfl ?_
          refine v_iald (q := 38) dX1_leastLabel_37 kd_114 (by omega) (by omega) rfl ?_
          rw [a4]
          refine v_ist2 (q := 39) rfl dX1_leastLabel_38 (by decide) rfl ?_
          refine v_iinc3 (q := 42) rfl dX1_leastLabel_39 (by decide) rfl ?_
          refine v_goto (q := 5) dX1_leastLabel_42 (by decide) ?_
          first
            | (have g20 : L ≤ (j : Int) / 24 % 6 := by omega
               exact ih (k + 1) L (by omega) (by omega) h3 h4 (fun j2 hj2 p2 hlt hb => by
                rcases uniq j2 p2 hlt with g | g
                · exact h5 j2 hj2 p2 g hb
                · subst g; omega))
            | exact ih (k + 1) L (by omega) (by omega) h3 h4 (fun j2 hj2 p2 hlt hb => by
                rcases uniq j2 p2 hlt with g | g
                · exact h5 j2 hj2 p2 g hb
                · subst g; exact absurd hb h29)
            | exact ih (k + 1) ((j : Int) / 24 % 6) (by omega) (by omega) (by omega) (Or.inr ⟨by omega, j, a2, a6, h29, rfl⟩) (fun j2 hj2 p2 hlt hb => by
                rcases uniq j2 p2 hlt with g | g
                · have := h5 j2 hj2 p2 g hb; omega
                · subst g; omega)
theorem c_X1_leastLabel (U : Nat) (mem : Mem) (y : Sy) (ok : okS y) (hm : MO mem y) (hU : U < 16777216) : CtrI mX1_leastLabel [aR 83, aI (U : Int)] mem (fun z m => mem = m ∧ (z = 6 ∨ ∃ j : Nat, j < 4032 ∧ mem 84 j ≠ -6 ∧ bst mem U j ∧ (j : Int) / 24 % 6 = z) ∧ ∀ j : Nat, j < 4032 → mem 84 j ≠ -6 → bst mem U j → z ≤ (j : Int) / 24 % 6) := by
  have c0 := (cP_rng (fun i => mem 84 i ≠ -6) 4032).1
  have e1 := hm.2.2.2.1.1
  refine Ctr.ofV (ls := [aR 83, aI (U : Int), aU, aU]) rfl (by decide) rfl (Nat.le_of_ble_eq_true rfl) ?_
  refine v_bipush (q := 2) (by decide) dX1_leastLabel_0 rfl ?_
  refine v_ist2 (q := 3) rfl dX1_leastLabel_2 (by decide) rfl ?_
  refine v_iconst (q := 4) dX1_leastLabel_3 rfl ?_
  refine v_ist3 (q := 5) rfl dX1_leastLabel_4 (by decide) rfl ?_
  exact l_X1_leastLabel U mem y ok hm hU (mem 83 1).toNat 0 6 (by omega) (by omega) (by omega) (Or.inl rfl) (fun j _ _ h9 => absurd h9 (by have := (cP_rng (fun i => mem 84 i ≠ -6) j).1; omega))
theorem l_X1_endsAfter (U : Nat) (L : Int) (mem : Mem) (y : Sy) (ok : okS y) (hm : MO mem y) (hU : U < 16777216) (hL : R32 L) :
    ∀ (n : Nat) (k : Int) (V9 : Nat), k + n = mem 83 1 → 0 ≤ k → V9 < 16777216 → (∀ e : Nat, e < 24 → (V9.testBit e = true ↔ ∃ j : Nat, j < 4032 ∧ mem 84 j ≠ -6 ∧ cP (fun i => mem 84 i ≠ -6) j < k ∧ bst mem U j ∧ (j : Int) / 24 % 6 = L ∧ j % 24 = e)) →
    V cX1_endsAfter RX1 5 (some .int) (rmk 4 88) (mE (fun r m => ∃ z, r = aI z ∧ mem = m ∧ ∃ V9 : Nat, (V9 : Int) = z ∧ V9 < 16777216 ∧ ∀ e : Nat, e < 24 → (V9.testBit e = true ↔ ∃ j : Nat, j < 4032 ∧ mem 84 j ≠ -6 ∧ bst mem U j ∧ (j : Int) / 24 % 6 = L ∧ j % 24 = e))) 5 [aR 83, aI (U : Int), aI L, aI (V9 : Int), aI k] [] mem := by
  have hc504 : mem 83 1 ≤ 504 := by rw [hm.2.2.2.1.1]; exact hm.2.2.2.2.1
  intro n
  induction n with
  | zero =>
    intro k V9 h1 h2 h3 h4
    have hk : k = mem 83 1 := by omega
    refine v_iload (j := 4) (q := 7) rfl dX1_endsAfter_5 rfl ?_
    refine v_aload_n (j := 0) (q := 8) rfl dX1_endsAfter_7 rfl ?_
    refine v_getI (j := 1) (q := 11) dX1_endsAfter_8 fl_X1_15 kd_83 rfl rfl rfl ?_
    refine v_icmp_ge (tgt := 53) (q := 14) dX1_endsAfter_11 (by decide) rfl (by omega) (by omega) (fun h11 => ?_) (fun h11 => ?_)
    · refine v_iload_n (j := 3) (q := 54) rfl dX1_endsAfter_53 rfl ?_
      refine v_iret dX1_endsAfter_54 ?_
      refine ⟨_, rfl, rfl, V9, rfl, h3, fun e he => ?_⟩
      rw [h4 e he]
      refine ⟨fun ⟨j, b1, b2, _, b4⟩ => ⟨j, b1, b2, b4⟩, fun ⟨j, b1, b2, b4⟩ => ⟨j, b1, b2, ?_, b4⟩⟩
      rw [hk, hm.2.2.2.1.1]
      exact cP_lt (P := fun i => mem 84 i ≠ -6) b1 b2
    · exact absurd h11 (by omega)
  | succ n ih =>
    intro k V9 h1 h2 h3 h4
    obtain ⟨j, ak, a7⟩ := hm.2.2.2.1.at rfl hm.2.2.2.2.1 h2 (by omega)
    obtain ⟨a1, a2, a3, a4, a5, a6⟩ := id ak
    have uniq : ∀ j2 : Nat, mem 84 j2 ≠ -6 → cP (fun i => mem 84 i ≠ -6) j2 < k + 1 → cP (fun i => mem 84 i ≠ -6) j2 < k ∨ j2 = j := fun j2 p2 h9 => by
      by_cases g : cP (fun i => mem 84 i ≠ -6) j2 = k
      · exact Or.inr (cP_inj (P := fun i => mem 84 i ≠ -6) p2 a6 (by rw [g, a7]))
      · exact Or.inl (by omega)
    have skip : ¬ (bst mem U j ∧ (j : Int) / 24 % 6 = L) → ∀ e : Nat, e < 24 → (V9.testBit e = true ↔ ∃ j : Nat, j < 4032 ∧ mem 84 j ≠ -6 ∧ cP (fun i => mem 84 i ≠ -6) j < k + 1 ∧ bst mem U j ∧ (j : Int) / 24 % 6 = L ∧ j % 24 = e) := fun hno e he => by
      rw [h4 e he]
      refine ⟨fun ⟨j2, b1, b2, b3, b4⟩ => ⟨j2, b1, b2, by omega, b4⟩, fun ⟨j2, b1, b2, b3, b4⟩ => ⟨j2, b1, b2, ?_, b4⟩⟩
      rcases uniq j2 b2 b3 with g | g
      · exact g
      · subst g
        exact absurd ⟨b4.1, b4.2.1⟩ hno
    have e24 : ((j % 24 : Nat) : Int) = (j : Int) % 24 := by omega
    refine v_iload (j := 4) (q := 7) rfl dX1_endsAfter_5 rfl ?_
    refine v_aload_n (j := 0) (q := 8) rfl dX1_endsAfter_7 rfl ?_
    refine v_getI (j := 1) (q := 11) dX1_endsAfter_8 fl_X1_15 kd_83 rfl rfl rfl ?_
    refine v_icmp_ge (tgt := 53) (q := 14) dX1_endsAfter_11 (by decide) rfl (by omega) (by omega) (fun h11 => ?_) (fun h11 => ?_)
    · exact absurd h11 (by omega)
    · refine v_aload_n (j := 0) (q := 15) rfl dX1_endsAfter_14 rfl ?_
      refine v_getR (p' := 114) (q := 18) dX1_endsAfter_15 fl_X1_45 kd_83 rfl (rfc_1_11 kd_83) rfl ?_
      refine v_iload (j := 4) (q := 20) rfl dX1_endsAfter_18 rfl ?_
      refine v_iald (q := 21) dX1_endsAfter_20 kd_114 (by omega) (by omega) rfl ?_
      rw [a4]
      refine v_iload_n (j := 2) (q := 22) rfl dX1_endsAfter_21 rfl ?_
      refine v_icmp_ne (tgt := 47) (q := 25) dX1_endsAfter_22 (by decide) rfl (by omega) (by omega) (fun h22 => ?_) (fun h22 => ?_)
      · refine v_iinc4 (q := 50) rfl dX1_endsAfter_47 (by decide) rfl ?_
        refine v_goto (q := 5) dX1_endsAfter_50 (by decide) ?_
        first
          | exact ih (k + 1) V9 (by omega) (by omega) h3 (skip (fun h => h22 h.2))
          | exact ih (k + 1) V9 (by omega) (by omega) h3 (skip (fun h => h32 h.1))
          | (refine ih (k + 1) _ (by omega) (by omega) (or_lt24 h3 (by omega)) (fun e he => ?_)
             rw [or_pow_bit, h4 e he]
             constructor
             · rintro (⟨j2, b1, b2, b3, b4⟩ | g)
               · exact ⟨j2, b1, b2, by omega, b4⟩
               · exact ⟨j, a2, a6, by omega, h32, h22, g⟩
             · rintro ⟨j2, b1, b2, b3, b4⟩
               rcases uniq j2 b2 b3 with g | g
               · exact Or.inl ⟨j2, b1, b2, g, b4⟩
               · subst g
                 exact Or.inr b4.2.2)
      · refine v_aload_n (j := 0) (q := 26) rfl dX1_endsAfter_25 rfl ?_
        refine v_iload_n (j := 1) (q := 27) rfl dX1_endsAfter_26 rfl ?_
        refine v_iload (j := 4) (q := 29) rfl dX1_endsAfter_27 rfl ?_
        refine v_cVI2 (q := 32) dX1_endsAfter_29 mlX1_198 mdX1_isBestFrom (by decide) kd_83 rfl rfl ⟨Nat.le_refl 0, Nat.le_refl 0⟩ (by exact Nat.le_of_ble_eq_true rfl) rfl (c_X1_isBestFrom k U j mem y ok hm ak hU) ?_
        rintro _ _ ⟨rfl, rfl⟩
        refine v_if_eqB (tgt := 47) (q := 35) dX1_endsAfter_32 (by decide) rfl (fun h32 => ?_) (fun h32 => ?_)
        · refine v_iinc4 (q := 50) rfl dX1_endsAfter_47 (by decide) rfl ?_
          refine v_goto (q := 5) dX1_endsAfter_50 (by decide) ?_
          first
            | exact ih (k + 1) V9 (by omega) (by omega) h3 (skip (fun h => h22 h.2))
            | exact ih (k + 1) V9 (by omega) (by omega) h3 (skip (fun h => h32 h.1))
            | (refine ih (k + 1) _ (by omega) (by omega) (or_lt24 h3 (by omega)) (fun e he => ?_)
               rw [or_pow_bit, h4 e he]
               constructor
               · rintro (⟨j2, b1, b2, b3, b4⟩ | g)
                 · exact ⟨j2, b1, b2, by omega, b4⟩
                 · exact ⟨j, a2, a6, by omega, h32, h22, g⟩
               · rintro ⟨j2, b1, b2, b3, b4⟩
                 rcases uniq j2 b2 b3 with g | g
                 · exact Or.inl ⟨j2, b1, b2, g, b4⟩
                 · subst g
                   exact Or.inr b4.2.2)
        · refine v_iload_n (j := 3) (q := 36) rfl dX1_endsAfter_35 rfl ?_
          refine v_iconst (q := 37) dX1_endsAfter_36 rfl ?_
          refine v_aload_n (j := 0) (q := 38) rfl dX1_endsAfter_37 rfl ?_
          refine v_getR (p' := 115) (q := 41) dX1_endsAfter_38 fl_X1_48 kd_83 rfl (rfc_1_12 kd_83) rfl ?_
          refine v_iload (j := 4) (q := 43) rfl dX1_endsAfter_41 rfl ?_
          refine v_iald (q := 44) dX1_endsAfter_43 kd_115 (by omega) (by omega) rfl ?_
          rw [a5, ← e24]
          refine v_ishl (q := 45) (shl24 (by omega)) dX1_endsAfter_44 rfl ?_
          refine v_ior (q := 46) (or32 (by omega) (pow24 (by omega))) dX1_endsAfter_45 rfl ?_
          refine v_ist3 (q := 47) rfl dX1_endsAfter_46 (by decide) rfl ?_
          refine v_iinc4 (q := 50) rfl dX1_endsAfter_47 (by decide) rfl ?_
          refine v_goto (q := 5) dX1_endsAfter_50 (by decide) ?_
          first
            | exact ih (k + 1) V9 (by omega) (by omega) h3 (skip (fun h => h22 h.2))
            | exact ih (k + 1) V9 (by omega) (by omega) h3 (skip (fun h => h32 h.1))
            | (refine ih (k + 1) _ (by omega) (by omega) (or_lt24 h3 (by omega)) (fun e he => ?_)
               rw [or_pow_bit, h4 e he]
               constructor
               · rintro (⟨j2, b1, b2, b3, b4⟩ | g)
                 · exact ⟨j2, b1, b2, by omega, b4⟩
                 · exact ⟨j, a2, a6, by omega, h32, h22, g⟩
               · rintro ⟨j2, b1, b2, b3, b4⟩
                 rcases uniq j2 b2 b3 with g | g
                 · exact Or.inl ⟨j2, b1, b2, g, b4⟩
                 · subst g
                   exact Or.inr b4.2.2)
theorem c_X1_endsAfter (U : Nat) (L : Int) (mem : Mem) (y : Sy) (ok : okS y) (hm : MO mem y) (hU : U < 16777216) (hL : R32 L) : CtrI mX1_endsAfter [aR 83, aI (U : Int), aI L] mem (fun z m => mem = m ∧ ∃ V9 : Nat, (V9 : Int) = z ∧ V9 < 16777216 ∧ ∀ e : Nat, e < 24 → (V9.testBit e = true ↔ ∃ j : Nat, j < 4032 ∧ mem 84 j ≠ -6 ∧ bst mem U j ∧ (j : Int) / 24 % 6 = L ∧ j % 24 = e)) := by
  have c0 := (cP_rng (fun i => mem 84 i ≠ -6) 4032).1
  have e1 := hm.2.2.2.1.1
  refine Ctr.ofV (ls := [aR 83, aI (U : Int), aI L, aU, aU]) rfl (by decide) rfl (Nat.le_of_ble_eq_true rfl) ?_
  refine v_iconst (q := 1) dX1_endsAfter_0 rfl ?_
  refine v_ist3 (q := 2) rfl dX1_endsAfter_1 (by decide) rfl ?_
  refine v_iconst (q := 3) dX1_endsAfter_2 rfl ?_
  refine v_ist4 (q := 5) rfl dX1_endsAfter_3 (by decide) rfl ?_
  exact l_X1_endsAfter U L mem y ok hm hU hL (mem 83 1).toNat 0 0 (by omega) (by omega) (by omega) (fun e _ => by rw [Nat.zero_testBit]; exact ⟨fun h => absurd h (by decide), fun ⟨j, _, _, h, _⟩ => absurd h (by have := (cP_rng (fun i => mem 84 i ≠ -6) j).1; omega)⟩)
