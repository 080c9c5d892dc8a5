/-! ===== Setup.rulesWithWordOf, Word.take, History ===== -/
/-- how many of the first n rules have a word of z symbols -/
def cntW (f : Int → Int) (z : Int) : Nat → Int
  | 0 => 0
  | n + 1 => cntW f z n + (if nd (f ((n : Int) * 5 + 3)) = z then 1 else 0)
theorem cntW_le (f : Int → Int) (z : Int) : ∀ n : Nat, 0 ≤ cntW f z n ∧ cntW f z n ≤ n
  | 0 => by simp [cntW]
  | n + 1 => by
    have := cntW_le f z n
    unfold cntW
    split <;> omega
theorem cntW_succ (f : Int → Int) (z : Int) (k : Nat) : cntW f z (k + 1) = cntW f z k + (if nd (f ((k : Int) * 5 + 3)) = z then 1 else 0) := rfl
theorem l_X4_rulesWithWordOf (b : Nat) (z : Int) (mem : Mem) (hb : isSU b) (hz : R32 z) (h2 : mem b 4 ≤ 20) (hr : ∀ i, 0 ≤ i → i < 100 → R32 (mem (b + 1) i)) : ∀ (j k : Nat), (k : Int) + j = mem b 4 →
    V cX4_rulesWithWordOf RX4 4 (some .int) (rmk 1 23) (mE (fun r m => ∃ y, r = aI y ∧ mem = m ∧ cntW (mem (b + 1)) z (mem b 4).toNat = y)) 4 [aR b, aI z, aI (cntW (mem (b + 1)) z k), aI k] [] mem := by
  intro j
  induction j with
  | zero =>
    intro k h3
    refine v_iload_n (j := 3) (q := 5) rfl dX4_rulesWithWordOf_4 rfl ?_
    refine v_aload_n (j := 0) (q := 6) rfl dX4_rulesWithWordOf_5 rfl ?_
    refine v_getI (j := 4) (q := 9) dX4_rulesWithWordOf_6 fl_X4_24 (su1 hb) rfl rfl rfl ?_
    refine v_icmp_ge (tgt := 34) (q := 12) dX4_rulesWithWordOf_9 (by decide) rfl (by omega) (by omega) (fun h9 => ?_) (fun h9 => ?_)
    · refine v_iload_n (j := 2) (q := 35) rfl dX4_rulesWithWordOf_34 rfl ?_
      refine v_iret dX4_rulesWithWordOf_35 ?_
      exact ⟨_, rfl, rfl, by rw [show (mem b 4).toNat = k by omega]⟩
    · exact absurd h9 (by omega)
  | succ j ih =>
    intro k h3
    have r3 := hr ((k : Int) * 5 + 3) (by omega) (by omega)
    have hn1 := nd_nn (mem (b + 1) ((k : Int) * 5 + 3))
    have hn2 := nd_10 (z := mem (b + 1) ((k : Int) * 5 + 3)) (by omega)
    have hk := ih (k + 1) (by omega)
    have e1 : ((k + 1 : Nat) : Int) = (k : Int) + 1 := by omega
    rw [e1, cntW_succ] at hk
    refine v_iload_n (j := 3) (q := 5) rfl dX4_rulesWithWordOf_4 rfl ?_
    refine v_aload_n (j := 0) (q := 6) rfl dX4_rulesWithWordOf_5 rfl ?_
    refine v_getI (j := 4) (q := 9) dX4_rulesWithWordOf_6 fl_X4_24 (su1 hb) rfl rfl rfl ?_
    refine v_icmp_ge (tgt := 34) (q := 12) dX4_rulesWithWordOf_9 (by decide) rfl (by omega) (by omega) (fun h9 => ?_) (fun h9 => ?_)
    · exact absurd h9 (by omega)
    · refine v_aload_n (j := 0) (q := 13) rfl dX4_rulesWithWordOf_12 rfl ?_
      refine v_iload_n (j := 3) (q := 14) rfl dX4_rulesWithWordOf_13 rfl ?_
      refine v_iconst (q := 15) dX4_rulesWithWordOf_14 rfl ?_
      refine v_cVI2 (q := 18) dX4_rulesWithWordOf_15 mlX4_37 mdX4_part (by decide) (su1 hb) rfl rfl ⟨Nat.le_refl 0, Nat.le_refl 0⟩ (by exact Nat.le_of_ble_eq_true rfl) rfl (c_X4_part b k 3 mem hb (by omega) (by omega)) ?_
      rintro _ _ ⟨rfl, rfl⟩
      refine v_cSNI1 (q := 21) dX4_rulesWithWordOf_18 mlX4_41 mdX9_digitsOf (by decide) ⟨Nat.le_refl 0, Nat.le_refl 0⟩ (by exact Nat.le_of_ble_eq_true rfl) rfl (c_X9_digitsOf _ mem (by omega)) ?_
      rintro _ _ ⟨rfl, rfl⟩
      refine v_iload_n (j := 1) (q := 22) rfl dX4_rulesWithWordOf_21 rfl ?_
      refine v_icmp_ne (tgt := 28) (q := 25) dX4_rulesWithWordOf_22 (by decide) rfl (by omega) (by omega) (fun h22 => ?_) (fun h22 => ?_)
      · rw [if_neg h22, Int.add_zero] at hk
        refine v_iinc3 (q := 31) rfl dX4_rulesWithWordOf_28 (by decide) rfl ?_
        refine v_goto (q := 4) dX4_rulesWithWordOf_31 (by decide) ?_
        exact hk
      · rw [if_pos h22] at hk
        refine v_iinc2 (q := 28) rfl dX4_rulesWithWordOf_25 (by decide) rfl ?_
        refine v_iinc3 (q := 31) rfl dX4_rulesWithWordOf_28 (by decide) rfl ?_
        refine v_goto (q := 4) dX4_rulesWithWordOf_31 (by decide) ?_
        exact hk
theorem c_X4_rulesWithWordOf (b : Nat) (z : Int) (mem : Mem) (hb : isSU b) (hz : R32 z) (h1 : 0 ≤ mem b 4) (h2 : mem b 4 ≤ 20) (hr : ∀ i, 0 ≤ i → i < 100 → R32 (mem (b + 1) i)) : CtrI mX4_rulesWithWordOf [aR b, aI z] mem (fun y m => mem = m ∧ cntW (mem (b + 1)) z (mem b 4).toNat = y) := by
  refine Ctr.ofV (ls := [aR b, aI z, aU, aU]) rfl (by decide) rfl (Nat.le_of_ble_eq_true rfl) ?_
  refine v_iconst (q := 1) dX4_rulesWithWordOf_0 rfl ?_
  refine v_ist2 (q := 2) rfl dX4_rulesWithWordOf_1 (by decide) rfl ?_
  refine v_iconst (q := 3) dX4_rulesWithWordOf_2 rfl ?_
  refine v_ist3 (q := 4) rfl dX4_rulesWithWordOf_3 (by decide) rfl ?_
  exact l_X4_rulesWithWordOf b z mem hb hz h2 hr (mem b 4).toNat 0 (by omega)
/-! Word -/
def isWd (b : Nat) : Prop := b ∈ [25, 27, 30]
theorem wd1 {b : Nat} (h : isWd b) : kd b = (5, 8) := by
  have : ∀ b ∈ [25, 27, 30], kd b = (5, 8) := by decide
  exact this b h
theorem wd2 {b : Nat} (h : isWd b) : kd (b + 1) = (0, 10) := by
  have : ∀ b ∈ [25, 27, 30], kd (b + 1) = (0, 10) := by decide
  exact this b h
/-- the Word at b holds this list -/
def WdIs (m : Mem) (b : Nat) (l : List Int) : Prop := m b 0 = l.length ∧ ∀ i : Nat, i < l.length → m (b + 1) i = l.getD i 0
theorem WdIs.congr {m m1 : Mem} {b : Nat} {l : List Int} (h : WdIs m b l) (h1 : m1 b = m b) (h2 : m1 (b + 1) = m (b + 1)) : WdIs m1 b l := ⟨by rw [h1]; exact h.1, fun i hi => by rw [h2]; exact h.2 i hi⟩
def takeQ (b : Nat) (mem : Mem) (n g : Int) (z : Int) (m : Mem) : Prop := (∀ q, q ≠ b → q ≠ b + 1 → m q = mem q) ∧ bI (isW n g) = z ∧ (isW n g → WdIs m b (dgs n)) ∧ (¬ isW n g → m b 0 = 0)
theorem l_X8_take (b : Nat) (n g D : Int) (mem : Mem) (hb : isWd b) (hn : 0 ≤ n ∧ n ≤ 2147483647) (hg : R32 g) (hD : D = nd n) : ∀ (j : Nat) (r : Int) (M : Mem) (suf : List Int) (u : AV), 0 ≤ r → r ≤ 2147483647 → nd r = j → dgs n = dgs r ++ suf → (∀ d ∈ suf, 1 ≤ d ∧ d ≤ g) → (∀ i : Nat, i < suf.length → M (b + 1) (j + i) = suf.getD i 0) → (∀ q, q ≠ b → q ≠ b + 1 → M q = mem q) → M b 0 = 0 →
    V cX8_take RX8 7 (some .boolean) (rmk 1 23) (mE (fun r m => ∃ z, r = aI z ∧ takeQ b mem n g z m)) 24 [aR b, aI n, aI g, aI D, aI r, aI ((j : Int) - 1), u] [] M := by
  have hD10 : nd n ≤ 10 := nd_10 hn.2
  intro j
  induction j with
  | zero =>
    intro r M suf u r0 r1 h1 h2 h3 h4 h5 h6
    have e0 : dgs r = [] := List.eq_nil_of_length_eq_zero (by have := dgs_len r; omega)
    rw [e0, List.nil_append] at h2
    have hw : isW n g := ⟨hn.1, by rw [h2]; exact h3⟩
    have hl := dgs_len n
    refine v_iload (j := 5) (q := 26) rfl dX8_take_24 rfl ?_
    refine v_if_lt (tgt := 71) (q := 29) dX8_take_26 (by decide) rfl (by omega) (fun h26 => ?_) (fun h26 => ?_)
    · refine v_aload_n (j := 0) (q := 72) rfl dX8_take_71 rfl ?_
      refine v_iload_n (j := 3) (q := 73) rfl dX8_take_72 rfl ?_
      refine v_putI (j := 0) (q := 76) dX8_take_73 fl_X8_9 (wd1 hb) rfl rfl rfl ?_
      refine v_iconst (q := 77) dX8_take_76 rfl ?_
      refine v_zret (by first | exact Or.inl rfl | exact Or.inr rfl | exact bI_01 _ | omega) dX8_take_77 ?_
      refine ⟨_, rfl, fun q q1 q2 => by rw [um_ne _ _ _ q1]; exact h5 q q1 q2, bI_t hw, fun _ => ⟨?_, fun i hi => ?_⟩, fun h => absurd hw h⟩
      rw [um_same, ui_same, hD, ← hl]
      rw [um_ne _ _ _ (show b + 1 ≠ b by omega), h2]
      have h7 := h4 i (by rw [← h2]; exact hi)
      rwa [show ((0 : Nat) : Int) + (i : Int) = (i : Int) by omega] at h7
    · exact absurd h26 (by omega)
  | succ j ih =>
    intro r M suf u r0 r1 h1 h2 h3 h4 h5 h6
    have rp : 0 < r := by
      rcases Int.lt_or_le 0 r with h | h
      · exact h
      · rw [nd_np h] at h1; omega
    have hl := dgs_len n
    have hl2 : (dgs n).length = (dgs r).length + suf.length := by rw [h2, List.length_append]
    have hl3 := dgs_len r
    have e2 := dgs_pos rp
    have e3 : dgs n = dgs (r / 10) ++ (r % 10 :: suf) := by rw [h2, e2, List.append_assoc]; rfl
    have h1r := h1
    rw [nd_pos rp] at h1
    have hin : r % 10 ∈ dgs n := by rw [e3]; exact List.mem_append_right _ List.mem_cons_self
    refine v_iload (j := 5) (q := 26) rfl dX8_take_24 rfl ?_
    refine v_if_lt (tgt := 71) (q := 29) dX8_take_26 (by decide) rfl (by omega) (fun h26 => ?_) (fun h26 => ?_)
    · exact absurd h26 (by omega)
    · refine v_iload (j := 4) (q := 31) rfl dX8_take_29 rfl ?_
      refine v_bipush (q := 33) (by decide) dX8_take_31 rfl ?_
      refine v_irem (q := 34) (by omega) (by omega) dX8_take_33 rfl ?_
      refine v_ist6 (q := 36) rfl dX8_take_34 (by decide) rfl ?_
      refine v_iload (j := 6) (q := 38) rfl dX8_take_36 rfl ?_
      refine v_if_eq (tgt := 47) (q := 41) dX8_take_38 (by decide) rfl (by omega) (fun h38 => ?_) (fun h38 => ?_)
      · refine v_iconst (q := 48) dX8_take_47 rfl ?_
        refine v_zret (by first | exact Or.inl rfl | exact Or.inr rfl | exact bI_01 _ | omega) dX8_take_48 ?_
        have hw : ¬ isW n g := fun h => by have := h.2 _ hin; omega
        exact ⟨_, rfl, h5, bI_f hw, fun h => absurd h hw, fun _ => h6⟩
      · refine v_iload (j := 6) (q := 43) rfl dX8_take_41 rfl ?_
        refine v_iload_n (j := 2) (q := 44) rfl dX8_take_43 rfl ?_
        refine v_icmp_le (tgt := 49) (q := 47) dX8_take_44 (by decide) rfl (by omega) (by omega) (fun h44 => ?_) (fun h44 => ?_)
        · refine v_aload_n (j := 0) (q := 50) rfl dX8_take_49 rfl ?_
          refine v_getR (p' := b + 1) (q := 53) dX8_take_50 fl_X8_15 (wd1 hb) rfl (rfc_8_1 (wd1 hb)) rfl ?_
          refine v_iload (j := 5) (q := 55) rfl dX8_take_53 rfl ?_
          refine v_iload (j := 6) (q := 57) rfl dX8_take_55 rfl ?_
          refine v_iast (q := 58) dX8_take_57 (wd2 hb) (by omega) (by omega) rfl ?_
          refine v_iload (j := 4) (q := 60) rfl dX8_take_58 rfl ?_
          refine v_bipush (q := 62) (by decide) dX8_take_60 rfl ?_
          refine v_idiv (q := 63) (by omega) (by omega) dX8_take_62 rfl ?_
          refine v_ist4 (q := 65) rfl dX8_take_63 (by decide) rfl ?_
          refine v_iinc5 (q := 68) rfl dX8_take_65 (by decide) rfl ?_
          refine v_goto (q := 24) dX8_take_68 (by decide) ?_
          have hk := ih (r / 10) (um M (b + 1) (((j + 1 : Nat) : Int) - 1) (r % 10)) (r % 10 :: suf) (aI (r % 10)) (by omega) (by omega) (by omega) e3
            (fun d hd => by
              rcases List.mem_cons.mp hd with rfl | hd
              · omega
              · exact h3 d hd)
            (fun i hi => by
              rw [um_same]
              unfold ui
              cases i with
              | zero => rw [if_pos (by omega)]; rfl
              | succ i =>
                rw [if_neg (by omega), show (j : Int) + ((i + 1 : Nat) : Int) = ((j + 1 : Nat) : Int) + (i : Int) by omega, h4 i (by simpa using hi)]
                rfl)
            (fun q q1 q2 => by rw [um_ne _ _ _ q2]; exact h5 q q1 q2) (by rw [um_ne _ _ _ (show b ≠ b + 1 by omega)]; exact h6)
          rw [show ((j + 1 : Nat) : Int) - 1 + -1 = (j : Int) - 1 by omega]
          exact hk
        · refine v_iconst (q := 48) dX8_take_47 rfl ?_
          refine v_zret (by first | exact Or.inl rfl | exact Or.inr rfl | exact bI_01 _ | omega) dX8_take_48 ?_
          have hw : ¬ isW n g := fun h => by have := h.2 _ hin; omega
          exact ⟨_, rfl, h5, bI_f hw, fun h => absurd h hw, fun _ => h6⟩
theorem c_X8_take (b : Nat) (n g : Int) (mem : Mem) (hb : isWd b) (hn : R32 n) (hg : R32 g) : CtrI mX8_take [aR b, aI n, aI g] mem (takeQ b mem n g) := by
  refine Ctr.ofV (ls := [aR b, aI n, aI g, aU, aU, aU, aU]) rfl (by decide) rfl (Nat.le_of_ble_eq_true rfl) ?_
  refine v_aload_n (j := 0) (q := 1) rfl dX8_take_0 rfl ?_
  refine v_iconst (q := 2) dX8_take_1 rfl ?_
  refine v_putI (j := 0) (q := 5) dX8_take_2 fl_X8_9 (wd1 hb) rfl rfl rfl ?_
  refine v_iload_n (j := 1) (q := 6) rfl dX8_take_5 rfl ?_
  refine v_if_ge (tgt := 11) (q := 9) dX8_take_6 (by decide) rfl (by omega) (fun h6 => ?_) (fun h6 => ?_)
  · refine v_iload_n (j := 1) (q := 12) rfl dX8_take_11 rfl ?_
    refine v_cSNI1 (q := 15) dX8_take_12 mlX8_19 mdX9_digitsOf (by decide) ⟨Nat.le_refl 0, Nat.le_refl 0⟩ (by exact Nat.le_of_ble_eq_true rfl) rfl (c_X9_digitsOf _ _ hn) ?_
    rintro _ _ ⟨rfl, rfl⟩
    refine v_ist3 (q := 16) rfl dX8_take_15 (by decide) rfl ?_
    refine v_iload_n (j := 1) (q := 17) rfl dX8_take_16 rfl ?_
    refine v_ist4 (q := 19) rfl dX8_take_17 (by decide) rfl ?_
    refine v_iload_n (j := 3) (q := 20) rfl dX8_take_19 rfl ?_
    refine v_iconst (q := 21) dX8_take_20 rfl ?_
    refine v_isub (q := 22) dX8_take_21 rfl ?_
    refine v_ist5 (q := 24) rfl dX8_take_22 (by decide) rfl ?_
    have h0 := dgs_len n
    have hk := l_X8_take b n g (nd n) mem hb ⟨by omega, by omega⟩ hg rfl (dgs n).length n (um mem b 0 0) [] aU (by omega) (by omega) (by omega) (by simp) (by simp) (by simp) (fun q q1 q2 => um_ne _ _ _ q1) (by rw [um_same, ui_same])
    rw [h0] at hk
    exact hk
  · refine v_iconst (q := 10) dX8_take_9 rfl ?_
    refine v_zret (by first | exact Or.inl rfl | exact Or.inr rfl | exact bI_01 _ | omega) dX8_take_10 ?_
    have hw : ¬ isW n g := fun h => by have := h.1; omega
    exact ⟨_, rfl, fun q q1 q2 => um_ne _ _ _ q1, bI_f hw, fun h => absurd h hw, fun _ => by rw [um_same, ui_same]⟩
