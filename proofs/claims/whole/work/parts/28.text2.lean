/-! ===== parse, fault, load ===== -/
theorem pT_end {T : Int → Int} {L S G : Int} {k : Nat} {a : Int} {l : List Rl} (h : L ≤ a) : pT T L S G k a l = .inr l := by unfold pT; rw [if_pos h]
theorem pT_full {T : Int → Int} {L S G : Int} {a : Int} {l : List Rl} (h : a < L) : pT T L S G 0 a l = .inl a := by rw [pT, if_neg (by omega)]
theorem pT_bad {T : Int → Int} {L S G : Int} {k : Nat} {a f : Int} {l : List Rl} (h : a < L) (h2 : pItem T L S G a l = .inl f) : pT T L S G (k + 1) a l = .inl f := by rw [pT, if_neg (by omega), h2]
theorem pT_next {T : Int → Int} {L S G : Int} {k : Nat} {a b : Int} {r : Rl} {l : List Rl} (h : a < L) (h2 : pItem T L S G a l = .inr (b, r)) : pT T L S G (k + 1) a l = pT T L S G k b (l ++ [r]) := by rw [pT, if_neg (by omega), h2]
def parQ (M0 : Mem) (R : Int ⊕ List Rl) (z : Int) (m : Mem) : Prop :=
  (∀ q, q ≠ 3 → q ≠ 4 → q ≠ 23 → m q = M0 q) ∧ m 23 0 = M0 23 0 ∧ (∀ j, j ≠ 4 → m 3 j = M0 3 j) ∧ ((∃ f, R = .inl f ∧ f = z ∧ 0 ≤ z) ∨ (∃ l, R = .inr l ∧ -6 = z ∧ DR m l))
theorem txOK.congr {m m1 : Mem} (h : txOK m) (h1 : m1 23 0 = m 23 0) (h2 : m1 24 = m 24) : txOK m1 := by
  unfold txOK
  rw [h1, h2]
  exact h
theorem l_X6_parse (M0 : Mem) : ∀ (j : Nat) (i a : Int) (l : List Rl) (M : Mem) (u : AV), i + j = 20 → (l.length : Int) = i → txOK M → (0 ≤ a ∧ a ≤ M 23 0) → M 23 1 = a → DR M l → (∀ q, q ≠ 3 → q ≠ 4 → q ≠ 23 → M q = M0 q) → M 23 0 = M0 23 0 → (∀ j, j ≠ 4 → M 3 j = M0 3 j) →
    V cX6_parse RX6 4 (some .int) (rmk 3 74) (mE (fun r m => ∃ z, r = aI z ∧ parQ M0 (pT (M0 24) (M0 23 0) (M0 3 0) (M0 3 1) j a l) z m)) 12 [aR 23, aR 3, aI i, u] [] M := by
  intro j
  induction j with
  | zero =>
    intro i a l M u h1 h2 hT ha hM hD f1 f2 f3
    have hL := hT.1
    refine v_iload_n (j := 2) (q := 13) rfl dX6_parse_12 rfl ?_
    refine v_bipush (q := 15) (by decide) dX6_parse_13 rfl ?_
    refine v_icmp_gt (tgt := 60) (q := 18) dX6_parse_15 (by decide) rfl (by omega) (by omega) (fun h15 => ?_) (fun h15 => ?_)
    · exact absurd h15 (by omega)
    · refine v_aload_n (j := 0) (q := 19) rfl dX6_parse_18 rfl ?_
      refine v_getI (j := 1) (q := 22) dX6_parse_19 fl_X6_15 kd_23 rfl rfl rfl ?_
      refine v_aload_n (j := 0) (q := 23) rfl dX6_parse_22 rfl ?_
      refine v_getI (j := 0) (q := 26) dX6_parse_23 fl_X6_9 kd_23 rfl rfl rfl ?_
      rw [hM]
      refine v_icmp_ge (tgt := 60) (q := 29) dX6_parse_26 (by decide) rfl (by omega) (by omega) (fun h26 => ?_) (fun h26 => ?_)
      · refine v_bipush (q := 62) (by decide) dX6_parse_60 rfl ?_
        refine v_iret dX6_parse_62 ?_
        exact ⟨_, rfl, f1, f2, f3, Or.inr ⟨l, pT_end (by omega), rfl, hD⟩⟩
      · refine v_iload_n (j := 2) (q := 30) rfl dX6_parse_29 rfl ?_
        refine v_bipush (q := 32) (by decide) dX6_parse_30 rfl ?_
        refine v_icmp_ne (tgt := 40) (q := 35) dX6_parse_32 (by decide) rfl (by omega) (by omega) (fun h32 => ?_) (fun h32 => ?_)
        · exact absurd h32 (by omega)
        · refine v_aload_n (j := 0) (q := 36) rfl dX6_parse_35 rfl ?_
          refine v_getI (j := 1) (q := 39) dX6_parse_36 fl_X6_15 kd_23 rfl rfl rfl ?_
          refine v_iret dX6_parse_39 ?_
          exact ⟨_, rfl, f1, f2, f3, Or.inl ⟨a, pT_full (by omega), hM.symm, by omega⟩⟩
  | succ j ih =>
    intro i a l M u h1 h2 hT ha hM hD f1 f2 f3
    have hL := hT.1
    have e24 : M 24 = M0 24 := f1 24 (by decide) (by decide) (by decide)
    have hi := c_X6_parseItem a l M hT ha hD (by omega)
    rw [← hM, um_id] at hi
    rw [hM] at hi
    have okk := pItem_ok (T := M 24) (L := M 23 0) (S := M 3 0) (G := M 3 1) (a := a) (l := l) hD.2.1 ha.1 ha.2
    have hmax : ∀ z m, itemQ M a l z m → R32 z := fun z m h => by
      rcases h with ⟨f, hp, rfl, -⟩ | ⟨b, r, hp, rfl, -⟩
      · have := okk.1 f hp; omega
      · omega
    refine v_iload_n (j := 2) (q := 13) rfl dX6_parse_12 rfl ?_
    refine v_bipush (q := 15) (by decide) dX6_parse_13 rfl ?_
    refine v_icmp_gt (tgt := 60) (q := 18) dX6_parse_15 (by decide) rfl (by omega) (by omega) (fun h15 => ?_) (fun h15 => ?_)
    · exact absurd h15 (by omega)
    · refine v_aload_n (j := 0) (q := 19) rfl dX6_parse_18 rfl ?_
      refine v_getI (j := 1) (q := 22) dX6_parse_19 fl_X6_15 kd_23 rfl rfl rfl ?_
      refine v_aload_n (j := 0) (q := 23) rfl dX6_parse_22 rfl ?_
      refine v_getI (j := 0) (q := 26) dX6_parse_23 fl_X6_9 kd_23 rfl rfl rfl ?_
      rw [hM]
      refine v_icmp_ge (tgt := 60) (q := 29) dX6_parse_26 (by decide) rfl (by omega) (by omega) (fun h26 => ?_) (fun h26 => ?_)
      · refine v_bipush (q := 62) (by decide) dX6_parse_60 rfl ?_
        refine v_iret dX6_parse_62 ?_
        exact ⟨_, rfl, f1, f2, f3, Or.inr ⟨l, pT_end (by omega), rfl, hD⟩⟩
      · refine v_iload_n (j := 2) (q := 30) rfl dX6_parse_29 rfl ?_
        refine v_bipush (q := 32) (by decide) dX6_parse_30 rfl ?_
        refine v_icmp_ne (tgt := 40) (q := 35) dX6_parse_32 (by decide) rfl (by omega) (by omega) (fun h32 => ?_) (fun h32 => ?_)
        · refine v_aload_n (j := 0) (q := 41) rfl dX6_parse_40 rfl ?_
          refine v_aload_n (j := 1) (q := 42) rfl dX6_parse_41 rfl ?_
          refine v_cVI1 (q := 45) dX6_parse_42 mlX6_27 mdX6_parseItem (by decide) kd_23 rfl rfl ⟨Nat.le_refl 0, Nat.le_refl 0⟩ (by exact Nat.le_of_ble_eq_true rfl) rfl (hi) ?_
          intro z m1 hz
          refine v_ist3 (q := 46) rfl dX6_parse_45 (by decide) rfl ?_
          refine v_iload_n (j := 3) (q := 47) rfl dX6_parse_46 rfl ?_
          refine v_bipush (q := 49) (by decide) dX6_parse_47 rfl ?_
          refine v_icmp_eq (tgt := 54) (q := 52) dX6_parse_49 (by decide) rfl (hmax z m1 hz) (by omega) (fun h49 => ?_) (fun h49 => ?_)
          · refine v_iinc2 (q := 57) rfl dX6_parse_54 (by decide) rfl ?_
            refine v_goto (q := 12) dX6_parse_57 (by decide) ?_
            rcases hz with ⟨f, hp, rfl, -⟩ | ⟨b, r, hp, -, k1, k2, k3, k4, k5⟩
            · have := okk.1 f hp
              omega
            · have hb := okk.2 b r hp
              rw [e24, f2, f3 0 (by omega), f3 1 (by omega)] at hp
              have e1 := pT_next (k := j) (show a < M0 23 0 by omega) hp
              rw [e1]
              exact ih (i + 1) b (l ++ [r]) m1 _ (by omega) (by rw [List.length_append]; simp; omega) (hT.congr k2 (k1 24 (by decide) (by decide) (by decide))) (by rw [k2]; omega) k3 k5 (fun q q1 q2 q3 => by rw [k1 q q1 q2 q3, f1 q q1 q2 q3]) (by rw [k2, f2]) (fun j hj => by rw [k4 j hj, f3 j hj])
          · refine v_iload_n (j := 3) (q := 53) rfl dX6_parse_52 rfl ?_
            refine v_iret dX6_parse_53 ?_
            rcases hz with ⟨f, hp, rfl, a', rfl⟩ | ⟨b, r, hp, rfl, k1, k2, k3, k4, k5⟩
            · have ok9 := okk.1 _ hp
              rw [e24, f2, f3 0 (by omega), f3 1 (by omega)] at hp
              have e1 := pT_bad (k := j) (show a < M0 23 0 by omega) hp
              exact ⟨_, rfl, fun q q1 q2 q3 => by rw [um_ne _ _ _ q3]; exact f1 q q1 q2 q3, by rw [um_same, ui_ne _ _ (by omega)]; exact f2, fun j hj => by rw [um_ne _ _ _ (by decide)]; exact f3 j hj, Or.inl ⟨_, e1, rfl, ok9.1⟩⟩
            · exact absurd rfl h49
        · exact absurd h32 (by omega)
theorem c_X6_parse (mem : Mem) (hT : txOK mem) (hD : DR mem []) (hd : mem 3 4 = 0) : CtrI mX6_parse [aR 23, aR 3] mem (parQ mem (pT (mem 24) (mem 23 0) (mem 3 0) (mem 3 1) 20 0 [])) := by
  sorry
