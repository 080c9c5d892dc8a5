/-! ===== parse, fault, load ===== -/
theorem pT_end {T : Int → Int} {L S G : Int} {k : Nat} {a : Int} {l : List Rl} (h : L ≤ a) : pT T L S G k a l = .inr l := by unfold pT; rw [if_pos h]
theorem pT_full {T : Int → Int} {L S G : Int} {a : Int} {l : List Rl} (h : a < L) : pT T L S G 0 a l = .inl a := by rw [pT, if_neg (by omega)]
theorem pT_bad {T : Int → Int} {L S G : Int} {k : Nat} {a f : Int} {l : List Rl} (h : a < L) (h2 : pItem T L S G a l = .inl f) : pT T L S G (k + 1) a l = .inl f := by rw [pT, if_neg (by omega), h2]
theorem pT_next {T : Int → Int} {L S G : Int} {k : Nat} {a b : Int} {r : Rl} {l : List Rl} (h : a < L) (h2 : pItem T L S G a l = .inr (b, r)) : pT T L S G (k + 1) a l = pT T L S G k b (l ++ [r]) := by rw [pT, if_neg (by omega), h2]
def parQ (M0 : Mem) (R : Int ⊕ List Rl) (z : Int) (m : Mem) : Prop :=
  (∀ q, q ≠ 3 → q ≠ 4 → q ≠ 23 → m q = M0 q) ∧ m 23 0 = M0 23 0 ∧ (∀ j, j ≠ 4 → m 3 j = M0 3 j) ∧ ((∃ f, R = .inl f ∧ f = z ∧ 0 ≤ z) ∨ (∃ l, R = .inr l ∧ -6 = z ∧ DR m l))
theorem txOK.congr {m m1 : Mem} (h : txOK m) (h1 : m1 23 0 = m 23 0) (h2 : m1 24 = m 24) : txOK m1 := by
  unfold txOK
  rw [h1, h2]
  exact h
theorem l_X6_parse (M0 : Mem) : ∀ (j : Nat) (i a : Int) (l : List Rl) (M : Mem) (u : AV), i + j = 20 → (l.length : Int) = i → txOK M → (0 ≤ a ∧ a ≤ M 23 0) → M 23 1 = a → DR M l → (∀ q, q ≠ 3 → q ≠ 4 → q ≠ 23 → M q = M0 q) → M 23 0 = M0 23 0 → (∀ j, j ≠ 4 → M 3 j = M0 3 j) →
    V cX6_parse RX6 4 (some .int) (rmk 3 74) (mE (fun r m => ∃ z, r = aI z ∧ parQ M0 (pT (M0 24) (M0 23 0) (M0 3 0) (M0 3 1) j a l) z m)) 12 [aR 23, aR 3, aI i, u] [] M := by
  intro j
  induction j with
  | zero =>
    intro i a l M u h1 h2 hT ha hM hD f1 f2 f3
    have hL := hT.1
    refine v_iload_n (j := 2) (q := 13) rfl dX6_parse_12 rfl ?_
    refine v_bipush (q := 15) (by decide) dX6_parse_13 rfl ?_
    refine v_icmp_gt (tgt := 60) (q := 18) dX6_parse_15 (by decide) rfl (by omega) (by omega) (fun h15 => ?_) (fun h15 => ?_)
    · exact absurd h15 (by omega)
    · refine v_aload_n (j := 0) (q := 19) rfl dX6_parse_18 rfl ?_
      refine v_getI (j := 1) (q := 22) dX6_parse_19 fl_X6_15 kd_23 rfl rfl rfl ?_
      refine v_aload_n (j := 0) (q := 23) rfl dX6_parse_22 rfl ?_
      refine v_getI (j := 0) (q := 26) dX6_parse_23 fl_X6_9 kd_23 rfl rfl rfl ?_
      rw [hM]
      refine v_icmp_ge (tgt := 60) (q := 29) dX6_parse_26 (by decide) rfl (by omega) (by omega) (fun h26 => ?_) (fun h26 => ?_)
      · refine v_bipush (q := 62) (by decide) dX6_parse_60 rfl ?_
        refine v_iret dX6_parse_62 ?_
        exact ⟨_, rfl, f1, f2, f3, Or.inr ⟨l, pT_end (by omega), rfl, hD⟩⟩
      · refine v_iload_n (j := 2) (q := 30) rfl dX6_parse_29 rfl ?_
        refine v_bipush (q := 32) (by decide) dX6_parse_30 rfl ?_
        refine v_icmp_ne (tgt := 40) (q := 35) dX6_parse_32 (by decide) rfl (by omega) (by omega) (fun h32 => ?_) (fun h32 => ?_)
        · exact absurd h32 (by omega)
        · refine v_aload_n (j := 0) (q := 36) rfl dX6_parse_35 rfl ?_
          refine v_getI (j := 1) (q := 39) dX6_parse_36 fl_X6_15 kd_23 rfl rfl rfl ?_
          refine v_iret dX6_parse_39 ?_
          exact ⟨_, rfl, f1, f2, f3, Or.inl ⟨a, pT_full (by omega), hM.symm, by omega⟩⟩
  | succ j ih =>
    intro i a l M u h1 h2 hT ha hM hD f1 f2 f3
    have hL := hT.1
    have e24 : M 24 = M0 24 := f1 24 (by decide) (by decide) (by decide)
    have hi := c_X6_parseItem a l M hT ha hD (by omega)
    rw [← hM, um_id] at hi
    rw [hM] at hi
    have okk := pItem_ok (T := M 24) (L := M 23 0) (S := M 3 0) (G := M 3 1) (a := a) (l := l) hD.2.1 ha.1 ha.2
    have hmax : ∀ z m, itemQ M a l z m → R32 z := fun z m h => by
      rcases h with ⟨f, hp, rfl, -⟩ | ⟨b, r, hp, rfl, -⟩
      · have := okk.1 f hp; omega
      · omega
    refine v_iload_n (j := 2) (q := 13) rfl dX6_parse_12 rfl ?_
    refine v_bipush (q := 15) (by decide) dX6_parse_13 rfl ?_
    refine v_icmp_gt (tgt := 60) (q := 18) dX6_parse_15 (by decide) rfl (by omega) (by omega) (fun h15 => ?_) (fun h15 => ?_)
    · exact absurd h15 (by omega)
    · refine v_aload_n (j := 0) (q := 19) rfl dX6_parse_18 rfl ?_
      refine v_getI (j := 1) (q := 22) dX6_parse_19 fl_X6_15 kd_23 rfl rfl rfl ?_
      refine v_aload_n (j := 0) (q := 23) rfl dX6_parse_22 rfl ?_
      refine v_getI (j := 0) (q := 26) dX6_parse_23 fl_X6_9 kd_23 rfl rfl rfl ?_
      rw [hM]
      refine v_icmp_ge (tgt := 60) (q := 29) dX6_parse_26 (by decide) rfl (by omega) (by omega) (fun h26 => ?_) (fun h26 => ?_)
      · refine v_bipush (q := 62) (by decide) dX6_parse_60 rfl ?_
        refine v_iret dX6_parse_62 ?_
        exact ⟨_, rfl, f1, f2, f3, Or.inr ⟨l, pT_end (by omega), rfl, hD⟩⟩
      · refine v_iload_n (j := 2) (q := 30) rfl dX6_parse_29 rfl ?_
        refine v_bipush (q := 32) (by decide) dX6_parse_30 rfl ?_
        refine v_icmp_ne (tgt := 40) (q := 35) dX6_parse_32 (by decide) rfl (by omega) (by omega) (fun h32 => ?_) (fun h32 => ?_)
        · refine v_aload_n (j := 0) (q := 41) rfl dX6_parse_40 rfl ?_
          refine v_aload_n (j := 1) (q := 42) rfl dX6_parse_41 rfl ?_
          refine v_cVI1 (q := 45) dX6_parse_42 mlX6_27 mdX6_parseItem (by decide) kd_23 rfl rfl ⟨Nat.le_refl 0, Nat.le_refl 0⟩ (by exact Nat.le_of_ble_eq_true rfl) rfl (hi) ?_
          intro z m1 hz
          refine v_ist3 (q := 46) rfl dX6_parse_45 (by decide) rfl ?_
          refine v_iload_n (j := 3) (q := 47) rfl dX6_parse_46 rfl ?_
          refine v_bipush (q := 49) (by decide) dX6_parse_47 rfl ?_
          refine v_icmp_eq (tgt := 54) (q := 52) dX6_parse_49 (by decide) rfl (hmax z m1 hz) (by omega) (fun h49 => ?_) (fun h49 => ?_)
          · refine v_iinc2 (q := 57) rfl dX6_parse_54 (by decide) rfl ?_
            refine v_goto (q := 12) dX6_parse_57 (by decide) ?_
            rcases hz with ⟨f, hp, rfl, -⟩ | ⟨b, r, hp, -, k1, k2, k3, k4, k5⟩
            · have := okk.1 f hp
              omega
            · have hb := okk.2 b r hp
              rw [e24, f2, f3 0 (by omega), f3 1 (by omega)] at hp
              have e1 := pT_next (k := j) (show a < M0 23 0 by omega) hp
              rw [e1]
              exact ih (i + 1) b (l ++ [r]) m1 _ (by omega) (by rw [List.length_append]; simp; omega) (hT.congr k2 (k1 24 (by decide) (by decide) (by decide))) (by rw [k2]; omega) k3 k5 (fun q q1 q2 q3 => by rw [k1 q q1 q2 q3, f1 q q1 q2 q3]) (by rw [k2, f2]) (fun j hj => by rw [k4 j hj, f3 j hj])
          · refine v_iload_n (j := 3) (q := 53) rfl dX6_parse_52 rfl ?_
            refine v_iret dX6_parse_53 ?_
            rcases hz with ⟨f, hp, rfl, a', rfl⟩ | ⟨b, r, hp, rfl, k1, k2, k3, k4, k5⟩
            · have ok9 := okk.1 _ hp
              rw [e24, f2, f3 0 (by omega), f3 1 (by omega)] at hp
              have e1 := pT_bad (k := j) (show a < M0 23 0 by omega) hp
              exact ⟨_, rfl, fun q q1 q2 q3 => by rw [um_ne _ _ _ q3]; exact f1 q q1 q2 q3, by rw [um_same, ui_ne _ _ (by omega)]; exact f2, fun j hj => by rw [um_ne _ _ _ (by decide)]; exact f3 j hj, Or.inl ⟨_, e1, rfl, ok9.1⟩⟩
            · exact absurd rfl h49
        · exact absurd h32 (by omega)
theorem c_X6_parse (mem : Mem) (hT : txOK mem) (h1 : 1 ≤ mem 3 0 ∧ mem 3 0 ≤ 4) (h2 : 1 ≤ mem 3 1 ∧ mem 3 1 ≤ 5) (h3 : ∀ i, 0 ≤ i → i < 100 → R32 (mem 4 i)) : CtrI mX6_parse [aR 23, aR 3] mem (parQ mem (pT (mem 24) (mem 23 0) (mem 3 0) (mem 3 1) 20 0 [])) := by
  have e23 : um (um mem 23 1 0) 3 4 0 23 = ui (mem 23) 1 0 := by rw [um_ne _ _ _ (by decide), um_same]
  have e3 : um (um mem 23 1 0) 3 4 0 3 = ui (mem 3) 4 0 := by rw [um_same, um_ne _ _ _ (by decide)]
  have eo : ∀ q, q ≠ 3 → q ≠ 23 → um (um mem 23 1 0) 3 4 0 q = mem q := fun q a b => by rw [um_ne _ _ _ a, um_ne _ _ _ b]
  refine Ctr.ofV (ls := [aR 23, aR 3, aU, aU]) rfl (by decide) rfl (Nat.le_of_ble_eq_true rfl) ?_
  refine v_aload_n (j := 0) (q := 1) rfl dX6_parse_0 rfl ?_
  refine v_iconst (q := 2) dX6_parse_1 rfl ?_
  refine v_putI (j := 1) (q := 5) dX6_parse_2 fl_X6_15 kd_23 rfl rfl rfl ?_
  refine v_aload_n (j := 1) (q := 6) rfl dX6_parse_5 rfl ?_
  refine v_iconst (q := 7) dX6_parse_6 rfl ?_
  refine v_putI (j := 4) (q := 10) dX6_parse_7 fl_X6_22 kd_3 rfl rfl rfl ?_
  refine v_iconst (q := 11) dX6_parse_10 rfl ?_
  refine v_ist2 (q := 12) rfl dX6_parse_11 (by decide) rfl ?_
  refine l_X6_parse mem 20 0 0 [] _ _ (by omega) rfl (hT.congr (by rw [e23, ui_ne _ _ (by omega)]) (eo 24 (by decide) (by decide))) (by rw [e23, ui_ne _ _ (by omega)]; have := hT.1; omega) (by rw [e23, ui_same]) ⟨?_, ?_, ?_, by simp, ?_, ?_, fun r hr => by cases hr⟩ (fun q q1 q2 q3 => eo q q1 q3) (by rw [e23, ui_ne _ _ (by omega)]) (fun j hj => by rw [e3, ui_ne _ _ hj])
  · rw [e3, ui_ne _ _ (by omega)]; exact h1
  · rw [e3, ui_ne _ _ (by omega)]; exact h2
  · rw [e3, ui_same]; rfl
  · rfl
  · rw [eo 4 (by decide) (by decide)]; exact h3
/-- the text that is read depends on its signs alone -/
def tx (t : List Int) : Int → Int := fun i => t.getD i.toNat 0
theorem pItem_congr {T U : Int → Int} {L S G a : Int} {l : List Rl} (h : ∀ i, 0 ≤ i → i < L → T i = U i) (ha : 0 ≤ a) : pItem T L S G a l = pItem U L S G a l := by
  have hc : ∀ f n b, 0 ≤ b → ch T L f n b = ch U L f n b := fun f n b hb => by
    apply propext
    unfold ch
    constructor
    · rintro ⟨x, y, z⟩; rw [h b hb x] at y z; exact ⟨x, y, z⟩
    · rintro ⟨x, y, z⟩; rw [← h b hb x] at y z; exact ⟨x, y, z⟩
  have hW : ∀ b, 0 ≤ b → pW T L G b = pW U L G b := fun b hb => by
    unfold pW
    by_cases c1 : ch T L 97 G b
    · have c1' := c1
      rw [hc _ _ _ hb] at c1'
      rw [if_pos c1, if_pos c1', h b hb c1.1]
      by_cases c2 : ch T L 97 G (b + 1)
      · have c2' := c2
        rw [hc _ _ _ (by omega)] at c2'
        rw [if_pos c2, if_pos c2', h (b + 1) (by omega) c2.1]
      · have c2' := c2
        rw [hc _ _ _ (by omega)] at c2'
        rw [if_neg c2, if_neg c2']
    · have c1' := c1
      rw [hc _ _ _ hb] at c1'
      rw [if_neg c1, if_neg c1']
  have hN : ∀ b, 0 ≤ b → b < L → pN T L b = pN U L b := fun b hb hbl => by
    unfold pN
    rw [h b hb hbl]
    by_cases c2 : ch T L 48 10 (b + 1)
    · have c2' := c2
      rw [hc _ _ _ (by omega)] at c2'
      rw [if_pos c2, if_pos c2', h (b + 1) (by omega) c2.1]
    · have c2' := c2
      rw [hc _ _ _ (by omega)] at c2'
      rw [if_neg c2, if_neg c2']
  have nn : ∀ {P : Prop}, P → ¬ ¬ P := fun h h2 => h2 h
  unfold pItem
  by_cases c1 : ch T L 48 S a
  · have c1' := c1
    rw [hc _ _ _ ha] at c1'
    rw [if_neg (nn c1), if_neg (nn c1')]
    by_cases c2 : ch T L 97 G (a + 1)
    · have c2' := c2
      rw [hc _ _ _ (by omega)] at c2'
      rw [if_neg (nn c2), if_neg (nn c2')]
      by_cases c3 : ch T L 62 1 (a + 2)
      · have c3' := c3
        rw [hc _ _ _ (by omega)] at c3'
        rw [if_neg (nn c3), if_neg (nn c3')]
        by_cases c4 : ch T L 48 S (a + 3)
        · have c4' := c4
          rw [hc _ _ _ (by omega)] at c4'
          rw [if_neg (nn c4), if_neg (nn c4'), hW (a + 4) (by omega)]
          have hp : 0 ≤ (pW U L G (a + 4)).2 := by
            rcases pW_cases U L G (a + 4) with ⟨_, _, e⟩ | ⟨_, _, e⟩ | ⟨_, e⟩ <;> rw [e] <;> show 0 ≤ _ <;> omega
          generalize (pW U L G (a + 4)) = w at hp ⊢
          by_cases c5 : ch T L 58 1 w.2
          · have c5' := c5
            rw [hc _ _ _ hp] at c5'
            rw [if_neg (nn c5), if_neg (nn c5')]
            by_cases c6 : ch T L 48 10 (w.2 + 1)
            · have c6' := c6
              rw [hc _ _ _ (by omega)] at c6'
              rw [if_neg (nn c6), if_neg (nn c6'), hN _ (by omega) c6.1, h a ha c1.1, h (a + 1) (by omega) c2.1, h (a + 3) (by omega) c4.1]
              have hp2 : 0 ≤ (pN U L (w.2 + 1)).2 := by
                rcases pN_cases U L (w.2 + 1) with ⟨_, e⟩ | ⟨_, e⟩ <;> rw [e] <;> show 0 ≤ _ <;> omega
              rw [hc 59 1 _ hp2]
            · have c6' := c6
              rw [hc _ _ _ (by omega)] at c6'
              rw [if_pos c6, if_pos c6']
          · have c5' := c5
            rw [hc _ _ _ hp] at c5'
            rw [if_pos c5, if_pos c5']
        · have c4' := c4
          rw [hc _ _ _ (by omega)] at c4'
          rw [if_pos c4, if_pos c4']
      · have c3' := c3
        rw [hc _ _ _ (by omega)] at c3'
        rw [if_pos c3, if_pos c3']
    · have c2' := c2
      rw [hc _ _ _ (by omega)] at c2'
      rw [if_pos c2, if_pos c2']
  · have c1' := c1
    rw [hc _ _ _ ha] at c1'
    rw [if_pos c1, if_pos c1']
theorem pT_congr {T U : Int → Int} {L S G : Int} (hG : 1 ≤ G ∧ G ≤ 5) (h : ∀ i, 0 ≤ i → i < L → T i = U i) : ∀ (k : Nat) (a : Int) (l : List Rl), 0 ≤ a → pT T L S G k a l = pT U L S G k a l := by
  intro k
  induction k with
  | zero =>
    intro a l ha
    by_cases hL : L ≤ a
    · rw [pT_end hL, pT_end hL]
    · rw [pT_full (by omega), pT_full (by omega)]
  | succ k ih =>
    intro a l ha
    by_cases hL : L ≤ a
    · rw [pT_end hL, pT_end hL]
    · have e := pItem_congr (S := S) (G := G) (l := l) h ha
      cases hp : pItem U L S G a l with
      | inl f => rw [pT_bad (by omega) (e.trans hp), pT_bad (by omega) hp]
      | inr br =>
        obtain ⟨b, r⟩ := br
        have := (pItem_ok (T := U) (L := L) (S := S) (l := l) hG ha (by omega)).2 b r hp
        rw [pT_next (by omega) (e.trans hp), pT_next (by omega) hp]
        exact ih b (l ++ [r]) (by omega)
theorem pT_le {T : Int → Int} {L S G : Int} (hG : 1 ≤ G ∧ G ≤ 5) : ∀ (k : Nat) (a : Int) (l : List Rl) (f : Int), 0 ≤ a → a ≤ L → pT T L S G k a l = .inl f → f ≤ L := by
  intro k
  induction k with
  | zero =>
    intro a l f ha hL h
    by_cases h2 : L ≤ a
    · rw [pT_end h2] at h; cases h
    · rw [pT_full (by omega)] at h; cases h; exact hL
  | succ k ih =>
    intro a l f ha hL h
    by_cases h2 : L ≤ a
    · rw [pT_end h2] at h; cases h
    · have ok := pItem_ok (T := T) (L := L) (S := S) (l := l) hG ha hL
      cases hp : pItem T L S G a l with
      | inl g =>
        rw [pT_bad (by omega) hp] at h
        cases h
        exact (ok.1 _ hp).2
      | inr br =>
        obtain ⟨b, r⟩ := br
        rw [pT_next (by omega) hp] at h
        have := ok.2 b r hp
        exact ih b _ f (by omega) (by omega) h
noncomputable def rdT (A : AS) : Int ⊕ List Rl := pT (tx A.2.2) A.2.2.length A.1.1 A.1.2.1 20 0 []
noncomputable def sFault (A : AS) : Int := match rdT A with
  | .inl f => f
  | .inr _ => -6
noncomputable def sLoad (A : AS) : Int × AS := match rdT A with
  | .inl _ => (-5, A)
  | .inr l => ((l.length : Int), ((A.1.1, A.1.2.1, A.1.2.2.1, A.1.2.2.2.1, l), hpush A.2.1 A.1, A.2.2))
theorem TR_tx {m : Mem} {t : List Int} (h : TR m t) : txOK m ∧ m 23 0 = t.length ∧ ∀ i, 0 ≤ i → i < m 23 0 → m 24 i = tx t i := by
  obtain ⟨h1, h2, h3, h4⟩ := h
  have key : ∀ i, 0 ≤ i → i < m 23 0 → m 24 i = tx t i := fun i i0 i1 => by
    have := h3 i.toNat (by omega)
    rw [show ((i.toNat : Nat) : Int) = i by omega] at this
    exact this
  refine ⟨⟨by omega, fun i i0 i1 => ?_⟩, h1, key⟩
  rw [key i i0 i1]
  have hl : i.toNat < t.length := by omega
  have : t.getD i.toNat 0 ∈ t := by
    rw [List.getD_eq_getElem?_getD, List.getElem?_eq_getElem hl]
    exact List.getElem_mem hl
  exact h4 _ this
def rdQ (mem : Mem) (R : Int ⊕ List Rl) (z : Int) (m : Mem) : Prop :=
  (∀ q, q ≠ 3 → q ≠ 4 → q ≠ 23 → m q = mem q) ∧ m 23 0 = mem 23 0 ∧ (∀ j, 0 ≤ j → j < 4 → m 3 j = mem 1 j) ∧ ((∃ f, R = .inl f ∧ f = z ∧ 0 ≤ z) ∨ (∃ l, R = .inr l ∧ -6 = z ∧ DR m l))
theorem c_X9_readText (mem : Mem) (A : AS) (h : SI mem A) : CtrI mX9_readText [aR 0] mem (rdQ mem (rdT A)) := by
  have f := h.1.facts
  obtain ⟨a1, a2, a3, a4, a5, hc⟩ := eA h.1
  obtain ⟨t1, t2, t3⟩ := TR_tx h.2.2
  have o : ∀ q, q ≠ 3 → q ≠ 4 → cpS mem 3 1 q = mem q := fun q q1 q2 => cpS_ne _ q1 q2
  have e3 : ∀ j, 0 ≤ j → j ≤ 4 → cpS mem 3 1 3 j = mem 1 j := fun j j0 j1 => cpS_b mem 3 1 j0 j1
  have e24 := o 24 (by decide) (by decide)
  have e23 := o 23 (by decide) (by decide)
  refine Ctr.ofV (ls := [aR 0]) rfl (by decide) rfl (Nat.le_of_ble_eq_true rfl) ?_
  refine v_aload_n (j := 0) (q := 1) rfl dX9_readText_0 rfl ?_
  refine v_getR (p' := 3) (q := 4) dX9_readText_1 fl_X9_16 kd_0 rfl (rfc_9_1 kd_0) rfl ?_
  refine v_aload_n (j := 0) (q := 5) rfl dX9_readText_4 rfl ?_
  refine v_getR (p' := 1) (q := 8) dX9_readText_5 fl_X9_12 kd_0 rfl (rfc_9_0 kd_0) rfl ?_
  refine v_cVV1 (q := 11) dX9_readText_8 mlX9_248 mdX4_copyFrom (by decide) kd_3 rfl rfl ⟨Nat.le_refl 0, Nat.le_refl 0⟩ (by exact Nat.le_of_ble_eq_true rfl) rfl (c_X4_copyFrom 3 1 mem su_3 su_1 (by decide)) ?_
  rintro _ rfl
  refine v_aload_n (j := 0) (q := 12) rfl dX9_readText_11 rfl ?_
  refine v_getR (p' := 23) (q := 15) dX9_readText_12 fl_X9_29 kd_0 rfl (rfc_9_3 kd_0) rfl ?_
  refine v_aload_n (j := 0) (q := 16) rfl dX9_readText_15 rfl ?_
  refine v_getR (p' := 3) (q := 19) dX9_readText_16 fl_X9_16 kd_0 rfl (rfc_9_1 kd_0) rfl ?_
  refine v_cVI1 (q := 22) dX9_readText_19 mlX9_298 mdX6_parse (by decide) kd_23 rfl rfl ⟨Nat.le_refl 0, Nat.le_refl 0⟩ (by exact Nat.le_of_ble_eq_true rfl) rfl (c_X6_parse _ (t1.congr (by rw [e23]) e24) (by rw [e3 0 (by omega) (by omega)]; omega) (by rw [e3 1 (by omega) (by omega)]; omega) (fun i i0 i1 => by rw [show (4 : Nat) = 3 + 1 from rfl, cpS_b1 mem 3 1 i0 i1]; exact h.1.2.2.2 i i0 i1)) ?_
  intro z m1 hz
  refine v_iret dX9_readText_22 ?_
  refine ⟨z, rfl, ?_⟩
  rw [e24, e23, e3 0 (by omega) (by omega), e3 1 (by omega) (by omega)] at hz
  have ep : pT (mem 24) (mem 23 0) (mem 1 0) (mem 1 1) 20 0 [] = rdT A := by
    unfold rdT
    rw [a1, a2, ← t2]
    exact pT_congr (by omega) t3 20 0 [] (by omega)
  rw [ep] at hz
  obtain ⟨z1, z2, z3, z4⟩ := hz
  exact ⟨fun q q1 q2 q3 => by rw [z1 q q1 q2 q3]; exact o q q1 q2, by rw [z2, e23], fun j j0 j1 => by rw [z3 j (by omega), e3 j j0 (by omega)], z4⟩
theorem SI.rd {mem m : Mem} {A : AS} (h : SI mem A) (h1 : ∀ q, q ≠ 3 → q ≠ 4 → q ≠ 23 → m q = mem q) (h2 : m 23 0 = mem 23 0) : SI m A := by
  refine ⟨h.1.congr (h1 1 (by decide) (by decide) (by decide)) (h1 2 (by decide) (by decide) (by decide)), h.2.1.congr (fun q a b => h1 q (by omega) (by omega) (by omega)), ?_⟩
  have := h.2.2
  unfold TR at this ⊢
  rw [h2, h1 24 (by decide) (by decide) (by decide)]
  exact this
theorem c_X9_fault (mem : Mem) (A : AS) (h : SI mem A) : CtrI mX9_fault [aR 0] mem (CQ mem A (sFault A, A)) := by
  refine Ctr.ofV (ls := [aR 0]) rfl (by decide) rfl (Nat.le_of_ble_eq_true rfl) ?_
  refine v_aload_n (j := 0) (q := 1) rfl dX9_fault_0 rfl ?_
  refine v_cVI0 (q := 4) dX9_fault_1 mlX9_245 mdX9_readText (by decide) kd_0 rfl rfl ⟨Nat.le_refl 0, Nat.le_refl 0⟩ (by exact Nat.le_of_ble_eq_true rfl) rfl (c_X9_readText mem A h) ?_
  intro z m1 hz
  refine v_iret dX9_fault_4 ?_
  obtain ⟨z1, z2, z3, z4⟩ := hz
  refine ⟨z, rfl, ?_, h.rd z1 z2, Or.inr ⟨rfl, fun q hq => z1 q (by omega) (by omega) (by omega)⟩⟩
  show sFault A = z
  unfold sFault
  rcases z4 with ⟨f, e, hf, -⟩ | ⟨l, e, hf, -⟩
  · rw [e]; exact hf
  · rw [e]; exact hf
theorem c_X9_load (mem : Mem) (A : AS) (h : SI mem A) : CtrI mX9_load [aR 0] mem (CQ mem A (sLoad A)) := by
  obtain ⟨t1, t2, t3⟩ := TR_tx h.2.2
  have hrz : ∀ z m, rdQ mem (rdT A) z m → R32 z := fun z m hz => by
    obtain ⟨z1, z2, z3, z4⟩ := hz
    rcases z4 with ⟨f, e, hf, h0⟩ | ⟨l, e, hf, -⟩
    · have := pT_le (by have := h.1.2.2.1.2.1; omega) 20 0 [] f (by omega) (by omega) e
      have := h.2.2.2.1
      omega
    · omega
  refine Ctr.ofV (ls := [aR 0]) rfl (by decide) rfl (Nat.le_of_ble_eq_true rfl) ?_
  refine v_aload_n (j := 0) (q := 1) rfl dX9_load_0 rfl ?_
  refine v_cVI0 (q := 4) dX9_load_1 mlX9_245 mdX9_readText (by decide) kd_0 rfl rfl ⟨Nat.le_refl 0, Nat.le_refl 0⟩ (by exact Nat.le_of_ble_eq_true rfl) rfl (c_X9_readText mem A h) ?_
  intro z m1 hz
  refine v_bipush (q := 6) (by decide) dX9_load_4 rfl ?_
  refine v_icmp_eq (tgt := 12) (q := 9) dX9_load_6 (by decide) rfl (hrz z m1 hz) (by omega) (fun h6 => ?_) (fun h6 => ?_)
  · obtain ⟨z1, z2, z3, z4⟩ := hz
    have h1 := h.rd z1 z2
    obtain ⟨r1, r2, r3, r4, r5⟩ := h1.rec
    obtain ⟨g1, g2, g3⟩ := fgrec h1
    refine v_aload_n (j := 0) (q := 13) rfl dX9_load_12 rfl ?_
    refine v_cVV0 (q := 16) dX9_load_13 mlX9_97 mdX9_recordChange (by decide) kd_0 rfl rfl ⟨Nat.le_refl 0, Nat.le_refl 0⟩ (by exact Nat.le_of_ble_eq_true rfl) rfl (c_X9_recordChange m1 r3 r4 r5) ?_
    rintro _ rfl
    refine v_aload_n (j := 0) (q := 17) rfl dX9_load_16 rfl ?_
    refine v_getR (p' := 1) (q := 20) dX9_load_17 fl_X9_12 kd_0 rfl (rfc_9_0 kd_0) rfl ?_
    refine v_aload_n (j := 0) (q := 21) rfl dX9_load_20 rfl ?_
    refine v_getR (p' := 3) (q := 24) dX9_load_21 fl_X9_16 kd_0 rfl (rfc_9_1 kd_0) rfl ?_
    refine v_cVV1 (q := 27) dX9_load_24 mlX9_248 mdX4_copyFrom (by decide) kd_1 rfl rfl ⟨Nat.le_refl 0, Nat.le_refl 0⟩ (by exact Nat.le_of_ble_eq_true rfl) rfl (c_X4_copyFrom 1 3 _ su_1 su_3 (by decide)) ?_
    rintro _ rfl
    refine v_aload_n (j := 0) (q := 28) rfl dX9_load_27 rfl ?_
    refine v_getR (p' := 1) (q := 31) dX9_load_28 fl_X9_12 kd_0 rfl (rfc_9_0 kd_0) rfl ?_
    refine v_getI (j := 4) (q := 34) dX9_load_31 fl_X9_93 kd_1 rfl rfl rfl ?_
    refine v_iret dX9_load_34 ?_
    refine ⟨_, rfl, ?_⟩
    rcases z4 with ⟨f, e, hf, h0⟩ | ⟨l, e, hf, hD⟩
    · omega
    · unfold sLoad
      rw [e]
      obtain ⟨a1, a2, a3, a4, a5, hc⟩ := eA h.1
      have f := h.1.facts
      have k3 : fgM (recM m1) 3 = m1 3 := by rw [fgM_ne _ (by decide) (by decide) (by decide), (h1.2.1.rec h1.1).2 3 (by omega)]
      have k4 : fgM (recM m1) 4 = m1 4 := by rw [fgM_ne _ (by decide) (by decide) (by decide), (h1.2.1.rec h1.1).2 4 (by omega)]
      have b4 := cpS_b (fgM (recM m1)) 1 3 (j := 4) (by omega) (by omega)
      obtain ⟨d1, d2, d3, d4, d5, d6, d7⟩ := hD
      have hS0 : SR m1 3 (A.1.1, A.1.2.1, A.1.2.2.1, A.1.2.2.2.1, l) := by
        have e0 := z3 0 (by omega) (by omega)
        have e1 := z3 1 (by omega) (by omega)
        have e2 := z3 2 (by omega) (by omega)
        have e3 := z3 3 (by omega) (by omega)
        refine ⟨?_, by omega, ⟨?_, ?_, ?_, ?_, d4, ?_⟩, d6⟩
        · unfold syC
          rw [e0, e1, e2, e3, a1, a2, a3, a4, show (m1 3 4).toNat = l.length by omega, show (3 + 1 : Nat) = 4 from rfl, ← d5]
        · show 1 ≤ A.1.1 ∧ A.1.1 ≤ 4; omega
        · show 1 ≤ A.1.2.1 ∧ A.1.2.1 ≤ 5; omega
        · show 0 ≤ A.1.2.2.1 ∧ A.1.2.2.1 < A.1.1; omega
        · show isW A.1.2.2.2.1 A.1.2.1 ∧ 1 ≤ nd A.1.2.2.2.1 ∧ nd A.1.2.2.2.1 ≤ 4
          rw [a4, a2]; exact f.2.2.2.1
        · intro r hr
          have := d7 r hr
          rw [e0, e1] at this
          rw [show (A.1.1, A.1.2.1, A.1.2.2.1, A.1.2.2.2.1, l).1 = mem 1 0 from a1, show (A.1.1, A.1.2.1, A.1.2.2.1, A.1.2.2.2.1, l).2.1 = mem 1 1 from a2]
          exact this
      have hS : SR (cpS (fgM (recM m1)) 1 3) 1 (A.1.1, A.1.2.1, A.1.2.2.1, A.1.2.2.2.1, l) := (hS0.congr k3 k4).copied
      have := CQ_change (z := (l.length : Int)) h1 (fun r q1 q2 => cpS_ne _ q1 q2) hS
      rw [b4, k3, d3]
      refine ⟨rfl, this.2.1, Or.inl ?_⟩
      have o : ∀ q, q ≠ 1 → q ≠ 2 → cpS (fgM (recM m1)) 1 3 q = fgM (recM m1) q := fun q q1 q2 => cpS_ne _ q1 q2
      exact ⟨by rw [o 0 (by decide) (by decide)]; exact r2.1, by rw [o 42 (by decide) (by decide), r2.2.1, z1 42 (by omega) (by omega) (by omega)], by rw [o 83 (by decide) (by decide)]; exact r2.2.2.1, fun q hq => by rw [o q (by omega) (by omega), r2.2.2.2 q hq, z1 q (by omega) (by omega) (by omega)]⟩
  · refine v_bipush (q := 11) (by decide) dX9_load_9 rfl ?_
    refine v_iret dX9_load_11 ?_
    obtain ⟨z1, z2, z3, z4⟩ := hz
    refine ⟨_, rfl, ?_⟩
    rcases z4 with ⟨f, e, hf, h0⟩ | ⟨l, e, hf, -⟩
    · unfold sLoad
      rw [e]
      exact ⟨rfl, h.rd z1 z2, Or.inr ⟨rfl, fun q hq => z1 q (by omega) (by omega) (by omega)⟩⟩
    · exact absurd hf.symm h6
