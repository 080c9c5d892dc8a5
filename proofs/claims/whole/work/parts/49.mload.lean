/-! ===== The reference: fault, load ===== -/
theorem stM_id (mem : Mem) {a w : Int} (ha : mem 116 16 = a) (hw : mem 116 17 = w) : stM mem a w = mem := by
  unfold stM
  rw [← ha, um_id, ← hw, um_id]
theorem c_X10_readItem20 (a : Int) (l : List Rl) (mem : Mem) (hM : MD mem l) (hl : l.length = 20) : CtrV mX10_readItem [aR 116] (stM mem a (-6)) (fun m => stM mem a a = m) := by
  have hi := hM.2.2.1
  refine Ctr.ofV (ls := [aR 116, aU, aU, aU, aU, aU, aU, aU, aU, aU]) rfl (by decide) rfl (Nat.le_of_ble_eq_true rfl) ?_
  refine v_aload_n (j := 0) (q := 1) rfl dX10_readItem_0 rfl ?_
  refine v_getI (j := 19) (q := 4) dX10_readItem_1 fl_X10_221 kd_116 rfl rfl rfl ?_
  refine v_bipush (q := 6) (by decide) dX10_readItem_4 rfl ?_
  rw [stM_j _ _ _ (by omega) (by omega)]
  refine v_icmp_ne (tgt := 18) (q := 9) dX10_readItem_6 (by decide) rfl (by omega) (by omega) (fun h6 => ?_) (fun h6 => ?_)
  · exact absurd h6 (by omega)
  · refine v_aload_n (j := 0) (q := 10) rfl dX10_readItem_9 rfl ?_
    refine v_aload_n (j := 0) (q := 11) rfl dX10_readItem_10 rfl ?_
    refine v_getI (j := 16) (q := 14) dX10_readItem_11 fl_X10_208 kd_116 rfl rfl rfl ?_
    rw [stM_a]
    refine v_cVV1 (q := 17) dX10_readItem_14 mlX10_218 mdX10_fails (by decide) kd_116 rfl rfl ⟨Nat.le_refl 0, Nat.le_refl 0⟩ (by exact Nat.le_of_ble_eq_true rfl) rfl (c_X10_fails a a (-6) mem (by omega)) ?_
    rintro _ rfl
    rw [if_pos rfl]
    refine v_vret dX10_readItem_17 ?_
    exact ⟨rfl, rfl⟩
def ftQ (M0 : Mem) (R : Int ⊕ List Rl) (z : Int) (m : Mem) : Prop :=
  (∀ q, q ≠ 116 → q ≠ 127 → m q = M0 q) ∧ (∀ j, j ≠ 16 → j ≠ 17 → j ≠ 19 → m 116 j = M0 116 j) ∧ ((∃ f, R = .inl f ∧ f = z ∧ 0 ≤ z) ∨ (∃ l, R = .inr l ∧ -6 = z ∧ MD m l))
theorem txR.congr {m m1 : Mem} (h : txR m) (h1 : m1 116 5 = m 116 5) (h2 : m1 119 = m 119) : txR m1 := by
  unfold txR
  rw [h1, h2]
  exact h
theorem l_X10_fault (M0 : Mem) (hG : 1 ≤ M0 117 1 ∧ M0 117 1 ≤ 5) : ∀ (j : Nat) (a : Int) (l : List Rl) (M : Mem), (l.length : Int) + j = 20 → txR M → (0 ≤ a ∧ a ≤ M 116 5) → M 116 16 = a → M 116 17 = -6 → MD M l → (∀ q, q ≠ 116 → q ≠ 127 → M q = M0 q) → (∀ j, j ≠ 16 → j ≠ 17 → j ≠ 19 → M 116 j = M0 116 j) →
    V cX10_fault RX10 1 (some .int) (rmk 3 73) (mE (fun r m => ∃ z, r = aI z ∧ ftQ M0 (pT (M0 119) (M0 116 5) (M0 117 0) (M0 117 1) j a l) z m)) 16 [aR 116] [] M := by
  intro j
  induction j with
  | zero =>
    intro a l M h1 hT ha h16 h17 hM f1 f2
    have hL := hT.1
    have e5 := f2 5 (by omega) (by omega) (by omega)
    have hi := c_X10_readItem20 a l M hM (by omega)
    rw [stM_id M h16 h17] at hi
    refine v_aload_n (j := 0) (q := 17) rfl dX10_fault_16 rfl ?_
    refine v_getI (j := 17) (q := 20) dX10_fault_17 fl_X10_211 kd_116 rfl rfl rfl ?_
    refine v_bipush (q := 22) (by decide) dX10_fault_20 rfl ?_
    rw [h17]
    refine v_icmp_ne (tgt := 43) (q := 25) dX10_fault_22 (by decide) rfl (by omega) (by omega) (fun h22 => ?_) (fun h22 => ?_)
    · exact absurd h22 (by omega)
    · refine v_aload_n (j := 0) (q := 26) rfl dX10_fault_25 rfl ?_
      refine v_getI (j := 16) (q := 29) dX10_fault_26 fl_X10_208 kd_116 rfl rfl rfl ?_
      refine v_aload_n (j := 0) (q := 30) rfl dX10_fault_29 rfl ?_
      refine v_getI (j := 5) (q := 33) dX10_fault_30 fl_X10_205 kd_116 rfl rfl rfl ?_
      rw [h16]
      refine v_icmp_ge (tgt := 43) (q := 36) dX10_fault_33 (by decide) rfl (by omega) (by omega) (fun h33 => ?_) (fun h33 => ?_)
      · refine v_aload_n (j := 0) (q := 44) rfl dX10_fault_43 rfl ?_
        refine v_getI (j := 17) (q := 47) dX10_fault_44 fl_X10_211 kd_116 rfl rfl rfl ?_
        refine v_iret dX10_fault_47 ?_
        exact ⟨_, rfl, f1, f2, Or.inr ⟨l, pT_end (by omega), by omega, hM⟩⟩
      · refine v_aload_n (j := 0) (q := 37) rfl dX10_fault_36 rfl ?_
        refine v_cVV0 (q := 40) dX10_fault_37 mlX10_227 mdX10_readItem (by decide) kd_116 rfl rfl ⟨Nat.le_refl 0, Nat.le_refl 0⟩ (by exact Nat.le_of_ble_eq_true rfl) rfl (hi) ?_
        rintro _ rfl
        refine v_goto (q := 16) dX10_fault_40 (by decide) ?_
        refine v_aload_n (j := 0) (q := 17) rfl dX10_fault_16 rfl ?_
        refine v_getI (j := 17) (q := 20) dX10_fault_17 fl_X10_211 kd_116 rfl rfl rfl ?_
        rw [stM_w]
        refine v_bipush (q := 22) (by decide) dX10_fault_20 rfl ?_
        refine v_icmp_ne (tgt := 43) (q := 25) dX10_fault_22 (by decide) rfl (by omega) (by omega) (fun h => ?_) (fun h => by omega)
        refine v_aload_n (j := 0) (q := 44) rfl dX10_fault_43 rfl ?_
        refine v_getI (j := 17) (q := 47) dX10_fault_44 fl_X10_211 kd_116 rfl rfl rfl ?_
        rw [stM_w]
        exact v_iret dX10_fault_47 ⟨_, rfl, fun q q1 q2 => by rw [stM_ne _ _ _ q1]; exact f1 q q1 q2, fun j j1 j2 j3 => by rw [stM_j _ _ _ j1 j2]; exact f2 j j1 j2 j3, Or.inl ⟨a, pT_full (by omega), rfl, ha.1⟩⟩
  | succ j ih =>
    intro a l M h1 hT ha h16 h17 hM f1 f2
    have hL := hT.1
    have e5 := f2 5 (by omega) (by omega) (by omega)
    have hi := c_X10_readItem a l M hT ha hM (by omega)
    rw [stM_id M h16 h17] at hi
    have e7 := f1 117 (by decide) (by decide)
    have e9 := f1 119 (by decide) (by decide)
    have ep : pI M a l = pItem (M0 119) (M0 116 5) (M0 117 0) (M0 117 1) a l := by unfold pI; rw [e7, e9, e5]
    have okk := pItem_ok (T := M0 119) (L := M0 116 5) (S := M0 117 0) (l := l) hG ha.1 (by omega)
    refine v_aload_n (j := 0) (q := 17) rfl dX10_fault_16 rfl ?_
    refine v_getI (j := 17) (q := 20) dX10_fault_17 fl_X10_211 kd_116 rfl rfl rfl ?_
    refine v_bipush (q := 22) (by decide) dX10_fault_20 rfl ?_
    rw [h17]
    refine v_icmp_ne (tgt := 43) (q := 25) dX10_fault_22 (by decide) rfl (by omega) (by omega) (fun h22 => ?_) (fun h22 => ?_)
    · exact absurd h22 (by omega)
    · refine v_aload_n (j := 0) (q := 26) rfl dX10_fault_25 rfl ?_
      refine v_getI (j := 16) (q := 29) dX10_fault_26 fl_X10_208 kd_116 rfl rfl rfl ?_
      refine v_aload_n (j := 0) (q := 30) rfl dX10_fault_29 rfl ?_
      refine v_getI (j := 5) (q := 33) dX10_fault_30 fl_X10_205 kd_116 rfl rfl rfl ?_
      rw [h16]
      refine v_icmp_ge (tgt := 43) (q := 36) dX10_fault_33 (by decide) rfl (by omega) (by omega) (fun h33 => ?_) (fun h33 => ?_)
      · refine v_aload_n (j := 0) (q := 44) rfl dX10_fault_43 rfl ?_
        refine v_getI (j := 17) (q := 47) dX10_fault_44 fl_X10_211 kd_116 rfl rfl rfl ?_
        refine v_iret dX10_fault_47 ?_
        exact ⟨_, rfl, f1, f2, Or.inr ⟨l, pT_end (by omega), by omega, hM⟩⟩
      · refine v_aload_n (j := 0) (q := 37) rfl dX10_fault_36 rfl ?_
        refine v_cVV0 (q := 40) dX10_fault_37 mlX10_227 mdX10_readItem (by decide) kd_116 rfl rfl ⟨Nat.le_refl 0, Nat.le_refl 0⟩ (by exact Nat.le_of_ble_eq_true rfl) rfl (hi) ?_
        rintro m1 ⟨q1, q2, q3⟩
        refine v_goto (q := 16) dX10_fault_40 (by decide) ?_
        rcases q3 with ⟨f, hp, hf⟩ | ⟨b, r, hp, hw, hb, hMD⟩
        · rw [ep] at hp
          have ok9 := okk.1 f hp
          refine v_aload_n (j := 0) (q := 17) rfl dX10_fault_16 rfl ?_
          refine v_getI (j := 17) (q := 20) dX10_fault_17 fl_X10_211 kd_116 rfl rfl rfl ?_
          rw [hf]
          refine v_bipush (q := 22) (by decide) dX10_fault_20 rfl ?_
          refine v_icmp_ne (tgt := 43) (q := 25) dX10_fault_22 (by decide) rfl (by omega) (by omega) (fun h => ?_) (fun h => by omega)
          refine v_aload_n (j := 0) (q := 44) rfl dX10_fault_43 rfl ?_
          refine v_getI (j := 17) (q := 47) dX10_fault_44 fl_X10_211 kd_116 rfl rfl rfl ?_
          rw [hf]
          exact v_iret dX10_fault_47 ⟨_, rfl, fun q k1 k2 => by rw [q1 q k1 k2]; exact f1 q k1 k2, fun j j1 j2 j3 => by rw [q2 j j1 j2 j3]; exact f2 j j1 j2 j3, Or.inl ⟨f, pT_bad (by omega) hp, rfl, ok9.1⟩⟩
        · rw [ep] at hp
          have ok9 := okk.2 b r hp
          rw [pT_next (by omega) hp]
          exact ih b (l ++ [r]) m1 (by rw [List.length_append]; simp; omega) (hT.congr (q2 5 (by omega) (by omega) (by omega)) (q1 119 (by decide) (by decide))) (by rw [q2 5 (by omega) (by omega) (by omega)]; omega) hb hw hMD (fun q k1 k2 => by rw [q1 q k1 k2]; exact f1 q k1 k2) (fun j j1 j2 j3 => by rw [q2 j j1 j2 j3]; exact f2 j j1 j2 j3)
theorem TX_tx {m : Mem} {t : List Int} (h : TX m t) : txR m ∧ m 116 5 = t.length ∧ ∀ i, 0 ≤ i → i < m 116 5 → m 119 i = tx t i := by
  obtain ⟨h1, h2, h3, h4⟩ := h
  have key : ∀ i, 0 ≤ i → i < m 116 5 → m 119 i = tx t i := fun i i0 i1 => by
    have := h3 i.toNat (by omega)
    rw [show ((i.toNat : Nat) : Int) = i by omega] at this
    exact this
  refine ⟨⟨by omega, fun i i0 i1 => ?_⟩, h1, key⟩
  rw [key i i0 i1]
  have hl : i.toNat < t.length := by omega
  have : t.getD i.toNat 0 ∈ t := by
    rw [List.getD_eq_getElem?_getD, List.getElem?_eq_getElem hl]
    exact List.getElem_mem hl
  exact h4 _ this
theorem c_X10_faultR (mem : Mem) (A : AS) (h : RI mem A) : CtrI mX10_fault [aR 116] mem (ftQ mem (rdT A)) := by
  obtain ⟨f0, f1, f2, f3, f4, f5, a1, a2, a3, a4, a5, hc⟩ := h.1.facts
  obtain ⟨t1, t2, t3⟩ := TX_tx h.2.2
  obtain ⟨N, hN⟩ : ∃ N, N = um (um (um mem 116 16 0) 116 17 (-6)) 116 19 0 := ⟨_, rfl⟩
  have n6 : N 116 = ui (ui (ui (mem 116) 16 0) 17 (-6)) 19 0 := by rw [hN, um_same, um_same, um_same]
  have no : ∀ q, q ≠ 116 → N q = mem q := fun q hq => by rw [hN, um_ne _ _ _ hq, um_ne _ _ _ hq, um_ne _ _ _ hq]
  have nj : ∀ j, j ≠ 16 → j ≠ 17 → j ≠ 19 → N 116 j = mem 116 j := fun j j1 j2 j3 => by rw [n6, ui_ne _ _ j3, ui_ne _ _ j2, ui_ne _ _ j1]
  have ep : pT (mem 119) (mem 116 5) (mem 117 0) (mem 117 1) 20 0 [] = rdT A := by
    unfold rdT
    rw [a1, a2, ← t2]
    exact pT_congr (by omega) t3 20 0 [] (by omega)
  refine Ctr.ofV (ls := [aR 116]) rfl (by decide) rfl (Nat.le_of_ble_eq_true rfl) ?_
  refine v_aload_n (j := 0) (q := 1) rfl dX10_fault_0 rfl ?_
  refine v_iconst (q := 2) dX10_fault_1 rfl ?_
  refine v_putI (j := 16) (q := 5) dX10_fault_2 fl_X10_208 kd_116 rfl rfl rfl ?_
  refine v_aload_n (j := 0) (q := 6) rfl dX10_fault_5 rfl ?_
  refine v_bipush (q := 8) (by decide) dX10_fault_6 rfl ?_
  refine v_putI (j := 17) (q := 11) dX10_fault_8 fl_X10_211 kd_116 rfl rfl rfl ?_
  refine v_aload_n (j := 0) (q := 12) rfl dX10_fault_11 rfl ?_
  refine v_iconst (q := 13) dX10_fault_12 rfl ?_
  refine v_putI (j := 19) (q := 16) dX10_fault_13 fl_X10_221 kd_116 rfl rfl rfl ?_
  rw [← hN]
  have hk := l_X10_fault mem f1 20 0 [] N (by simp) (t1.congr (nj 5 (by omega) (by omega) (by omega)) (no 119 (by decide))) (by rw [nj 5 (by omega) (by omega) (by omega)]; have := t1.1; omega) (by rw [n6, ui_ne _ _ (by omega), ui_ne _ _ (by omega), ui_same]) (by rw [n6, ui_ne _ _ (by omega), ui_same]) ⟨by rw [no 117 (by decide)]; exact f0, by rw [no 117 (by decide)]; exact f1, by rw [n6, ui_same]; rfl, by simp, rfl, fun i i0 i1 => by simp at i1; omega, fun r h9 => by cases h9⟩ (fun q k1 _ => no q k1) nj
  rw [ep] at hk
  exact hk
theorem RI.ft {mem m : Mem} {A : AS} (h : RI mem A) (h1 : ∀ q, q ≠ 116 → q ≠ 127 → m q = mem q) (h2 : ∀ j, j ≠ 16 → j ≠ 17 → j ≠ 19 → m 116 j = mem 116 j) : RI m A := by
  refine ⟨by rw [h1 117 (by decide) (by decide)]; exact h.1, by rw [h1 118 (by decide) (by decide), h2 2 (by omega) (by omega) (by omega)]; exact h.2.1, ?_⟩
  have := h.2.2
  unfold TX at this ⊢
  rw [h2 5 (by omega) (by omega) (by omega), h1 119 (by decide) (by decide)]
  exact this
theorem c_X10_fault (mem : Mem) (A : AS) (h : RI mem A) : CtrI mX10_fault [aR 116] mem (RQ mem A (sFault A, A)) := by
  refine CtrI.mono (c_X10_faultR mem A h) (fun z m hz => ?_)
  obtain ⟨z1, z2, z4⟩ := hz
  refine ⟨?_, h.ft z1 z2, fun q hq => z1 q (by omega) (by omega), Or.inr ⟨rfl, z2 3 (by omega) (by omega) (by omega), z1 123 (by decide) (by decide)⟩⟩
  show sFault A = z
  unfold sFault
  rcases z4 with ⟨f, e, hf, -⟩ | ⟨l, e, hf, -⟩
  · rw [e]; exact hf
  · rw [e]; exact hf
theorem l_X10_load {E : EQ} (mem : Mem) (hc : 0 ≤ mem 116 19 ∧ mem 116 19 ≤ 20) (K : ∀ k' m, (∀ q, q ≠ 117 → m q = mem q) → (∀ i, m 117 i = if 5 ≤ i ∧ i < 5 + 5 * mem 116 19 then mem 127 (i - 5) else mem 117 i) → V cX10_load RX10 2 (some .int) (rmk 4 93) E 58 [aR 116, aI k'] [] m) : ∀ (j : Nat) (k : Int) (M : Mem), k + j = 5 * mem 116 19 → 0 ≤ k → (∀ q, q ≠ 117 → M q = mem q) → (∀ i, M 117 i = if 5 ≤ i ∧ i < 5 + k then mem 127 (i - 5) else mem 117 i) →
    V cX10_load RX10 2 (some .int) (rmk 4 93) E 28 [aR 116, aI k] [] M := by
  intro j
  induction j with
  | zero =>
    intro k M h1 h2 h3 h4
    have e6 := h3 116 (by decide)
    refine v_iload_n (j := 1) (q := 29) rfl dX10_load_28 rfl ?_
    refine v_iconst (q := 30) dX10_load_29 rfl ?_
    refine v_aload_n (j := 0) (q := 31) rfl dX10_load_30 rfl ?_
    refine v_getI (j := 19) (q := 34) dX10_load_31 fl_X10_221 kd_116 rfl rfl rfl ?_
    rw [e6]
    refine v_imul (q := 35) dX10_load_34 rfl ?_
    refine v_icmp_ge (tgt := 58) (q := 38) dX10_load_35 (by decide) rfl (by omega) (by omega) (fun h35 => ?_) (fun h35 => ?_)
    · exact K _ _ h3 (fun i => by rw [h4, show k = 5 * mem 116 19 by omega])
    · exact absurd h35 (by omega)
  | succ j ih =>
    intro k M h1 h2 h3 h4
    have e6 := h3 116 (by decide)
    have e7 := h3 127 (by decide)
    refine v_iload_n (j := 1) (q := 29) rfl dX10_load_28 rfl ?_
    refine v_iconst (q := 30) dX10_load_29 rfl ?_
    refine v_aload_n (j := 0) (q := 31) rfl dX10_load_30 rfl ?_
    refine v_getI (j := 19) (q := 34) dX10_load_31 fl_X10_221 kd_116 rfl rfl rfl ?_
    rw [e6]
    refine v_imul (q := 35) dX10_load_34 rfl ?_
    refine v_icmp_ge (tgt := 58) (q := 38) dX10_load_35 (by decide) rfl (by omega) (by omega) (fun h35 => ?_) (fun h35 => ?_)
    · exact absurd h35 (by omega)
    · refine v_aload_n (j := 0) (q := 39) rfl dX10_load_38 rfl ?_
      refine v_getR (p' := 117) (q := 42) dX10_load_39 fl_X10_7 kd_116 rfl (rfc_10_0 kd_116) rfl ?_
      refine v_iconst (q := 43) dX10_load_42 rfl ?_
      refine v_iload_n (j := 1) (q := 44) rfl dX10_load_43 rfl ?_
      refine v_iadd (q := 45) dX10_load_44 rfl ?_
      refine v_aload_n (j := 0) (q := 46) rfl dX10_load_45 rfl ?_
      refine v_getR (p' := 127) (q := 49) dX10_load_46 fl_X10_41 kd_116 rfl (rfc_10_18 kd_116) rfl ?_
      refine v_iload_n (j := 1) (q := 50) rfl dX10_load_49 rfl ?_
      refine v_iald (q := 51) dX10_load_50 kd_127 (by omega) (by omega) rfl ?_
      rw [e7]
      refine v_iast (q := 52) dX10_load_51 kd_117 (by omega) (by omega) rfl ?_
      refine v_iinc1 (q := 55) rfl dX10_load_52 (by decide) rfl ?_
      refine v_goto (q := 28) dX10_load_55 (by decide) ?_
      refine ih (k + 1) _ (by omega) (by omega) (fun q hq => by rw [um_ne _ _ _ hq]; exact h3 q hq) (fun i => ?_)
      rw [um_same]
      unfold ui
      by_cases e : i = 5 + k
      · rw [if_pos e, if_pos (by omega), e]
        congr 1
        omega
      · rw [if_neg e, h4]
        by_cases e2 : 5 ≤ i ∧ i < 5 + k
        · rw [if_pos e2, if_pos (by omega)]
        · rw [if_neg e2, if_neg (by omega)]
theorem c_X10_load (mem : Mem) (A : AS) (h : RI mem A) : CtrI mX10_load [aR 116] mem (RQ mem A (sLoad A)) := by
  obtain ⟨f0, f1, f2, f3, f4, f5, a1, a2, a3, a4, a5, hc⟩ := h.1.facts
  obtain ⟨t1, t2, t3⟩ := TX_tx h.2.2
  have hr0 : ∀ i, 5 ≤ i → i < 105 → R32 (mem 117 i) := fun i i0 i1 => by have := h.1.2.2.2 i i0 i1; rw [Int.zero_add] at this; exact this
  have hrz : ∀ z m, ftQ mem (rdT A) z m → R32 z := fun z m hz => by
    obtain ⟨z1, z2, z4⟩ := hz
    rcases z4 with ⟨f, e, hf, h0⟩ | ⟨l, e, hf, -⟩
    · have := pT_le (by omega) 20 0 [] f (by omega) (by omega) e
      have := h.2.2.2.1
      omega
    · omega
  refine Ctr.ofV (ls := [aR 116, aU]) rfl (by decide) rfl (Nat.le_of_ble_eq_true rfl) ?_
  refine v_aload_n (j := 0) (q := 1) rfl dX10_load_0 rfl ?_
  refine v_cVI0 (q := 4) dX10_load_1 mlX10_230 mdX10_fault (by decide) kd_116 rfl rfl ⟨Nat.le_refl 0, Nat.le_refl 0⟩ (by exact Nat.le_of_ble_eq_true rfl) rfl (c_X10_faultR mem A h) ?_
  intro z m1 hz
  refine v_bipush (q := 6) (by decide) dX10_load_4 rfl ?_
  refine v_icmp_eq (tgt := 12) (q := 9) dX10_load_6 (by decide) rfl (hrz z m1 hz) (by omega) (fun h6 => ?_) (fun h6 => ?_)
  · obtain ⟨z1, z2, z4⟩ := hz
    have h1 := h.ft z1 z2
    obtain ⟨r1, r2, r3, r4, r5, r6⟩ := h1.keep
    have k7 := r1 117 (by decide) (by decide)
    refine v_aload_n (j := 0) (q := 13) rfl dX10_load_12 rfl ?_
    refine v_cVV0 (q := 16) dX10_load_13 mlX10_64 mdX10_keep (by decide) kd_116 rfl rfl ⟨Nat.le_refl 0, Nat.le_refl 0⟩ (by exact Nat.le_of_ble_eq_true rfl) rfl (c_X10_keep m1 r5 r6) ?_
    rintro _ rfl
    refine v_aload_n (j := 0) (q := 17) rfl dX10_load_16 rfl ?_
    refine v_getR (p' := 117) (q := 20) dX10_load_17 fl_X10_7 kd_116 rfl (rfc_10_0 kd_116) rfl ?_
    refine v_iconst (q := 21) dX10_load_20 rfl ?_
    refine v_aload_n (j := 0) (q := 22) rfl dX10_load_21 rfl ?_
    refine v_getI (j := 19) (q := 25) dX10_load_22 fl_X10_221 kd_116 rfl rfl rfl ?_
    refine v_iast (q := 26) dX10_load_25 kd_117 (by omega) (by omega) rfl ?_
    refine v_iconst (q := 27) dX10_load_26 rfl ?_
    refine v_ist1 (q := 28) rfl dX10_load_27 (by decide) rfl ?_
    rcases z4 with ⟨f, e, hf, h0⟩ | ⟨l, e, hf, hD⟩
    · omega
    have k19 := r3 19 (by omega) (by omega)
    rw [k19]
    obtain ⟨d1, d2, d3, d4, d5, d6, d7⟩ := hD
    have m7 := z1 117 (by decide) (by decide)
    obtain ⟨N, hN⟩ : ∃ N, N = um (kpM m1) 117 2 (m1 116 19) := ⟨_, rfl⟩
    rw [← hN]
    have no : ∀ q, q ≠ 117 → N q = kpM m1 q := fun q hq => by rw [hN, um_ne _ _ _ hq]
    have n19 : N 116 19 = m1 116 19 := by rw [no 116 (by decide), k19]
    have n27 : N 127 = m1 127 := by rw [no 127 (by decide), r1 127 (by decide) (by decide)]
    have n7 : N 117 = ui (mem 117) 2 (m1 116 19) := by rw [hN, um_same, k7, m7]
    refine l_X10_load N (by rw [n19]; omega) (fun k' m q1 q2 => ?_) (5 * m1 116 19).toNat 0 N (by rw [n19]; omega) (by omega) (fun _ _ => rfl) (fun i => by rw [if_neg (by omega)])
    rw [n19, n27, n7] at q2
    refine v_aload_n (j := 0) (q := 59) rfl dX10_load_58 rfl ?_
    refine v_getI (j := 19) (q := 62) dX10_load_59 fl_X10_221 kd_116 rfl rfl rfl ?_
    refine v_iret dX10_load_62 ⟨_, rfl, ?_⟩
    rw [q1 116 (by decide), n19, d3]
    unfold sLoad
    rw [e]
    have lo : ∀ i, i < 5 → i ≠ 2 → m 117 i = mem 117 i := fun i i1 i2 => by rw [q2, if_neg (by omega), ui_ne _ _ i2]
    have g2 : m 117 2 = l.length := by rw [q2, if_neg (by omega), ui_same, d3]
    have hS := h.1.rules (g := m 117) (l := l) (lo 0 (by omega) (by omega)) (lo 1 (by omega) (by omega)) (lo 3 (by omega) (by omega)) (lo 4 (by omega) (by omega)) (by rw [g2]; omega) (by
      rw [g2, show ((l.length : Int)).toNat = l.length by omega]
      rw [d5, rls_len]
      apply rls_ext
      intro i i0 i1
      rw [q2, if_pos (by omega), Int.zero_add]
      congr 1
      omega) (fun r hr => by have := d7 r hr; rw [m7] at this; rw [a1, a2]; exact this) (fun i i0 i1 => by
      rw [q2]
      split
      · exact d6 _ (by omega) (by omega)
      · rw [ui_ne _ _ (by omega)]; exact hr0 i i0 i1)
    have hq := RQ_change (z := (l.length : Int)) h1 (fun r hr => by rw [q1 r hr, no r hr]) hS
    exact ⟨hq.1, hq.2.1, fun q hq9 => by rw [hq.2.2.1 q hq9, z1 q (by omega) (by omega)], Or.inl (by rw [q1 116 (by decide), no 116 (by decide)]; exact r2)⟩
  · refine v_bipush (q := 11) (by decide) dX10_load_9 rfl ?_
    refine v_iret dX10_load_11 ?_
    obtain ⟨z1, z2, z4⟩ := hz
    refine ⟨_, rfl, ?_⟩
    rcases z4 with ⟨f, e, hf, h0⟩ | ⟨l, e, hf, -⟩
    · unfold sLoad
      rw [e]
      exact ⟨rfl, h.ft z1 z2, fun q hq => z1 q (by omega) (by omega), Or.inr ⟨rfl, z2 3 (by omega) (by omega) (by omega), z1 123 (by decide) (by decide)⟩⟩
    · exact absurd hf.symm h6
