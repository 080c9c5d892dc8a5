/-! ===== the reference: layMachine ===== -/
theorem muN_lt {v w : Int → Int} {N : Nat} (h : ∀ i, v i ≤ w i) (h0 : ∀ i : Int, 0 ≤ i → i < N → 0 ≤ v i) {i : Int} (i0 : 0 ≤ i) (i2 : i < N) (hi : v i < w i) : ∀ n : Nat, n ≤ N → i < n → muW v n < muW w n
  | 0, _, h9 => absurd h9 (by omega)
  | n + 1, hn, h9 => by
    have a := muW_le h n
    have b := h n
    unfold muW
    by_cases e : i = n
    · subst e
      have := h0 n i0 i2
      omega
    · have := muN_lt h h0 i0 i2 hi n (by omega) (by omega)
      omega
theorem ASnd.nn {y : Sy} {v : Int → Int} (h : ASnd y v) : ∀ i : Int, 0 ≤ i → i < ((7350 : Nat) : Int) → 0 ≤ v i := fun i i0 i1 => by
  have hF := FAR_def
  have := h.1 i i0 (by omega)
  omega
def relA (y : Sy) (v : Int → Int) (n : Nat) : Prop := ∀ k : Nat, k < n → ∀ r, y.2.2.2.2[k]? = some r → ∀ e, 0 ≤ e → e < 35 → rlxA r v e
def stA (y : Sy) (v : Int → Int) : Prop := ∀ i : Nat, i < (dgs y.2.2.2.1).length → v (ax (if i = 0 then y.2.2.1 else 30 + (i : Int)) ((dgs y.2.2.2.1).getD i 0) (31 + (i : Int))) ≤ 0
def LOK (v : Int → Int) (y : Sy) : Prop := ∀ f l s, inX f l s → v (ax f l s) = if arw y f l s = 1000001 then FAR else arw y f l s
/-- what reads would tell -/
theorem RDv_ex {v : Int → Int} (ha : ATr v) {p x s : Int} (hp : 0 ≤ p ∧ p < 35) (hx : 1 ≤ x ∧ x < 6) (hs : 0 ≤ s ∧ s < 35) : ∃ R, RDv v p x s R := by
  have hF := FAR_def
  have key : ∀ n : Nat, n ≤ 35 → ∃ R, (R = FAR ∨ (0 ≤ R ∧ R ≤ 1000000)) ∧ (R < FAR → RDw v p x s R) ∧ R ≤ v (ax p x s) ∧ ∀ t : Int, 0 ≤ t → t < n → v (ax p 0 t) < FAR → v (ax t x s) < FAR → v (ax p 0 t) + v (ax t x s) ≤ 1000000 → R ≤ v (ax p 0 t) + v (ax t x s) := by
    intro n
    induction n with
    | zero => exact fun _ => ⟨v (ax p x s), ha.at ⟨hp, by omega, hs⟩, fun _ => Or.inl rfl, Int.le_refl _, fun t h0 h1 => by omega⟩
    | succ n ih =>
      intro hn
      obtain ⟨R, h1, h2, h3, h4⟩ := ih (by omega)
      have a1 := ha.at (show inX p 0 (n : Int) from ⟨hp, by omega, by omega⟩)
      have a2 := ha.at (show inX (n : Int) x s from ⟨by omega, by omega, hs⟩)
      by_cases g : v (ax p 0 n) < FAR ∧ v (ax n x s) < FAR ∧ v (ax p 0 n) + v (ax n x s) ≤ 1000000 ∧ v (ax p 0 n) + v (ax n x s) < R
      · refine ⟨v (ax p 0 n) + v (ax n x s), by omega, fun _ => Or.inr ⟨n, by omega, by omega, g.1, g.2.1, rfl⟩, by omega, fun t t0 t1 l1 l2 l3 => ?_⟩
        by_cases e : t = n
        · rw [e]; omega
        · have := h4 t t0 (by omega) l1 l2 l3
          omega
      · refine ⟨R, h1, h2, h3, fun t t0 t1 l1 l2 l3 => ?_⟩
        by_cases e : t = n
        · rw [e] at l1 l2 l3 ⊢
          omega
        · exact h4 t t0 (by omega) l1 l2 l3
  obtain ⟨R, h1, h2, h3, h4⟩ := key 35 (Nat.le_refl _)
  exact ⟨R, h1, h2, h3, fun t t0 t1 => h4 t t0 (by omega)⟩
theorem LOK_of {y : Sy} (ok : okS y) {v : Int → Int} (hv : ASnd y v) (hrel : relA y v y.2.2.2.2.length) (hst : stA y v) : LOK v y := by
  classical
  have hF := FAR_def
  have hS := ok.1
  have hG := ok.2.1
  have hl4 := ok.st.2
  obtain ⟨T, hT⟩ : ∃ T : Int → Int → Int → Int, ∀ f l s, T f l s = if inX f l s then v (ax f l s) else FAR := ⟨fun f l s => if inX f l s then v (ax f l s) else FAR, fun _ _ _ => rfl⟩
  have tin : ∀ {f l s d}, T f l s ≤ d → d ≤ 1000000 → inX f l s ∧ v (ax f l s) ≤ d := fun {f l s d} h hd => by
    rw [hT] at h
    by_cases g : inX f l s
    · rw [if_pos g] at h; exact ⟨g, h⟩
    · rw [if_neg g] at h; omega
  have tnn : ∀ f l s, 0 ≤ T f l s := fun f l s => by
    rw [hT]
    split
    · rename_i g
      have := hv.1.at g
      omega
    · omega
  have low : ∀ {f l s w}, AD y f l s w → T f l s ≤ w := fun {f l s w} ha => by
    refine AD.least T ?_ ?_ ha
    · rintro f l s w ⟨i, hi, a1, a2, a3, a4⟩
      have h9 := hst i hi
      rw [← a1, ← a2, ← a3] at h9
      have hs := getD_sym ok hi
      have h3 := ok.2.2.1
      have g : inX f l s := by
        refine ⟨?_, by omega, by omega⟩
        rw [a1]
        split <;> omega
      rw [hT, if_pos g]
      omega
    · rintro f l s w ⟨k, r, e, d, g1, g2, g3, g4⟩
      have okr := ok.2.2.2.2.2 r (List.mem_of_getElem? g1)
      obtain ⟨o1, o2, o3, ⟨o4, o4b⟩, o5⟩ := id okr
      -- e is a node, and what reads tells there is at most d
      have key : (0 ≤ e ∧ e < 35) ∧ ∃ R, RDv v r.1 r.2.1 e R ∧ R ≤ d := by
        have he : 0 ≤ e ∧ e < 35 := by
          rcases g2 with g | ⟨t, d1, d2, a, b, c⟩
          · exact (tin g g3).1.2.2
          · have := tnn r.1 0 t
            exact (tin b (by omega)).1.2.2
        refine ⟨he, ?_⟩
        obtain ⟨R, hR⟩ := RDv_ex hv.1 (p := r.1) (x := r.2.1) (s := e) (by omega) (by omega) he
        refine ⟨R, hR, ?_⟩
        rcases g2 with g | ⟨t, d1, d2, a, b, c⟩
        · have := (tin g g3).2
          have := hR.2.2.1
          omega
        · have n1 := tnn r.1 0 t
          have n2 := tnn t r.2.1 e
          have t1 := tin a (by omega)
          have t2 := tin b (by omega)
          have := hR.2.2.2 t t1.1.2.2.1 t1.1.2.2.2 (by omega) (by omega) (by omega)
          omega
      obtain ⟨he, R, hR, hRd⟩ := key
      have hR1 := hR.1
      obtain ⟨z0, z1, z2⟩ := hrel k (List.getElem?_eq_some_iff.mp g1).1 r g1 e he.1 he.2 R hR (by omega)
      obtain ⟨c1, c2, c3⟩ := rl_cases okr ok.2.1.2 ok.1.2
      rw [hT]
      rcases g4 with ⟨n0, rfl, rfl, rfl, rfl, h6⟩ | ⟨n1, rfl, rfl, rfl, rfl, h6⟩ | ⟨n2, ⟨rfl, rfl, rfl, rfl⟩ | ⟨rfl, rfl, rfl, rfl, h6⟩⟩
      · rw [if_pos ⟨by omega, by omega, he⟩]
        have := z0 n0 (by omega)
        omega
      · obtain ⟨-, y2, y3, y4, y5⟩ := (c3.resolve_left (fun h => by have := h.1; omega)).resolve_right (fun h => by have := h.1; omega)
        rw [if_pos ⟨by omega, by omega, he⟩]
        have := z1 n1 (by omega)
        omega
      · obtain ⟨-, y2, y3, y4, y5, y6, y7⟩ := (c3.resolve_left (fun h => by have := h.1; omega)).resolve_left (fun h => by have := h.1; omega)
        rw [if_pos ⟨by omega, by omega, by unfold nodH; omega⟩]
        exact (z2 n2).1
      · obtain ⟨-, y2, y3, y4, y5, y6, y7⟩ := (c3.resolve_left (fun h => by have := h.1; omega)).resolve_left (fun h => by have := h.1; omega)
        have ebl : blR r = r.2.2.2.1 % 10 := by unfold blR; rw [if_pos n2]
        rw [if_pos ⟨by unfold nodH; omega, by omega, he⟩]
        have := (z2 n2).2 (by omega)
        omega
  intro f l s hx
  have aw := arw_ok ok f l s
  have vr := hv.1.at hx
  have tv : T f l s = v (ax f l s) := by rw [hT, if_pos hx]
  rcases Int.lt_or_le (arw y f l s) 1000001 with hl | hl
  · rw [if_neg (by omega)]
    have h1 := low (aw.2.1 hl)
    have h2 := aw.2.2 _ (hv.2 f l s hx (by omega)) (by omega)
    omega
  · have e : arw y f l s = 1000001 := by have := aw.1; omega
    rw [if_pos e]
    rcases vr with g | g
    · exact g
    · have := aw.2.2 _ (hv.2 f l s hx (by omega)) (by omega)
      omega
theorem l_X10_laypass {Post : AV → Mem → Prop} (N : Mem) (y : Sy) (ok : okS y) (hrf : RFs N y) (v0 : Int → Int) (sz : Int) (K : ∀ v C k', ASnd y v → (∀ i, v i ≤ v0 i) → (C → ∃ i, 0 ≤ i ∧ i < 7350 ∧ v i < v0 i) → (¬ C → (∀ i, v i = v0 i) ∧ relA y v0 y.2.2.2.2.length) → V cX10_layMachine RX10 4 none (rmk 3 76) (mE Post) 131 [aR 116, aI sz, aI (bI C), aI k'] [] (sm N 123 v)) :
    ∀ (j k : Nat) (v : Int → Int) (C : Prop), k + j = y.2.2.2.2.length → ASnd y v → (∀ i, v i ≤ v0 i) → (C → ∃ i, 0 ≤ i ∧ i < 7350 ∧ v i < v0 i) → (¬ C → (∀ i, v i = v0 i) ∧ relA y v0 k) →
    V cX10_layMachine RX10 4 none (rmk 3 76) (mE Post) 107 [aR 116, aI sz, aI (bI C), aI k] [] (sm N 123 v) := by
  have hlen := ok.2.2.2.2.1
  intro j
  induction j with
  | zero =>
    intro k v C h1 hv hle hC hnC
    have hk : k = y.2.2.2.2.length := by omega
    subst hk
    have e2 : sm N 123 v 117 2 = (y.2.2.2.2.length : Nat) := by rw [sm_ne _ _ (by decide)]; exact hrf.1
    refine v_iload_n (j := 3) (q := 108) rfl dX10_layMachine_107 rfl ?_
    refine v_aload_n (j := 0) (q := 109) rfl dX10_layMachine_108 rfl ?_
    refine v_getR (p' := 117) (q := 112) dX10_layMachine_109 fl_X10_7 kd_116 rfl (rfc_10_0 kd_116) rfl ?_
    refine v_iconst (q := 113) dX10_layMachine_112 rfl ?_
    refine v_iald (q := 114) dX10_layMachine_113 kd_117 (by omega) (by omega) rfl ?_
    rw [e2]
    refine v_icmp_ge (tgt := 131) (q := 117) dX10_layMachine_114 (by decide) rfl (by omega) (by omega) (fun h114 => ?_) (fun h114 => ?_)
    · exact K v C _ hv hle hC hnC
    · exact absurd h114 (by omega)
  | succ j ih =>
    intro k v C h1 hv hle hC hnC
    have hk : k < y.2.2.2.2.length := by omega
    have e2 : sm N 123 v 117 2 = (y.2.2.2.2.length : Nat) := by rw [sm_ne _ _ (by decide)]; exact hrf.1
    have e23 : sm N 123 v 123 = v := sm_same _ _ _
    obtain ⟨r, hr⟩ : ∃ r, r = y.2.2.2.2[k] := ⟨_, rfl⟩
    have hr2 : y.2.2.2.2[k]? = some r := by rw [hr]; exact List.getElem?_eq_getElem hk
    have rf : RF (sm N 123 v) k r := by unfold RF; rw [sm_ne _ _ (by decide)]; exact hrf.2 k r hr2
    refine v_iload_n (j := 3) (q := 108) rfl dX10_layMachine_107 rfl ?_
    refine v_aload_n (j := 0) (q := 109) rfl dX10_layMachine_108 rfl ?_
    refine v_getR (p' := 117) (q := 112) dX10_layMachine_109 fl_X10_7 kd_116 rfl (rfc_10_0 kd_116) rfl ?_
    refine v_iconst (q := 113) dX10_layMachine_112 rfl ?_
    refine v_iald (q := 114) dX10_layMachine_113 kd_117 (by omega) (by omega) rfl ?_
    rw [e2]
    refine v_icmp_ge (tgt := 131) (q := 117) dX10_layMachine_114 (by decide) rfl (by omega) (by omega) (fun h114 => ?_) (fun h114 => ?_)
    · exact absurd h114 (by omega)
    · refine v_iload_n (j := 2) (q := 118) rfl dX10_layMachine_117 rfl ?_
      refine v_aload_n (j := 0) (q := 119) rfl dX10_layMachine_118 rfl ?_
      refine v_iload_n (j := 3) (q := 120) rfl dX10_layMachine_119 rfl ?_
      refine v_cVI1 (q := 123) dX10_layMachine_120 mlX10_173 mdX10_extend (by decide) kd_116 rfl rfl ⟨Nat.le_refl 0, Nat.le_refl 0⟩ (by exact Nat.le_of_ble_eq_true rfl) rfl (c_X10_extend _ y ok k r hr2 rf (by rw [e23]; exact hv)) ?_
      rintro z m ⟨v', C2, rfl, rfl, q1, q2, q3, q4⟩
      rw [sm_sm]; rw [e23] at q2 q3 q4
      refine v_ior (q := 124) (bI_or _ _) dX10_layMachine_123 rfl ?_
      refine v_ist2 (q := 125) rfl dX10_layMachine_124 (by decide) rfl ?_
      refine v_iinc3 (q := 128) rfl dX10_layMachine_125 (by decide) rfl ?_
      refine v_goto (q := 107) dX10_layMachine_128 (by decide) ?_
      refine ih (k + 1) v' (C ∨ C2) (by omega) q1 (fun i => Int.le_trans (q2 i) (hle i)) (fun h => ?_) (fun h => ?_)
      · rcases h with h | h
        · obtain ⟨i, i0, i1, i2⟩ := hC h
          exact ⟨i, i0, i1, Int.lt_of_le_of_lt (q2 i) i2⟩
        · obtain ⟨i, i0, i1, i2⟩ := q3 h
          exact ⟨i, i0, i1, Int.lt_of_lt_of_le i2 (hle i)⟩
      · have g1 := hnC (fun h9 => h (Or.inl h9))
        have g2 := q4 (fun h9 => h (Or.inr h9))
        refine ⟨fun i => by rw [g2.1 i]; exact g1.1 i, fun k2 hk2 r2 hr9 => ?_⟩
        by_cases e : k2 = k
        · subst e
          rw [hr2] at hr9
          cases hr9
          have ev : v0 = v := funext (fun i => (g1.1 i).symm)
          rw [ev]
          exact g2.2
        · exact g1.2 k2 (by omega) r2 hr9
theorem l_X10_laywhile {Post : AV → Mem → Prop} (N : Mem) (y : Sy) (ok : okS y) (hrf : RFs N y) (sz : Int) (vi : Int → Int) (K : ∀ v, ASnd y v → (∀ i, v i ≤ vi i) → relA y v y.2.2.2.2.length → Post aU (sm N 123 v)) :
    ∀ (n : Nat) (v : Int → Int) (C : Prop) (u : AV), muW v 7350 < n → ASnd y v → (∀ i, v i ≤ vi i) → (¬ C → relA y v y.2.2.2.2.length) →
    V cX10_layMachine RX10 4 none (rmk 3 76) (mE Post) 99 [aR 116, aI sz, aI (bI C), u] [] (sm N 123 v) := by
  intro n
  induction n with
  | zero => exact fun v C u h => absurd h (by omega)
  | succ n ih =>
    intro v C u hn hv hle hC
    refine v_iload_n (j := 2) (q := 100) rfl dX10_layMachine_99 rfl ?_
    refine v_if_eqB (tgt := 134) (q := 103) dX10_layMachine_100 (by decide) rfl (fun h100 => ?_) (fun h100 => ?_)
    · refine v_vret dX10_layMachine_134 ?_
      exact K v hv hle (hC h100)
    · refine v_iconst (q := 104) dX10_layMachine_103 rfl ?_
      refine v_ist2 (q := 105) rfl dX10_layMachine_104 (by decide) rfl ?_
      refine v_iconst (q := 106) dX10_layMachine_105 rfl ?_
      refine v_ist3 (q := 107) rfl dX10_layMachine_106 (by decide) rfl ?_
      have hk := l_X10_laypass (Post := Post) N y ok hrf v sz (fun v2 C2 k' g1 g2 g3 g4 => ?_) y.2.2.2.2.length 0 v False (by omega) hv (fun _ => Int.le_refl _) (fun h => h.elim) (fun _ => ⟨fun _ => rfl, fun k hk => absurd hk (by omega)⟩)
      · rw [← bI_0] at hk
        exact hk
      · by_cases hc : C2
        · obtain ⟨i, i0, i1, i2⟩ := g3 hc
          have hm := muN_lt (N := 7350) g2 g1.nn i0 (by omega) i2 7350 (Nat.le_refl _) (by omega)
          refine v_goto (q := 99) dX10_layMachine_131 (by decide) ?_
          exact ih v2 C2 _ (by omega) g1 (fun i => Int.le_trans (g2 i) (hle i)) (fun h => absurd hc h)
        · have ev : v2 = v := funext (g4 hc).1
          subst ev
          refine v_goto (q := 99) dX10_layMachine_131 (by decide) ?_
          refine v_iload_n (j := 2) (q := 100) rfl dX10_layMachine_99 rfl ?_
          refine v_if_eqB (tgt := 134) (q := 103) dX10_layMachine_100 (by decide) rfl (fun h100 => ?_) (fun h100 => ?_)
          · refine v_vret dX10_layMachine_134 ?_
            exact K v2 hv hle (g4 hc).2
          · exact absurd h100 hc
theorem l_X10_layfill {Post : AV → Mem → Prop} (mem : Mem) (u2 u3 : AV) (K : ∀ v, (∀ i, 0 ≤ i → i < 7350 → v i = FAR) → V cX10_layMachine RX10 4 none (rmk 3 76) (mE Post) 36 [aR 116, aI 7350, u2, u3] [] (sm mem 123 v)) :
    ∀ (j : Nat) (k : Int) (v : Int → Int), k + j = 7350 → 0 ≤ k → (∀ i, 0 ≤ i → i < k → v i = FAR) → V cX10_layMachine RX10 4 none (rmk 3 76) (mE Post) 15 [aR 116, aI k, u2, u3] [] (sm mem 123 v) := by
  intro j
  induction j with
  | zero =>
    intro k v h1 h2 h3
    have hk : k = 7350 := by omega
    subst hk
    refine v_iload_n (j := 1) (q := 16) rfl dX10_layMachine_15 rfl ?_
    refine v_sipush (q := 19) (by decide) dX10_layMachine_16 rfl ?_
    refine v_icmp_ge (tgt := 36) (q := 22) dX10_layMachine_19 (by decide) rfl (by omega) (by omega) (fun h19 => ?_) (fun h19 => ?_)
    · exact K v h3
    · exact absurd h19 (by omega)
  | succ j ih =>
    intro k v h1 h2 h3
    have em : um (sm mem 123 v) 123 k 2000000000 = sm mem 123 (ui v k FAR) := eq_sm (fun p hp => by rw [um_ne _ _ _ hp, sm_ne _ _ hp]) (fun i => by rw [um_same, sm_same]; rfl)
    refine v_iload_n (j := 1) (q := 16) rfl dX10_layMachine_15 rfl ?_
    refine v_sipush (q := 19) (by decide) dX10_layMachine_16 rfl ?_
    refine v_icmp_ge (tgt := 36) (q := 22) dX10_layMachine_19 (by decide) rfl (by omega) (by omega) (fun h19 => ?_) (fun h19 => ?_)
    · exact absurd h19 (by omega)
    · refine v_aload_n (j := 0) (q := 23) rfl dX10_layMachine_22 rfl ?_
      refine v_getR (p' := 123) (q := 26) dX10_layMachine_23 fl_X10_29 kd_116 rfl (rfc_10_12 kd_116) rfl ?_
      refine v_iload_n (j := 1) (q := 27) rfl dX10_layMachine_26 rfl ?_
      refine v_ldc (n := 2000000000) (q := 29) klX10_163 rfl dX10_layMachine_27 rfl ?_
      refine v_iast (q := 30) dX10_layMachine_29 kd_123 (by omega) (by omega) rfl ?_
      refine v_iinc1 (q := 33) rfl dX10_layMachine_30 (by decide) rfl ?_
      refine v_goto (q := 15) dX10_layMachine_33 (by decide) ?_
      rw [em]
      refine ih (k + 1) _ (by omega) (by omega) (fun i i0 i1 => ?_)
      by_cases e : i = k
      · rw [e, ui_same]
      · rw [ui_ne _ _ e]; exact h3 i i0 (by omega)
theorem l_X10_laychain {Post : AV → Mem → Prop} (N : Mem) (y : Sy) (ok : okS y) (h3 : N 117 3 = y.2.2.1) (h4 : N 117 4 = y.2.2.2.1) (hw : R32 y.2.2.2.1) (K : ∀ v k' u3, ASnd y v → stA y v → V cX10_layMachine RX10 4 none (rmk 3 76) (mE Post) 97 [aR 116, aI ((dgs y.2.2.2.1).length : Nat), aI k', u3] [] (sm N 123 v)) :
    ∀ (j k : Nat) (v : Int → Int) (u3 : AV), k + j = (dgs y.2.2.2.1).length → ASnd y v → (∀ i : Nat, i < k → v (ax (if i = 0 then y.2.2.1 else 30 + (i : Int)) ((dgs y.2.2.2.1).getD i 0) (31 + (i : Int))) ≤ 0) → V cX10_layMachine RX10 4 none (rmk 3 76) (mE Post) 48 [aR 116, aI ((dgs y.2.2.2.1).length : Nat), aI k, u3] [] (sm N 123 v) := by
  have hl4 := ok.st.2
  have hS := ok.1
  have hG := ok.2.1
  have hst := ok.2.2.1
  intro j
  induction j with
  | zero =>
    intro k v u3 g1 g2 g3
    have hk : k = (dgs y.2.2.2.1).length := by omega
    subst hk
    refine v_iload_n (j := 2) (q := 49) rfl dX10_layMachine_48 rfl ?_
    refine v_iload_n (j := 1) (q := 50) rfl dX10_layMachine_49 rfl ?_
    refine v_icmp_ge (tgt := 97) (q := 53) dX10_layMachine_50 (by decide) rfl (by omega) (by omega) (fun h50 => ?_) (fun h50 => ?_)
    · exact K v _ _ g2 g3
    · exact absurd h50 (by omega)
  | succ j ih =>
    intro k v u3 g1 g2 g3
    have e3 : sm N 123 v 117 3 = y.2.2.1 := by rw [sm_ne _ _ (by decide)]; exact h3
    have e4 : sm N 123 v 117 4 = y.2.2.2.1 := by rw [sm_ne _ _ (by decide)]; exact h4
    have e23 : sm N 123 v 123 = v := sm_same _ _ _
    have hs := getD_sym ok (i := k) (by omega)
    obtain ⟨f, hf⟩ : ∃ f, f = (if k = 0 then y.2.2.1 else 30 + (k : Int)) := ⟨_, rfl⟩
    have x1 : inX f ((dgs y.2.2.2.1).getD k 0) (31 + (k : Int)) := by
      refine ⟨?_, by omega, by omega⟩
      rw [hf]
      split <;> omega
    have ad : AD y f ((dgs y.2.2.2.1).getD k 0) (31 + (k : Int)) 0 := AD.base ⟨k, by omega, hf, rfl, rfl, rfl⟩
    have go : ∀ u3, V cX10_layMachine RX10 4 none (rmk 3 76) (mE Post) 71 [aR 116, aI ((dgs y.2.2.2.1).length : Nat), aI k, u3] [aI f, aR 116] (sm N 123 v) := fun u3 => by
      refine v_aload_n (j := 0) (q := 72) rfl dX10_layMachine_71 rfl ?_
      refine v_getR (p' := 117) (q := 75) dX10_layMachine_72 fl_X10_7 kd_116 rfl (rfc_10_0 kd_116) rfl ?_
      refine v_iconst (q := 76) dX10_layMachine_75 rfl ?_
      refine v_iald (q := 77) dX10_layMachine_76 kd_117 (by omega) (by omega) rfl ?_
      rw [e4]
      refine v_iload_n (j := 1) (q := 78) rfl dX10_layMachine_77 rfl ?_
      refine v_iload_n (j := 2) (q := 79) rfl dX10_layMachine_78 rfl ?_
      refine v_cSI3 (q := 82) dX10_layMachine_79 mlX10_107 mdX10_symbolOf (by decide) ⟨Nat.le_refl 0, Nat.le_refl 0⟩ (by exact Nat.le_of_ble_eq_true rfl) rfl (c_X10_symbolOf y.2.2.2.1 k _ hw (by omega) (by omega)) ?_
      rintro _ _ ⟨rfl, rfl⟩
      refine v_bipush (q := 84) (by decide) dX10_layMachine_82 rfl ?_
      refine v_iload_n (j := 2) (q := 85) rfl dX10_layMachine_84 rfl ?_
      refine v_iadd (q := 86) dX10_layMachine_85 rfl ?_
      refine v_iconst (q := 87) dX10_layMachine_86 rfl ?_
      refine v_cVI4 (q := 90) dX10_layMachine_87 mlX10_167 mdX10_lessen (by decide) kd_116 rfl rfl ⟨Nat.le_refl 0, Nat.le_refl 0⟩ (by exact Nat.le_of_ble_eq_true rfl) rfl (c_X10_lessen f ((dgs y.2.2.2.1).getD k 0) (31 + (k : Int)) 0 _ x1 (by omega) (by rw [e23]; exact g2.1)) ?_
      rw [e23, sm_sm]
      rintro _ m9 ⟨C9, rfl, i1, i2, i3⟩
      obtain ⟨v1, hv1, s1, l1, t1, z1⟩ := (ext_les g2 x1 ad (by omega) i1 i2 i3)
      subst hv1
      refine v_ist3 (q := 91) rfl dX10_layMachine_90 (by decide) rfl ?_
      refine v_iinc2 (q := 94) rfl dX10_layMachine_91 (by decide) rfl ?_
      refine v_goto (q := 48) dX10_layMachine_94 (by decide) ?_
      refine ih (k + 1) v1 _ (by omega) s1 (fun i hi => ?_)
      by_cases e : i = k
      · subst e
        rw [← hf]
        by_cases hc : C9
        · have := i2 hc
          have hq := congrFun (congrFun this 123) (ax f ((dgs y.2.2.2.1).getD i 0) (31 + (i : Int)))
          rw [sm_same, sm_same, ui_same] at hq
          omega
        · have := z1 hc
          rw [this.1]
          exact this.2 (by omega)
      · exact Int.le_trans (l1 _) (g3 i (by omega))
    refine v_iload_n (j := 2) (q := 49) rfl dX10_layMachine_48 rfl ?_
    refine v_iload_n (j := 1) (q := 50) rfl dX10_layMachine_49 rfl ?_
    refine v_icmp_ge (tgt := 97) (q := 53) dX10_layMachine_50 (by decide) rfl (by omega) (by omega) (fun h50 => ?_) (fun h50 => ?_)
    · exact absurd h50 (by omega)
    · refine v_aload_n (j := 0) (q := 54) rfl dX10_layMachine_53 rfl ?_
      refine v_iload_n (j := 2) (q := 55) rfl dX10_layMachine_54 rfl ?_
      refine v_if_ne (tgt := 67) (q := 58) dX10_layMachine_55 (by decide) rfl (by omega) (fun h55 => ?_) (fun h55 => ?_)
      · refine v_bipush (q := 69) (by decide) dX10_layMachine_67 rfl ?_
        refine v_iload_n (j := 2) (q := 70) rfl dX10_layMachine_69 rfl ?_
        refine v_iadd (q := 71) dX10_layMachine_70 rfl ?_
        first
          | (have e0 : f = y.2.2.1 := by rw [hf, if_pos (by omega)]
             rw [← e0]
             exact go _)
          | (have e0 : f = 30 + (k : Int) := by rw [hf, if_neg (by omega)]
             rw [← e0]
             exact go _)
      · refine v_aload_n (j := 0) (q := 59) rfl dX10_layMachine_58 rfl ?_
        refine v_getR (p' := 117) (q := 62) dX10_layMachine_59 fl_X10_7 kd_116 rfl (rfc_10_0 kd_116) rfl ?_
        refine v_iconst (q := 63) dX10_layMachine_62 rfl ?_
        refine v_iald (q := 64) dX10_layMachine_63 kd_117 (by omega) (by omega) rfl ?_
        rw [e3]
        refine v_goto (q := 71) dX10_layMachine_64 (by decide) ?_
        first
          | (have e0 : f = y.2.2.1 := by rw [hf, if_pos (by omega)]
             rw [← e0]
             exact go _)
          | (have e0 : f = 30 + (k : Int) := by rw [hf, if_neg (by omega)]
             rw [← e0]
             exact go _)
def layQ (y : Sy) (mem m : Mem) : Prop := (∀ p, p ≠ 116 → p ≠ 123 → m p = mem p) ∧ (∀ j, j ≠ 3 → m 116 j = mem 116 j) ∧ m 116 3 = 1 ∧ LOK (m 123) y
theorem c_X10_layMachine (mem : Mem) (y : Sy) (hS : SM (mem 117) 0 y) (h : mem 116 3 = 0 ∨ (mem 116 3 = 1 ∧ LOK (mem 123) y)) : CtrV mX10_layMachine [aR 116] mem (layQ y mem) := by
  have ok := hS.2.2.1
  have hF := FAR_def
  have f := hS.facts
  have h01 : mem 116 3 = 0 ∨ mem 116 3 = 1 := h.elim Or.inl (fun g => Or.inr g.1)
  have hdl := dgs_len y.2.2.2.1
  obtain ⟨N, hN⟩ : ∃ N, N = um mem 116 3 1 := ⟨_, rfl⟩
  have no : ∀ p, p ≠ 116 → N p = mem p := fun p hp => by rw [hN, um_ne _ _ _ hp]
  have n17 := no 117 (by decide)
  have hw : R32 y.2.2.2.1 := by rw [f.2.2.2.2.2.2.2.2.2.1]; omega
  have hq4 : N 117 4 = y.2.2.2.1 := by rw [n17]; exact f.2.2.2.2.2.2.2.2.2.1.symm
  have hq3 : N 117 3 = y.2.2.1 := by rw [n17]; exact f.2.2.2.2.2.2.2.2.1.symm
  have hrf : RFs N y := by
    have r := hS.RFs
    refine ⟨by rw [n17]; exact r.1, fun k r9 hr => ?_⟩
    unfold RF
    rw [n17]
    exact r.2 k r9 hr
  refine Ctr.ofV (ls := [aR 116, aU, aU, aU]) rfl (by decide) rfl (Nat.le_of_ble_eq_true rfl) ?_
  refine v_aload_n (j := 0) (q := 1) rfl dX10_layMachine_0 rfl ?_
  refine v_getI (j := 3) (q := 4) dX10_layMachine_1 fl_X10_56 kd_116 rfl rfl rfl ?_
  refine v_if_eq (tgt := 8) (q := 7) dX10_layMachine_4 (by decide) rfl (by omega) (fun h4 => ?_) (fun h4 => ?_)
  · refine v_aload_n (j := 0) (q := 9) rfl dX10_layMachine_8 rfl ?_
    refine v_iconst (q := 10) dX10_layMachine_9 rfl ?_
    refine v_putZ (j := 3) (q := 13) (by first | exact Or.inl rfl | exact Or.inr rfl | exact bI_01 _ | omega) dX10_layMachine_10 fl_X10_56 kd_116 rfl rfl rfl ?_
    rw [← hN]
    refine v_iconst (q := 14) dX10_layMachine_13 rfl ?_
    refine v_ist1 (q := 15) rfl dX10_layMachine_14 (by decide) rfl ?_
    have hk := l_X10_layfill (Post := (fun r m => r = aU ∧ layQ y mem m)) N aU aU (fun v hv => ?_) 7350 0 (N 123) (by omega) (by omega) (fun i i0 i1 => by omega)
    · rw [sm_id N 123 (fun _ => rfl)] at hk
      exact hk
    · have s0 : ASnd y v := ⟨fun i i0 i1 => Or.inl (hv i i0 i1), fun f l s hx hl => by
        have := hv _ (ax_rng hx).1 (ax_rng hx).2
        omega⟩
      have e4 : sm N 123 v 117 4 = y.2.2.2.1 := by rw [sm_ne _ _ (by decide)]; exact hq4
      refine v_aload_n (j := 0) (q := 37) rfl dX10_layMachine_36 rfl ?_
      refine v_getR (p' := 117) (q := 40) dX10_layMachine_37 fl_X10_7 kd_116 rfl (rfc_10_0 kd_116) rfl ?_
      refine v_iconst (q := 41) dX10_layMachine_40 rfl ?_
      refine v_iald (q := 42) dX10_layMachine_41 kd_117 (by omega) (by omega) rfl ?_
      rw [e4]
      refine v_cSI1 (q := 45) dX10_layMachine_42 mlX10_48 mdX10_sizeOf (by decide) ⟨Nat.le_refl 0, Nat.le_refl 0⟩ (by exact Nat.le_of_ble_eq_true rfl) rfl (c_X10_sizeOf y.2.2.2.1 _ hw) ?_
      rw [← hdl]
      rintro _ _ ⟨rfl, rfl⟩
      refine v_ist1 (q := 46) rfl dX10_layMachine_45 (by decide) rfl ?_
      refine v_iconst (q := 47) dX10_layMachine_46 rfl ?_
      refine v_ist2 (q := 48) rfl dX10_layMachine_47 (by decide) rfl ?_
      refine l_X10_laychain (Post := (fun r m => r = aU ∧ layQ y mem m)) N y ok hq3 hq4 hw (fun v2 k' u3 g1 g2 => ?_) (dgs y.2.2.2.1).length 0 v _ (by omega) s0 (fun i hi => absurd hi (by omega))
      refine v_iconst (q := 98) dX10_layMachine_97 rfl ?_
      refine v_ist2 (q := 99) rfl dX10_layMachine_98 (by decide) rfl ?_
      have hk := l_X10_laywhile (Post := (fun r m => r = aU ∧ layQ y mem m)) N y ok hrf ((dgs y.2.2.2.1).length : Nat) v2 (fun v3 k1 k2 k3 => ?_) (muW v2 7350 + 1) v2 True u3 (by omega) g1 (fun _ => Int.le_refl _) (fun h => absurd trivial h)
      · rw [← bI_1] at hk
        exact hk
      · refine ⟨rfl, fun p h1 h2 => by rw [sm_ne _ _ h2, no p h1], fun j hj => by rw [sm_ne _ _ (by decide), hN, um_same, ui_ne _ _ hj], by rw [sm_ne _ _ (by decide), hN, um_same, ui_same], ?_⟩
        rw [sm_same]
        exact LOK_of ok k1 k3 (fun i hi => Int.le_trans (k2 _) (g2 i hi))
  · refine v_vret dX10_layMachine_7 ?_
    exact ⟨rfl, fun _ _ _ => rfl, fun _ _ => rfl, by omega, (h.resolve_left (by omega)).2⟩
