/-! ===== Machine: ways to the final node ===== -/
def PTH (y : Sy) : List Int → Int → Int → Int → Prop
  | [], s, e, W => s = e ∧ W = 0
  | l :: u, s, e, W => ∃ t w, AD y s l t w ∧ PTH y u t e (W - w)
def finN (y : Sy) : Int := 30 + (dgs y.2.2.2.1).length
def potN (y : Sy) (s : Int) : Int := if s < 31 then 3 else finN y - s
theorem isN_rng {y : Sy} (ok : okS y) {s : Int} (h : isHn y s ∨ isCh y s) : 10 ≤ s ∧ s ≤ finN y ∧ 0 ≤ potN y s ∧ potN y s ≤ 3 ∧ s < 35 := by
  have hl := ok.st.2
  have hS := ok.1
  have hG := ok.2.1
  have h1 := ok.2.2.2.1.2.1
  have h2 := dgs_len y.2.2.2.1
  unfold potN finN
  rcases h with ⟨q, x, a, b, c⟩ | ⟨a, b⟩
  · unfold nodH at c
    rw [if_pos (by omega)]
    omega
  · rw [if_neg (by omega)]
    omega
theorem PTH.len {y : Sy} (ok : okS y) : ∀ {u : List Int} {s W : Int}, (isHn y s ∨ isCh y s) → PTH y u s (finN y) W → 0 ≤ W ∧ (u.length : Int) ≤ W + potN y s
  | [], s, W, hs, ⟨a, b⟩ => by
    have := isN_rng ok hs
    exact ⟨by omega, by rw [List.length_nil]; omega⟩
  | l :: u, s, W, hs, ⟨t, w, a, b⟩ => by
    obtain ⟨k1, k2, k3⟩ := a.ok ok
    have ih := PTH.len ok k2 b
    have r1 := isN_rng ok hs
    have r2 := isN_rng ok k2
    have hl := ok.st.2
    rw [List.length_cons]
    rcases k3 with ⟨g, -⟩ | ⟨⟨q, x, g1, g2, g3⟩, g4, g5⟩ | ⟨g1, g2, g3, g4, g5, g6⟩
    · have := ok.1; omega
    · have e : potN y s = 3 := by
        unfold potN
        unfold nodH at g3
        have := ok.1
        have := ok.2.1
        rw [if_pos (by omega)]
      omega
    · have e : potN y s = potN y t + 1 := by
        unfold potN
        rw [if_neg (by omega), if_neg (by omega)]
        omega
      omega
theorem isN_E {y : Sy} (ok : okS y) {t : Int} (h : isHn y t ∨ isCh y t) : ∃ e : Nat, e < 24 ∧ nodE e = t := by
  have hl := ok.st.2
  have hS := ok.1
  have hG := ok.2.1
  rcases h with ⟨q, x, a, b, c⟩ | ⟨a, b⟩
  · unfold nodH at c
    refine ⟨(5 * q + x - 1).toNat, by omega, ?_⟩
    unfold nodE
    rw [if_pos (by omega)]
    omega
  · refine ⟨(t - 11).toNat, by omega, ?_⟩
    unfold nodE
    rw [if_neg (by omega)]
    omega
def HWy (y : Sy) (e c : Int) : Prop := ∃ u W, PTH y u (nodE e) (finN y) W ∧ c = W * 16777216 + (u.length : Int)
theorem PTH.node {y : Sy} (ok : okS y) {u : List Int} {s W : Int} (hs : 10 ≤ s) (h : PTH y u s (finN y) W) : isHn y s ∨ isCh y s := by
  have h1 := ok.2.2.2.1.2.1
  have h2 := dgs_len y.2.2.2.1
  cases u with
  | nil =>
    have e : s = finN y := h.1
    refine Or.inr ⟨?_, ?_⟩
    · unfold finN at e; omega
    · unfold finN at e; omega
  | cons l u =>
    obtain ⟨t, w, a, b⟩ := h
    have hS := ok.1
    rcases (a.ok ok).2.2 with ⟨g, -⟩ | ⟨g1, -⟩ | ⟨g1, g2, g3, -⟩
    · omega
    · exact Or.inl g1
    · exact Or.inr ⟨g1, by omega⟩
theorem nodE_ge {e : Int} (h : 0 ≤ e) : 10 ≤ nodE e := by unfold nodE; split <;> omega
theorem HWy.nn {y : Sy} (ok : okS y) {e c : Int} (he : 0 ≤ e) (h : HWy y e c) : 0 ≤ c ∧ (c < NO → ∃ u, PTH y u (nodE e) (finN y) (c / 16777216) ∧ (u.length : Int) = c % 16777216) := by
  have hNO := NO_def
  obtain ⟨u, W, a, b⟩ := h
  have n := PTH.node ok (nodE_ge he) a
  have l := PTH.len ok n a
  have r := isN_rng ok n
  refine ⟨by omega, fun hc => ⟨u, ?_, by omega⟩⟩
  rw [show c / 16777216 = W by omega]
  exact a
def HSnd (y : Sy) (v : Int → Int) : Prop := ∀ i, 0 ≤ i → i < 24 → 0 ≤ v i ∧ v i ≤ NO ∧ (v i < NO → HWy y i (v i))
noncomputable def muH (y : Sy) (i : Nat) : Int := by
  classical
  exact if h : ∃ v, TMn NO (HWy y i) v then Classical.choose h else NO
theorem muH_ok {y : Sy} (ok : okS y) (i : Nat) : TMn NO (HWy y i) (muH y i) := by
  have h : ∃ v, TMn NO (HWy y i) v := TMn.ex (fun c hc => (HWy.nn ok (by omega) hc).1) (by unfold NO; omega)
  unfold muH
  rw [dif_pos h]
  exact Classical.choose_spec h
/-- an arc of the table, and what it asks of a row of ways -/
def rlH (w v v' : Int → Int) (j : Nat) : Prop := 4 ≤ (j : Int) / 144 → v' ((j : Int) / 144 - 4) ≤ w j * 16777216 + 1 + v ((j : Int) % 24)
theorem nodS4 {f : Int} (h : 4 ≤ f) : nodS f = nodE (f - 4) := nodE_sub h
theorem HWy.arc {y : Sy} (ok : okS y) {w : Int → Int} (ht : tabOK y w) {j : Nat} (hj : j < 4032) (hp : w j ≠ -6) (h4 : 4 ≤ (j : Int) / 144) {c : Int} (hc : HWy y ((j : Int) % 24) c) : HWy y ((j : Int) / 144 - 4) (w j * 16777216 + 1 + c) := by
  have t := ht ((j : Int) / 144) ((j : Int) / 24 % 6) ((j : Int) % 24) ⟨by omega, by omega⟩ (by omega) (by omega)
  rw [show wx ((j : Int) / 144) ((j : Int) / 24 % 6) ((j : Int) % 24) = j by unfold wx; omega] at t
  have aw := arw_ok ok (nodS ((j : Int) / 144)) ((j : Int) / 24 % 6) (nodE ((j : Int) % 24))
  by_cases g : arw y (nodS ((j : Int) / 144)) ((j : Int) / 24 % 6) (nodE ((j : Int) % 24)) = 1000001
  · rw [if_pos g] at t; exact absurd t hp
  · rw [if_neg g, nodS4 h4] at t
    rw [nodS4 h4] at aw g
    have ad := aw.2.1 (by have := aw.1; omega)
    obtain ⟨u, W, a, b⟩ := hc
    refine ⟨(j : Int) / 24 % 6 :: u, w j + W, ⟨_, _, ad, ?_⟩, by rw [List.length_cons]; omega⟩
    rw [← t, show w j + W - w j = W by omega]
    exact a
theorem rndH {y : Sy} (ok : okS y) {w v v' : Int → Int} (ht : tabOK y w) (hv : HSnd y v) (hv' : HSnd y v') (hle : ∀ i, v' i ≤ v i) (hl : v (19 + ((dgs y.2.2.2.1).length : Int)) ≤ 0) (hr : ∀ j : Nat, j < 4032 → w j ≠ -6 → rlH w v v' j) : rndOK NO (muH y) (fun i => v i) (fun i => v' i) 24 := by
  have hNO := NO_def
  intro i hi
  have mi := muH_ok ok i
  obtain ⟨a1, a2, a3⟩ := hv' i (by omega) (by omega)
  refine ⟨⟨?_, hle i, (hv i (by omega) (by omega)).2.1⟩, fun hm hp => ?_⟩
  · rcases Int.lt_or_le (v' i) NO with hl | hl
    · exact mi.2.2 _ (a3 hl) hl
    · exact Int.le_trans mi.1 hl
  · show v' i ≤ muH y i
    obtain ⟨u, W, b1, b3⟩ := mi.2.1 hm
    have hn := PTH.node ok (nodE_ge (by omega)) b1
    cases u with
    | nil =>
      have e1 : nodE i = finN y := b1.1
      have l1 := ok.2.2.2.1.2.1
      have l2 := dgs_len y.2.2.2.1
      have l3 := ok.st.2
      have e2 : (i : Int) = 19 + ((dgs y.2.2.2.1).length : Int) := by
        unfold nodE finN at e1
        split at e1 <;> omega
      have := hle i
      rw [← e2] at hl
      have e3 : W = 0 := b1.2
      have e4 : (([] : List Int).length : Int) = 0 := rfl
      omega
    | cons l u =>
      obtain ⟨t, z, ad, pt⟩ := b1
      obtain ⟨k1, k2, k3⟩ := ad.ok ok
      obtain ⟨e, he, het⟩ := isN_E ok k2
      subst het
      have hG := ok.2.1
      have hl6 : 1 ≤ l ∧ l ≤ 5 := by
        rcases k3 with ⟨g, -⟩ | ⟨-, g4, -⟩ | ⟨-, -, -, -, g5, -⟩
        · have := ok.1
          have := nodE_ge (e := (i : Int)) (by omega)
          omega
        · omega
        · omega
      have l9 : ((l :: u).length : Int) = u.length + 1 := by rw [List.length_cons]; omega
      have hpe : HWy y e ((W - z) * 16777216 + (u.length : Int)) := ⟨u, W - z, pt, rfl⟩
      have me := muH_ok ok e
      have m1 := me.2.2 _ hpe (by omega)
      have ve : v (e : Int) = muH y e := hp e (by omega) (by omega)
      -- the arc in the table
      obtain ⟨j, hj⟩ : ∃ j : Nat, (j : Int) = wx ((i : Int) + 4) l e := ⟨(wx ((i : Int) + 4) l e).toNat, by unfold wx; omega⟩
      have hj2 := hj
      unfold wx at hj2
      have tb := ht ((i : Int) + 4) l e ⟨by omega, by omega⟩ (by omega) (by omega)
      rw [← hj, nodS4 (by omega), show (i : Int) + 4 - 4 = i by omega] at tb
      have aw := arw_ok ok (nodE i) l (nodE e)
      have aw2 := aw.2.2 _ ad (by omega)
      have ar := arw_rng ok (nodE i) l (nodE e)
      rw [if_neg (by omega)] at tb
      have := hr j (by omega) (by omega) (by omega)
      rw [show (j : Int) / 144 - 4 = i by omega, show (j : Int) % 24 = e by omega] at this
      omega
/-- the k-th arc of the list is at j in the table -/
def arcK (m : Mem) (k : Int) (j : Nat) : Prop := (0 ≤ k ∧ k < 504) ∧ j < 4032 ∧ m 113 k = (j : Int) / 144 ∧ m 114 k = (j : Int) / 24 % 6 ∧ m 115 k = (j : Int) % 24 ∧ m 84 j ≠ -6
theorem LSi.at {m : Mem} {w : Int → Int} (h : LSi w m 4032) (hw : m 84 = w) (hcap : cP (fun i => w i ≠ -6) 4032 ≤ 504) {k : Int} (k0 : 0 ≤ k) (k1 : k < m 83 1) : ∃ j : Nat, arcK m k j ∧ cP (fun i => w i ≠ -6) j = k := by
  rw [h.1] at k1
  obtain ⟨j, j1, j2, j3⟩ := cP_at k0 k1
  have g := h.2 j j1 j2
  rw [j3] at g
  exact ⟨j, ⟨⟨k0, by omega⟩, j1, g.1, g.2.1, g.2.2, by rw [hw]; exact j2⟩, j3⟩
theorem c_X1_weightOfArc (k : Int) (j : Nat) (mem : Mem) (h : arcK mem k j) : CtrI mX1_weightOfArc [aR 83, aI k] mem (fun z m => mem = m ∧ mem 84 j = z) := by
  obtain ⟨h1, h2, h3, h4, h5, h6⟩ := h
  refine Ctr.ofV (ls := [aR 83, aI k]) rfl (by decide) rfl (Nat.le_of_ble_eq_true rfl) ?_
  refine v_aload_n (j := 0) (q := 1) rfl dX1_weightOfArc_0 rfl ?_
  refine v_aload_n (j := 0) (q := 2) rfl dX1_weightOfArc_1 rfl ?_
  refine v_getR (p' := 113) (q := 5) dX1_weightOfArc_2 fl_X1_42 kd_83 rfl (rfc_1_10 kd_83) rfl ?_
  refine v_iload_n (j := 1) (q := 6) rfl dX1_weightOfArc_5 rfl ?_
  refine v_iald (q := 7) dX1_weightOfArc_6 kd_113 (by omega) (by omega) rfl ?_
  rw [h3]
  refine v_aload_n (j := 0) (q := 8) rfl dX1_weightOfArc_7 rfl ?_
  refine v_getR (p' := 114) (q := 11) dX1_weightOfArc_8 fl_X1_45 kd_83 rfl (rfc_1_11 kd_83) rfl ?_
  refine v_iload_n (j := 1) (q := 12) rfl dX1_weightOfArc_11 rfl ?_
  refine v_iald (q := 13) dX1_weightOfArc_12 kd_114 (by omega) (by omega) rfl ?_
  rw [h4]
  refine v_aload_n (j := 0) (q := 14) rfl dX1_weightOfArc_13 rfl ?_
  refine v_getR (p' := 115) (q := 17) dX1_weightOfArc_14 fl_X1_48 kd_83 rfl (rfc_1_12 kd_83) rfl ?_
  refine v_iload_n (j := 1) (q := 18) rfl dX1_weightOfArc_17 rfl ?_
  refine v_iald (q := 19) dX1_weightOfArc_18 kd_115 (by omega) (by omega) rfl ?_
  rw [h5]
  refine v_cVI3 (q := 22) dX1_weightOfArc_19 mlX1_118 mdX1_weightAt (by decide) kd_83 rfl rfl ⟨Nat.le_refl 0, Nat.le_refl 0⟩ (by exact Nat.le_of_ble_eq_true rfl) rfl (c_X1_weightAt _ _ _ mem (by omega) (by omega) (by omega)) ?_
  rw [show wx ((j : Int) / 144) ((j : Int) / 24 % 6) ((j : Int) % 24) = j by unfold wx; omega]
  rintro _ _ ⟨rfl, rfl⟩
  refine v_iret dX1_weightOfArc_22 ?_
  exact ⟨_, rfl, rfl, rfl⟩
theorem c_X1_costOverArc (k : Int) (j : Nat) (mem : Mem) (h : arcK mem k j) (hw : TWr (mem 84)) : CtrL mX1_costOverArc [aR 83, aI k] mem (fun z m => mem = m ∧ mem 84 j * 16777216 + 1 + mem 110 ((j : Int) % 24) = z) := by
  obtain ⟨h1, h2, h3, h4, h5, h6⟩ := id h
  have w := hw j (by omega) (by omega)
  refine Ctr.ofV (ls := [aR 83, aI k]) rfl (by decide) rfl (Nat.le_of_ble_eq_true rfl) ?_
  refine v_aload_n (j := 0) (q := 1) rfl dX1_costOverArc_0 rfl ?_
  refine v_iload_n (j := 1) (q := 2) rfl dX1_costOverArc_1 rfl ?_
  refine v_cVI1 (q := 5) dX1_costOverArc_2 mlX1_166 mdX1_weightOfArc (by decide) kd_83 rfl rfl ⟨Nat.le_refl 0, Nat.le_refl 0⟩ (by exact Nat.le_of_ble_eq_true rfl) rfl (c_X1_weightOfArc k j mem h) ?_
  rintro _ _ ⟨rfl, rfl⟩
  refine v_cSNL1 (q := 8) dX1_costOverArc_5 mlX1_122 mdX9_costOfWeight (by decide) ⟨Nat.le_refl 0, Nat.le_refl 0⟩ (by exact Nat.le_of_ble_eq_true rfl) rfl (c_X9_costOfWeight _ mem (by omega)) ?_
  rintro _ _ ⟨rfl, rfl⟩
  refine v_lconst1 (q := 9) dX1_costOverArc_8 rfl ?_
  refine v_ladd (q := 10) dX1_costOverArc_9 rfl ?_
  refine v_aload_n (j := 0) (q := 11) rfl dX1_costOverArc_10 rfl ?_
  refine v_getR (p' := 110) (q := 14) dX1_costOverArc_11 fl_X1_28 kd_83 rfl (rfc_1_6 kd_83) rfl ?_
  refine v_aload_n (j := 0) (q := 15) rfl dX1_costOverArc_14 rfl ?_
  refine v_getR (p' := 115) (q := 18) dX1_costOverArc_15 fl_X1_48 kd_83 rfl (rfc_1_12 kd_83) rfl ?_
  refine v_iload_n (j := 1) (q := 19) rfl dX1_costOverArc_18 rfl ?_
  refine v_iald (q := 20) dX1_costOverArc_19 kd_115 (by omega) (by omega) rfl ?_
  rw [h5]
  refine v_lald (q := 21) dX1_costOverArc_20 kd_110 (by omega) (by omega) rfl ?_
  refine v_ladd (q := 22) dX1_costOverArc_21 rfl ?_
  refine v_lret dX1_costOverArc_22 ?_
  exact ⟨_, rfl, rfl, rfl⟩
