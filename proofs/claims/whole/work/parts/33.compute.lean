/-! ===== Summary.compute: the prices are the least costs of removing ===== -/
theorem c_X5_lowerPricesBy (b : Nat) (hb : isSum b) (mem : Mem) (y : Sy) (ex k : Int) (kk : Nat) (r : Rl) (hkk : (kk : Int) = k) (hr : y.2.2.2.2[kk]? = some r) (hex : k ≠ ex) (hk20 : k < 20) (ok : okS y) (okr : okR y.1 y.2.1 r) (h29 : mem 29 0 = y.1) (hpl : PLk mem k r) (hv : SndP y.2.2.2.2 ex (mem (b + 1))) : CtrI mX5_lowerPricesBy [aR b, aI k] mem (byQ y.2.2.2.2 ex y.1 b r mem) := by
  have hNO := NO_def
  obtain ⟨c1, c2, c3⟩ := rl_cases okr ok.2.1.2 ok.1.2
  have hS := ok.1
  have hG := ok.2.1
  obtain ⟨p32, p33, p34, p35, p36, p37⟩ := id hpl
  have p37 : mem 37 k = cr BB r := p37
  obtain ⟨q0, q1⟩ := okr.2.2.1
  have hn2 := okr.2.2.2.1.2
  have hn0 := nd_nn r.2.2.2.1
  have hx := okr.2.1
  have hp := okr.1
  have hvq := hv (hdR r * 4 + r.2.2.1)
  refine Ctr.ofV (ls := [aR b, aI k, aU, aU, aU, aU, aU, aU, aU]) rfl (by decide) rfl (Nat.le_of_ble_eq_true rfl) ?_
  refine v_aload_n (j := 0) (q := 1) rfl dX5_lowerPricesBy_0 rfl ?_
  refine v_getR (p' := 29) (q := 4) dX5_lowerPricesBy_1 fl_X5_19 (sum1 hb) rfl (rfc_5_1 (sum1 hb)) rfl ?_
  refine v_getR (p' := 32) (q := 7) dX5_lowerPricesBy_4 fl_X5_40 kd_29 rfl (rfc_2_4 kd_29) rfl ?_
  refine v_iload_n (j := 1) (q := 8) rfl dX5_lowerPricesBy_7 rfl ?_
  refine v_iald (q := 9) dX5_lowerPricesBy_8 kd_32 (by omega) (by omega) rfl ?_
  rw [p32]
  refine v_iconst (q := 10) dX5_lowerPricesBy_9 rfl ?_
  refine v_imul (q := 11) dX5_lowerPricesBy_10 rfl ?_
  refine v_ist2 (q := 12) rfl dX5_lowerPricesBy_11 (by decide) rfl ?_
  refine v_aload_n (j := 0) (q := 13) rfl dX5_lowerPricesBy_12 rfl ?_
  refine v_getR (p' := 29) (q := 16) dX5_lowerPricesBy_13 fl_X5_19 (sum1 hb) rfl (rfc_5_1 (sum1 hb)) rfl ?_
  refine v_getR (p' := 37) (q := 19) dX5_lowerPricesBy_16 fl_X5_44 kd_29 rfl (rfc_2_9 kd_29) rfl ?_
  refine v_iload_n (j := 1) (q := 20) rfl dX5_lowerPricesBy_19 rfl ?_
  refine v_lald (q := 21) dX5_lowerPricesBy_20 kd_37 (by omega) (by omega) rfl ?_
  rw [p37]
  refine v_lst3 (q := 22) rfl dX5_lowerPricesBy_21 (by decide) rfl ?_
  refine v_aload_n (j := 0) (q := 23) rfl dX5_lowerPricesBy_22 rfl ?_
  refine v_getR (p' := 29) (q := 26) dX5_lowerPricesBy_23 fl_X5_19 (sum1 hb) rfl (rfc_5_1 (sum1 hb)) rfl ?_
  refine v_getR (p' := 34) (q := 29) dX5_lowerPricesBy_26 fl_X5_47 kd_29 rfl (rfc_2_6 kd_29) rfl ?_
  refine v_iload_n (j := 1) (q := 30) rfl dX5_lowerPricesBy_29 rfl ?_
  refine v_iald (q := 31) dX5_lowerPricesBy_30 kd_34 (by omega) (by omega) rfl ?_
  rw [p34]
  refine v_if_ne (tgt := 54) (q := 34) dX5_lowerPricesBy_31 (by decide) rfl (by omega) (fun h31 => ?_) (fun h31 => ?_)
  · refine v_aload_n (j := 0) (q := 55) rfl dX5_lowerPricesBy_54 rfl ?_
    refine v_getR (p' := 29) (q := 58) dX5_lowerPricesBy_55 fl_X5_19 (sum1 hb) rfl (rfc_5_1 (sum1 hb)) rfl ?_
    refine v_getR (p' := 34) (q := 61) dX5_lowerPricesBy_58 fl_X5_47 kd_29 rfl (rfc_2_6 kd_29) rfl ?_
    refine v_iload_n (j := 1) (q := 62) rfl dX5_lowerPricesBy_61 rfl ?_
    refine v_iald (q := 63) dX5_lowerPricesBy_62 kd_34 (by omega) (by omega) rfl ?_
    rw [p34]
    refine v_iconst (q := 64) dX5_lowerPricesBy_63 rfl ?_
    refine v_icmp_ne (tgt := 83) (q := 67) dX5_lowerPricesBy_64 (by decide) rfl (by omega) (by omega) (fun h64 => ?_) (fun h64 => ?_)
    · refine v_iconst (q := 84) dX5_lowerPricesBy_83 rfl ?_
      refine v_ist5 (q := 86) rfl dX5_lowerPricesBy_84 (by decide) rfl ?_
      refine v_iconst (q := 87) dX5_lowerPricesBy_86 rfl ?_
      refine v_ist6 (q := 89) rfl dX5_lowerPricesBy_87 (by decide) rfl ?_
      have hk := l_X5_by b hb mem y ex k kk r hkk hr hex hk20 ok okr h29 hpl hv (by omega) y.1.toNat 0 mem (mem (b + 1)) False aU aU (by omega) (by omega) (sm_id mem (b + 1) (fun _ => rfl)).symm hv (fun _ => Int.le_refl _) (fun _ _ => rfl) (fun m t m0 m1 => by omega)
      rw [← bI_0] at hk
      exact hk
    · have z1 := (c3.resolve_left (fun h => by have := h.1; omega)).resolve_right (fun h => by have := h.1; omega)
      refine v_aload_n (j := 0) (q := 68) rfl dX5_lowerPricesBy_67 rfl ?_
      refine v_iload_n (j := 2) (q := 69) rfl dX5_lowerPricesBy_68 rfl ?_
      refine v_aload_n (j := 0) (q := 70) rfl dX5_lowerPricesBy_69 rfl ?_
      refine v_getR (p' := 29) (q := 73) dX5_lowerPricesBy_70 fl_X5_19 (sum1 hb) rfl (rfc_5_1 (sum1 hb)) rfl ?_
      refine v_getR (p' := 35) (q := 76) dX5_lowerPricesBy_73 fl_X5_57 kd_29 rfl (rfc_2_7 kd_29) rfl ?_
      refine v_iload_n (j := 1) (q := 77) rfl dX5_lowerPricesBy_76 rfl ?_
      refine v_iald (q := 78) dX5_lowerPricesBy_77 kd_35 (by omega) (by omega) rfl ?_
      rw [p35]
      refine v_lload_n (j := 3) (q := 79) rfl dX5_lowerPricesBy_78 rfl ?_
      refine v_cVI3 (q := 82) dX5_lowerPricesBy_79 mlX5_60 mdX5_lowerPricesThrough (by decide) (sum1 hb) rfl rfl ⟨Nat.le_refl 0, Nat.le_refl 0⟩ (by exact Nat.le_of_ble_eq_true rfl) rfl (c_X5_lowerPricesThrough b hb mem (hdR r * 4) (nxR r) (cr BB r) y.1 ⟨hdR r, rfl, c1.1, c1.2⟩ (by have := z1.2.2; omega) (by omega) hS h29 (fun q q0 q1 => ⟨(hv q q0 q1).1, (hv q q0 q1).2.1⟩)) ?_
      rintro _ _ ⟨rfl, rfl⟩
      refine v_zret (by first | exact Or.inl rfl | exact Or.inr rfl | exact bI_01 _ | omega) dX5_lowerPricesBy_82 ?_
      obtain ⟨z1a, z1b, z1c, z1d, z1e⟩ := z1
      refine ⟨_, rfl, _, _, rfl, rfl, fun hn i => ?_, thr_le _ _ _ _ _, ?_, fun h => by omega, fun _ t t0 t1 => thr_at _ _ _ _ _ t0 t1, fun h => by omega⟩
      · unfold thr
        by_cases eq : hdR r * 4 ≤ i ∧ i < hdR r * 4 + y.1
        · rw [if_pos eq]
          have hn2 : ¬ (cr BB r + mem (b + 1) (nxR r * 4 + (i - hdR r * 4)) < mem (b + 1) (hdR r * 4 + (i - hdR r * 4))) := fun hx => hn ⟨i - hdR r * 4, by omega, by omega, hx⟩
          rw [show hdR r * 4 + (i - hdR r * 4) = i by omega] at hn2
          omega
        · rw [if_neg eq]
      · refine thr_snd hv c1 (by omega) (by omega) (by omega) (fun t t0 t1 g1 g2 => ?_)
        have k2 := (hv (nxR r * 4 + t) (by omega) (by omega)).2.2 g1
        rw [z1c, PRi_hd (by omega) q0 (by omega)] at k2
        unfold hdR
        rw [PRi_hd (by omega) hp.1 (by omega)]
        have k4 := RC.step (B := BB) (ex := ex) (s := []) hr (by rw [hkk]; exact hex) (by rw [List.append_nil, z1b]; exact k2)
        rw [z1c]
        exact k4
  · have z0 := c3.resolve_right (fun h => by rcases h with h | h <;> (have := h.1; omega))
    refine v_aload_n (j := 0) (q := 35) rfl dX5_lowerPricesBy_34 rfl ?_
    refine v_getR (p' := b + 1) (q := 38) dX5_lowerPricesBy_35 fl_X5_15 (sum1 hb) rfl (rfc_5_2 (sum1 hb)) rfl ?_
    refine v_iload_n (j := 2) (q := 39) rfl dX5_lowerPricesBy_38 rfl ?_
    refine v_aload_n (j := 0) (q := 40) rfl dX5_lowerPricesBy_39 rfl ?_
    refine v_getR (p' := 29) (q := 43) dX5_lowerPricesBy_40 fl_X5_19 (sum1 hb) rfl (rfc_5_1 (sum1 hb)) rfl ?_
    refine v_getR (p' := 33) (q := 46) dX5_lowerPricesBy_43 fl_X5_50 kd_29 rfl (rfc_2_5 kd_29) rfl ?_
    refine v_iload_n (j := 1) (q := 47) rfl dX5_lowerPricesBy_46 rfl ?_
    refine v_iald (q := 48) dX5_lowerPricesBy_47 kd_33 (by omega) (by omega) rfl ?_
    rw [p33]
    refine v_iadd (q := 49) dX5_lowerPricesBy_48 rfl ?_
    refine v_lload_n (j := 3) (q := 50) rfl dX5_lowerPricesBy_49 rfl ?_
    refine v_cSNI3 (q := 53) dX5_lowerPricesBy_50 mlX5_53 mdX9_lower (by decide) ⟨Nat.le_refl 0, Nat.le_refl 0⟩ (by exact Nat.le_of_ble_eq_true rfl) rfl (c_X9_lower (b + 1) 80 (hdR r * 4 + r.2.2.1) (cr BB r) mem (sum2 hb) (by omega) (by omega) (by omega) (by have := hvq (by omega) (by omega); omega)) ?_
    rintro _ _ ⟨rfl, rfl⟩
    refine v_zret (by first | exact Or.inl rfl | exact Or.inr rfl | exact bI_01 _ | omega) dX5_lowerPricesBy_53 ?_
    have hs0 := hvq (by omega) (by omega)
    have real : PRi y.2.2.2.2 ex (hdR r * 4 + r.2.2.1) (cr BB r) := by
      unfold hdR
      rw [PRi_hd (by omega) hp.1 (by omega)]
      have k4 := RC.step (B := BB) (ex := ex) (s := []) hr (by rw [hkk]; exact hex) (by rw [List.append_nil, z0.2]; exact RC.refl _ _)
      rwa [Int.add_zero] at k4
    by_cases hlt : cr BB r < mem (b + 1) (hdR r * 4 + r.2.2.1)
    · rw [if_pos hlt]
      refine ⟨_, rfl, ui (mem (b + 1)) (hdR r * 4 + r.2.2.1) (cr BB r), _, rfl, rfl, fun h => absurd hlt h, fun i => ?_, fun i i0 i1 => ?_, fun _ => ?_, fun h => by omega, fun h => by omega⟩
      · unfold ui
        split
        · rename_i e; rw [e]; omega
        · omega
      · unfold ui
        split
        · rename_i e
          rw [e]
          exact ⟨by omega, by omega, fun _ => real⟩
        · exact hv i i0 i1
      · rw [ui_same]; omega
    · rw [if_neg hlt]
      exact ⟨_, rfl, mem (b + 1), _, (sm_id mem (b + 1) (fun _ => rfl)).symm, rfl, fun _ _ => rfl, fun i => Int.le_refl _, hv, fun _ => by omega, fun h => by omega, fun h => by omega⟩
/-- one round over the rules -/
def pasQ (rs : List Rl) (ex S : Int) (v v' : Int → Int) (n : Nat) : Prop := SndP rs ex v' ∧ (∀ i, v' i ≤ v i) ∧ ∀ k : Nat, k < n → (k : Int) ≠ ex → ∀ r, rs[k]? = some r → rlxP S r v v'
theorem rlxP.mono {S : Int} {r : Rl} {v w v' w' : Int → Int} (h : rlxP S r v v') (h1 : ∀ i, v i ≤ w i) (h2 : ∀ i, w' i ≤ v' i) : rlxP S r w w' := by
  obtain ⟨a, b, c⟩ := h
  refine ⟨fun h => Int.le_trans (h2 _) (a h), fun h t t0 t1 => ?_, fun h m t m0 m1 t0 t1 => ?_⟩
  · have x1 := b h t t0 t1
    have x2 := h2 (hdR r * 4 + t)
    have x3 := h1 (nxR r * 4 + t)
    omega
  · have x2 := h2 (hdR r * 4 + t)
    have x3 := h1 (nxR r * 4 + m)
    have x4 := h1 ((m * 5 + blR r - 1) * 4 + t)
    rcases c h m t m0 m1 t0 t1 with x1 | x1
    · exact Or.inl (by omega)
    · exact Or.inr (by omega)
theorem PL.congr {m m1 : Mem} {y : Sy} (h : PL m y) (h1 : ∀ q, 29 ≤ q → q ≤ 37 → m1 q = m q) : PL m1 y := by
  obtain ⟨a, b, c, d, e⟩ := h
  refine ⟨by rw [h1 29 (by omega) (by omega)]; exact a, by rw [h1 29 (by omega) (by omega)]; exact b, by rw [h1 29 (by omega) (by omega)]; exact c, d.congr (h1 30 (by omega) (by omega)) (h1 31 (by omega) (by omega)), fun k hk => ?_⟩
  have := e k hk
  unfold PLk at this ⊢
  rw [h1 32 (by omega) (by omega), h1 33 (by omega) (by omega), h1 34 (by omega) (by omega), h1 35 (by omega) (by omega), h1 36 (by omega) (by omega), h1 37 (by omega) (by omega)]
  exact this
/-- the least costs of removing, as the rounds find them -/
noncomputable def muP (rs : List Rl) (ex : Int) (i : Nat) : Int := by
  classical
  exact if h : ∃ v, TMn NO (PRi rs ex i) v then Classical.choose h else NO
theorem muP_ok {y : Sy} (ok : okS y) (ex : Int) (i : Nat) : TMn NO (PRi y.2.2.2.2 ex i) (muP y.2.2.2.2 ex i) := by
  have h : ∃ v, TMn NO (PRi y.2.2.2.2 ex i) v := TMn.ex (fun c hc => RC.nn (okRs.w (S := y.1) (G := y.2.1) ok.2.2.2.2.2) (by unfold BB; omega) hc) (by unfold NO; omega)
  unfold muP
  rw [dif_pos h]
  exact Classical.choose_spec h
/-- a round of compute, as the rank lemma wants it -/
theorem pas_rnd {y : Sy} (ok : okS y) {ex : Int} {v v' : Int → Int} (hv : SndP y.2.2.2.2 ex v) (h : pasQ y.2.2.2.2 ex y.1 v v' y.2.2.2.2.length) : rndOK NO (muP y.2.2.2.2 ex) (fun i => v i) (fun i => v' i) 80 := by
  obtain ⟨h1, h2, h3⟩ := h
  have hS := ok.1
  have hG := ok.2.1
  intro i hi
  have mi := muP_ok ok ex i
  obtain ⟨a1, a2, a3⟩ := h1 i (by omega) (by omega)
  refine ⟨⟨?_, h2 i, (hv i (by omega) (by omega)).2.1⟩, fun hm hp => ?_⟩
  · rcases Int.lt_or_le (v' i) NO with hl | hl
    · exact mi.2.2 _ (a3 hl) hl
    · exact Int.le_trans mi.1 hl
  · show v' i ≤ muP y.2.2.2.2 ex i
    have hrun := mi.2.1 hm
    obtain ⟨u, hu⟩ : ∃ u, u = muP y.2.2.2.2 ex i := ⟨_, rfl⟩
    rw [← hu] at hrun hm hp ⊢
    unfold PRi at hrun
    rcases hrun.first with ⟨-, -, he⟩ | ⟨k, r, c1, g1, g2, g3, g4, g5, g6⟩
    · cases he
    have hmem := List.mem_of_getElem? g1
    have okr := ok.2.2.2.2.2 r hmem
    have hk : k < y.2.2.2.2.length := (List.getElem?_eq_some_iff.mp g1).1
    have rl := h3 k hk g2 r g1
    obtain ⟨b1, b2, b3⟩ := rl_cases okr hG.2 hS.2
    rw [List.append_nil] at g5
    have ei : (i : Int) = hdR r * 4 + (i : Int) % 4 := by unfold hdR; omega
    have hw := okRs.w (S := y.1) (G := y.2.1) ok.2.2.2.2.2
    have hBB : 1 ≤ BB := by unfold BB; omega
    have c10 := RC.nn hw hBB g5
    have hst := RC.state (S := y.1) (G := y.2.1) ok.2.2.2.2.2 g5 okr.2.2.1
    have key : ∀ (p x t c : Int), 0 ≤ p → p < y.1 → 1 ≤ x → x ≤ y.2.1 → 0 ≤ t → t < y.1 → RC BB y.2.2.2.2 ex p [x] t [] c → c < u → v ((p * 5 + x - 1) * 4 + t) ≤ c := fun p x t c p0 p1 x0 x1 t0 t1 hc hlt => by
      obtain ⟨j, hj⟩ : ∃ j : Nat, (j : Int) = (p * 5 + x - 1) * 4 + t := ⟨((p * 5 + x - 1) * 4 + t).toNat, by omega⟩
      have mj := muP_ok ok ex j
      have hc2 : PRi y.2.2.2.2 ex j c := by rw [hj, PRi_hd (by omega) p0 (by omega)]; exact hc
      have le := mj.2.2 c hc2 (by omega)
      have := hp j (by omega) (by omega)
      rw [← hj]
      show v j ≤ c
      have e9 : v (j : Int) = muP y.2.2.2.2 ex j := this
      omega
    rcases b3 with ⟨n0, d0⟩ | ⟨n1, d1, d2, d3, d4⟩ | ⟨n2, d1, d2, d3, d4, d5, d6⟩
    · rw [d0] at g5
      obtain ⟨e1, e2, -⟩ := g5.empty
      have := rl.1 n0
      rw [e2, ← ei] at this
      omega
    · rw [d1] at g5
      have a9 := key _ _ _ _ okr.2.2.1.1 okr.2.2.1.2 d3 d4 hst.1 hst.2 g5 (by omega)
      have := rl.2.1 n1 ((i : Int) % 4) (by omega) hst.2
      rw [← ei, d2] at this
      omega
    · rw [d1] at g5
      rcases (show RC BB y.2.2.2.2 ex r.2.2.1 ([r.2.2.2.1 / 10] ++ [blR r]) ((i : Int) % 4) [] c1 from g5).split with ⟨t', e1, -⟩ | ⟨m, x1, x2, f1, f2, f3⟩
      · have := congrArg List.length e1
        simp at this
      · have hm9 := RC.state (S := y.1) (G := y.2.1) ok.2.2.2.2.2 f1 okr.2.2.1
        have x10 := RC.nn hw hBB f1
        have x20 := RC.nn hw hBB f2
        have a8 := key _ _ _ _ okr.2.2.1.1 okr.2.2.1.2 d3 d4 hm9.1 hm9.2 f1 (by omega)
        have a9 := key _ _ _ _ hm9.1 hm9.2 d5 d6 hst.1 hst.2 f2 (by omega)
        have := rl.2.2 n2 m ((i : Int) % 4) hm9.1 hm9.2 (by omega) hst.2
        rw [← ei, d2] at this
        rcases this with h9 | h9
        · omega
        · omega
/-- the prices in the class: the least costs of removing, or NO -/
def PRok (rs : List Rl) (ex : Int) (v : Int → Int) : Prop := ∀ i, 0 ≤ i → i < 80 → TMn NO (PRi rs ex i) (v i)
theorem PRok_of {y : Sy} (ok : okS y) {ex : Int} {v : Int → Int} (h : ∀ i : Nat, i < 80 → v i = muP y.2.2.2.2 ex i) : PRok y.2.2.2.2 ex v := fun i i0 i1 => by
  have h1 := h i.toNat (by omega)
  have h2 := muP_ok ok ex i.toNat
  rw [show ((i.toNat : Nat) : Int) = i by omega] at h1 h2
  rw [h1]
  exact h2
