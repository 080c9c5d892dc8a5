/-! ===== Machine: readOnFrom, readFromHead, readStartStack ===== -/
theorem l_X1_readOnFrom (y : Sy) (ok : okS y) (e : Nat) (he : 20 < e ∧ e < 24) (sy : Int) (hsy : 1 ≤ sy ∧ sy ≤ 5) (hst : sy = stS y (e - 20)) (mem : Mem) (h29 : mem 29 0 = y.1) (hw : TWr (mem 84)) :
    ∀ (j : Nat) (p : Int) (u : Int → Int) (u4 : AV), p + j = y.1 → 0 ≤ p → (∀ h, 0 ≤ h → h < 20 → u h = if (h % 5 + 1 = sy ∧ h / 5 < p) ∧ mem 84 (wx (h / 5) 0 (e - 1)) ≠ -6 then mem 84 (wx (h / 5) 0 (e - 1)) * 16777216 else NO) →
    V cX1_readOnFrom RX1 5 none (rmk 1 23) (mE (fun r m => r = aU ∧ ∃ u, sm mem (86 + e) u = m ∧ ∀ h, 0 ≤ h → h < 20 → u h = v0E y (mem 84) e h)) 2 [aR 83, aI ((e : Int) - 1), aI sy, aI p, u4] [] (sm mem (86 + e) u) := by
  have hS := ok.1
  have hg := rowE he.2
  intro j
  induction j with
  | zero =>
    intro p u u4 h1 h2 h3
    have e29 : sm mem (86 + e) u 29 0 = y.1 := by rw [sm_ne _ _ (by omega)]; exact h29
    refine v_iload_n (j := 3) (q := 3) rfl dX1_readOnFrom_2 rfl ?_
    refine v_aload_n (j := 0) (q := 4) rfl dX1_readOnFrom_3 rfl ?_
    refine v_getR (p' := 29) (q := 7) dX1_readOnFrom_4 fl_X1_51 kd_83 rfl (rfc_1_2 kd_83) rfl ?_
    refine v_getI (j := 0) (q := 10) dX1_readOnFrom_7 fl_X1_115 kd_29 rfl rfl rfl ?_
    rw [e29]
    refine v_icmp_ge (tgt := 54) (q := 13) dX1_readOnFrom_10 (by decide) rfl (by omega) (by omega) (fun h10 => ?_) (fun h10 => ?_)
    · refine v_vret dX1_readOnFrom_54 ?_
      refine ⟨rfl, u, rfl, fun h h0 h9 => ?_⟩
      rw [h3 h h0 h9]
      unfold v0E
      rw [if_neg (show ¬ (e : Int) < 20 by omega), if_neg (show ¬ (e : Int) = 20 by omega), ← hst, show p = y.1 by omega]
    · exact absurd h10 (by omega)
  | succ j ih =>
    intro p u u4 h1 h2 h3
    have e29 : sm mem (86 + e) u 29 0 = y.1 := by rw [sm_ne _ _ (by omega)]; exact h29
    have e84 : sm mem (86 + e) u 84 = mem 84 := sm_ne _ _ (by omega)
    have r9 := wx_rng (f := p) (l := 0) (e := (e : Int) - 1) (by omega) (by omega) (by omega)
    have w9 := hw _ r9.1 r9.2
    obtain ⟨w, hw9⟩ : ∃ w, mem 84 (wx p 0 ((e : Int) - 1)) = w := ⟨_, rfl⟩
    rw [hw9] at w9
    have em : um (sm mem (86 + e) u) (86 + e) (p * 5 + sy - 1) (w * 16777216) = sm mem (86 + e) (ui u (p * 5 + sy - 1) (w * 16777216)) := eq_sm (fun q hq => by rw [um_ne _ _ _ hq, sm_ne _ _ hq]) (fun i => by rw [um_same, sm_same])
    refine v_iload_n (j := 3) (q := 3) rfl dX1_readOnFrom_2 rfl ?_
    refine v_aload_n (j := 0) (q := 4) rfl dX1_readOnFrom_3 rfl ?_
    refine v_getR (p' := 29) (q := 7) dX1_readOnFrom_4 fl_X1_51 kd_83 rfl (rfc_1_2 kd_83) rfl ?_
    refine v_getI (j := 0) (q := 10) dX1_readOnFrom_7 fl_X1_115 kd_29 rfl rfl rfl ?_
    rw [e29]
    refine v_icmp_ge (tgt := 54) (q := 13) dX1_readOnFrom_10 (by decide) rfl (by omega) (by omega) (fun h10 => ?_) (fun h10 => ?_)
    · exact absurd h10 (by omega)
    · refine v_aload_n (j := 0) (q := 14) rfl dX1_readOnFrom_13 rfl ?_
      refine v_iload_n (j := 3) (q := 15) rfl dX1_readOnFrom_14 rfl ?_
      refine v_iconst (q := 16) dX1_readOnFrom_15 rfl ?_
      refine v_iload_n (j := 1) (q := 17) rfl dX1_readOnFrom_16 rfl ?_
      refine v_cVI3 (q := 20) dX1_readOnFrom_17 mlX1_118 mdX1_weightAt (by decide) kd_83 rfl rfl ⟨Nat.le_refl 0, Nat.le_refl 0⟩ (by exact Nat.le_of_ble_eq_true rfl) rfl (c_X1_weightAt p 0 ((e : Int) - 1) _ (by omega) (by omega) (by omega)) ?_
      rw [e84, hw9]
      rintro _ _ ⟨rfl, rfl⟩
      refine v_ist4 (q := 22) rfl dX1_readOnFrom_20 (by decide) rfl ?_
      refine v_iload (j := 4) (q := 24) rfl dX1_readOnFrom_22 rfl ?_
      refine v_bipush (q := 26) (by decide) dX1_readOnFrom_24 rfl ?_
      refine v_icmp_eq (tgt := 48) (q := 29) dX1_readOnFrom_26 (by decide) rfl (by omega) (by omega) (fun h26 => ?_) (fun h26 => ?_)
      · refine v_iinc3 (q := 51) rfl dX1_readOnFrom_48 (by decide) rfl ?_
        refine v_goto (q := 2) dX1_readOnFrom_51 (by decide) ?_
        first
          | (refine ih (p + 1) u _ (by omega) (by omega) (fun h h0 h9 => ?_)
             rw [h3 h h0 h9]
             by_cases g : h % 5 + 1 = sy ∧ h / 5 = p
             · rw [if_neg (fun g2 => by have := g2.1.2; omega), if_neg (fun g2 => g2.2 (by rw [g.2, hw9]; exact h26))]
             · by_cases g3 : (h % 5 + 1 = sy ∧ h / 5 < p) ∧ mem 84 (wx (h / 5) 0 ((e : Int) - 1)) ≠ -6
               · rw [if_pos g3, if_pos ⟨by omega, g3.2⟩]
               · rw [if_neg g3, if_neg (fun g4 => g3 ⟨by omega, g4.2⟩)])
          | (rw [show um (sm mem (86 + e) u) (85 + 1 + (e : Int).toNat) (p * 5 + sy - 1) (w * 16777216) = _ from em]
             refine ih (p + 1) _ _ (by omega) (by omega) (fun h h0 h9 => ?_)
             by_cases g : h = p * 5 + sy - 1
             · have g1 : h % 5 + 1 = sy ∧ h / 5 = p := by omega
               rw [g, ui_same, ← g, g1.2, hw9, if_pos ⟨by omega, h26⟩]
             · rw [ui_ne _ _ g, h3 h h0 h9]
               by_cases g3 : (h % 5 + 1 = sy ∧ h / 5 < p) ∧ mem 84 (wx (h / 5) 0 ((e : Int) - 1)) ≠ -6
               · rw [if_pos g3, if_pos ⟨by omega, g3.2⟩]
               · rw [if_neg g3, if_neg (fun g4 => g3 ⟨by omega, g4.2⟩)])
      · refine v_aload_n (j := 0) (q := 30) rfl dX1_readOnFrom_29 rfl ?_
        refine v_getR (p' := 85) (q := 33) dX1_readOnFrom_30 fl_X1_25 kd_83 rfl (rfc_1_5 kd_83) rfl ?_
        refine v_iload_n (j := 1) (q := 34) rfl dX1_readOnFrom_33 rfl ?_
        refine v_iconst (q := 35) dX1_readOnFrom_34 rfl ?_
        refine v_iadd (q := 36) dX1_readOnFrom_35 rfl ?_
        rw [show (e : Int) - 1 + 1 = e by omega]
        refine v_aaldL (q := 37) dX1_readOnFrom_36 kd_85 (by omega) (by omega) rfl ?_
        refine v_iload_n (j := 3) (q := 38) rfl dX1_readOnFrom_37 rfl ?_
        refine v_iload_n (j := 2) (q := 39) rfl dX1_readOnFrom_38 rfl ?_
        refine v_cSNI2 (q := 42) dX1_readOnFrom_39 mlX1_100 mdX9_headOf (by decide) ⟨Nat.le_refl 0, Nat.le_refl 0⟩ (by exact Nat.le_of_ble_eq_true rfl) rfl (c_X9_headOf p sy _) ?_
        rintro _ _ ⟨rfl, rfl⟩
        refine v_iload (j := 4) (q := 44) rfl dX1_readOnFrom_42 rfl ?_
        refine v_cSNL1 (q := 47) dX1_readOnFrom_44 mlX1_122 mdX9_costOfWeight (by decide) ⟨Nat.le_refl 0, Nat.le_refl 0⟩ (by exact Nat.le_of_ble_eq_true rfl) rfl (c_X9_costOfWeight w _ (by omega)) ?_
        rintro _ _ ⟨rfl, rfl⟩
        refine v_last (q := 48) dX1_readOnFrom_47 hg (by omega) (by omega) rfl ?_
        refine v_iinc3 (q := 51) rfl dX1_readOnFrom_48 (by decide) rfl ?_
        refine v_goto (q := 2) dX1_readOnFrom_51 (by decide) ?_
        first
          | (refine ih (p + 1) u _ (by omega) (by omega) (fun h h0 h9 => ?_)
             rw [h3 h h0 h9]
             by_cases g : h % 5 + 1 = sy ∧ h / 5 = p
             · rw [if_neg (fun g2 => by have := g2.1.2; omega), if_neg (fun g2 => g2.2 (by rw [g.2, hw9]; exact h26))]
             · by_cases g3 : (h % 5 + 1 = sy ∧ h / 5 < p) ∧ mem 84 (wx (h / 5) 0 ((e : Int) - 1)) ≠ -6
               · rw [if_pos g3, if_pos ⟨by omega, g3.2⟩]
               · rw [if_neg g3, if_neg (fun g4 => g3 ⟨by omega, g4.2⟩)])
          | (rw [show um (sm mem (86 + e) u) (85 + 1 + (e : Int).toNat) (p * 5 + sy - 1) (w * 16777216) = _ from em]
             refine ih (p + 1) _ _ (by omega) (by omega) (fun h h0 h9 => ?_)
             by_cases g : h = p * 5 + sy - 1
             · have g1 : h % 5 + 1 = sy ∧ h / 5 = p := by omega
               rw [g, ui_same, ← g, g1.2, hw9, if_pos ⟨by omega, h26⟩]
             · rw [ui_ne _ _ g, h3 h h0 h9]
               by_cases g3 : (h % 5 + 1 = sy ∧ h / 5 < p) ∧ mem 84 (wx (h / 5) 0 ((e : Int) - 1)) ≠ -6
               · rw [if_pos g3, if_pos ⟨by omega, g3.2⟩]
               · rw [if_neg g3, if_neg (fun g4 => g3 ⟨by omega, g4.2⟩)])
theorem c_X1_readOnFrom (y : Sy) (ok : okS y) (e : Nat) (he : 20 < e ∧ e < 24) (sy : Int) (hsy : 1 ≤ sy ∧ sy ≤ 5) (hst : sy = stS y (e - 20)) (mem : Mem) (h29 : mem 29 0 = y.1) (hw : TWr (mem 84)) (hr : ∀ h, 0 ≤ h → h < 20 → mem (86 + e) h = NO) : CtrV mX1_readOnFrom [aR 83, aI ((e : Int) - 1), aI sy] mem (fun m => ∃ u, sm mem (86 + e) u = m ∧ ∀ h, 0 ≤ h → h < 20 → u h = v0E y (mem 84) e h) := by
  have hS := ok.1
  refine Ctr.ofV (ls := [aR 83, aI ((e : Int) - 1), aI sy, aU, aU]) rfl (by decide) rfl (Nat.le_of_ble_eq_true rfl) ?_
  refine v_iconst (q := 1) dX1_readOnFrom_0 rfl ?_
  refine v_ist3 (q := 2) rfl dX1_readOnFrom_1 (by decide) rfl ?_
  have hk := l_X1_readOnFrom y ok e he sy hsy hst mem h29 hw y.1.toNat 0 (mem (86 + e)) aU (by omega) (by omega) (fun h h0 h1 => by rw [if_neg (fun g => by have := g.1.2; omega)]; exact hr h h0 h1)
  rw [sm_id mem (86 + e) (fun _ => rfl)] at hk
  exact hk
theorem OX.congr0 {a b c : Mem} {H : Int → Prop} (h : OX b c H) (h1 : b 83 = a 83) (h2 : b 111 = a 111) (h3 : b 112 = a 112) : OX a c H := by
  unfold OX at h ⊢
  rw [h1, h2, h3] at h
  exact h
theorem kl_base {w : Int → Int} {i : Int} (h : w i = -6) : kl w i 0 = ui w i 0 := by
  unfold kl
  rw [if_pos ⟨by omega, Or.inl h⟩]
  rfl
/-- an end, with its first costs and its first arc laid -/
theorem BI.lay {y : Sy} {M1 mem : Mem} {Dn : Int → Prop} {e : Nat} (h : BI y mem Dn) (he : e < 24) (hn : ¬ Dn e) {f0 l0 : Int} (hf : rg f0 l0) (hb : ∀ f l, rg f l → (bsE y e f l ↔ f = f0 ∧ l = l0)) (e84 : M1 84 = mem 84) :
    (∀ (f l e2 : Int), rg f l → 0 ≤ e2 → e2 < 24 → ¬ (e2 = e ∧ bsE y e f l) → sm M1 84 (kl (M1 84) (wx f0 l0 e) 0) 84 (wx f l e2) = mem 84 (wx f l e2)) ∧ (∀ f l, rg f l → bsE y e f l → sm M1 84 (kl (M1 84) (wx f0 l0 e) 0) 84 (wx f l e) = 0) := by
  have h6 := (h.2.2.2.2.1 e he hn).2 f0 l0 hf
  rw [e84, sm_same, kl_base h6]
  refine ⟨fun f l e2 hf2 h0 h1 h2 => ui_ne _ _ (fun e9 => ?_), fun f l hf2 hb2 => ?_⟩
  · obtain ⟨i1, i2, i3⟩ := wx_inj hf2.2 ⟨h0, h1⟩ hf.2 (by omega) e9
    exact h2 ⟨i3, (hb f l hf2).mpr ⟨i1, i2⟩⟩
  · obtain ⟨i1, i2⟩ := (hb f l hf2).mp hb2
    rw [i1, i2, ui_same]
def frM (mem m : Mem) : Prop := (∀ p, p < 83 ∨ 112 < p ∨ p = 85 ∨ p = 110 → m p = mem p) ∧ ∀ j, j ≠ 9 → m 83 j = mem 83 j
theorem frM.refl (m : Mem) : frM m m := ⟨fun _ _ => rfl, fun _ _ => rfl⟩
theorem frM.trans {a b c : Mem} (h : frM a b) (h2 : frM b c) : frM a c := ⟨fun p hp => by rw [h2.1 p hp, h.1 p hp], fun j hj => by rw [h2.2 j hj, h.2 j hj]⟩
theorem c_X1_readFromHead (y : Sy) (ok : okS y) (e : Nat) (he : e < 20) (mem : Mem) (Dn : Int → Prop) (h : BI y mem Dn) (hn : ¬ Dn e) (ho : mem 111 e = 1) : CtrV mX1_readFromHead [aR 83, aI (e : Int)] mem (fun m => BI y m (fun x => Dn x ∨ x = e) ∧ frM mem m ∧ OX mem m (opH y (m (86 + e)) y.2.2.2.2.length)) := by
  have hNO := NO_def
  have hg := rowE (e := e) (by omega)
  obtain ⟨M1, hM1⟩ : ∃ M1, M1 = um mem (86 + e) e 0 := ⟨_, rfl⟩
  have o1 : ∀ p, p ≠ 86 + e → M1 p = mem p := fun p hp => by rw [hM1, um_ne _ _ _ hp]
  have e84 : M1 84 = mem 84 := o1 84 (by omega)
  obtain ⟨m2, hm2⟩ : ∃ m2, m2 = sm M1 84 (kl (M1 84) (wx ((e : Int) / 5) ((e : Int) % 5 + 1) e) 0) := ⟨_, rfl⟩
  have hf : rg ((e : Int) / 5) ((e : Int) % 5 + 1) := ⟨by omega, by omega⟩
  have hbs : ∀ f l, rg f l → (bsE y e f l ↔ f = (e : Int) / 5 ∧ l = (e : Int) % 5 + 1) := fun f l _ => by
    unfold bsE
    constructor
    · rintro (⟨-, a, b⟩ | ⟨a, -⟩ | ⟨a, -⟩)
      · exact ⟨a, b⟩
      · omega
      · omega
    · rintro ⟨a, b⟩
      exact Or.inl ⟨by omega, a, b⟩
  have lay := BI.lay (M1 := M1) h (by omega) hn hf hbs e84
  rw [← hm2] at lay
  have o2 : ∀ p, p ≠ 84 → p ≠ 86 + e → m2 p = mem p := fun p h1 h2 => by rw [hm2, sm_ne _ _ h1, o1 p h2]
  have w2 : TWr (m2 84) := by rw [hm2, sm_same, e84]; exact h.1.kl (by omega)
  have rw2 : ∀ x, 0 ≤ x → x < 20 → m2 (86 + e) x = v0E y (mem 84) e x := fun x h0 h1 => by
    rw [hm2, sm_ne _ _ (by omega), hM1, um_same]
    unfold v0E
    rw [if_pos (by omega)]
    by_cases g : x = e
    · rw [g, ui_same, if_pos rfl]
    · rw [ui_ne _ _ g, if_neg g]
      exact (h.2.2.2.2.1 e (by omega) hn).1 x h0 h1
  refine Ctr.ofV (ls := [aR 83, aI (e : Int)]) rfl (by decide) rfl (Nat.le_of_ble_eq_true rfl) ?_
  refine v_aload_n (j := 0) (q := 1) rfl dX1_readFromHead_0 rfl ?_
  refine v_getR (p' := 85) (q := 4) dX1_readFromHead_1 fl_X1_25 kd_83 rfl (rfc_1_5 kd_83) rfl ?_
  refine v_iload_n (j := 1) (q := 5) rfl dX1_readFromHead_4 rfl ?_
  refine v_aaldL (q := 6) dX1_readFromHead_5 kd_85 (by omega) (by omega) rfl ?_
  refine v_iload_n (j := 1) (q := 7) rfl dX1_readFromHead_6 rfl ?_
  refine v_lconst0 (q := 8) dX1_readFromHead_7 rfl ?_
  refine v_last (q := 9) dX1_readFromHead_8 hg (by omega) (by omega) rfl ?_
  rw [show um mem (85 + 1 + (e : Int).toNat) e 0 = M1 from hM1.symm]
  refine v_aload_n (j := 0) (q := 10) rfl dX1_readFromHead_9 rfl ?_
  refine v_iload_n (j := 1) (q := 11) rfl dX1_readFromHead_10 rfl ?_
  refine v_iconst (q := 12) dX1_readFromHead_11 rfl ?_
  refine v_idiv (q := 13) (by omega) (by omega) dX1_readFromHead_12 rfl ?_
  refine v_iload_n (j := 1) (q := 14) rfl dX1_readFromHead_13 rfl ?_
  refine v_iconst (q := 15) dX1_readFromHead_14 rfl ?_
  refine v_irem (q := 16) (by omega) (by omega) dX1_readFromHead_15 rfl ?_
  refine v_iconst (q := 17) dX1_readFromHead_16 rfl ?_
  refine v_iadd (q := 18) dX1_readFromHead_17 rfl ?_
  refine v_iload_n (j := 1) (q := 19) rfl dX1_readFromHead_18 rfl ?_
  refine v_lconst0 (q := 20) dX1_readFromHead_19 rfl ?_
  refine v_cVV4 (q := 23) dX1_readFromHead_20 mlX1_104 mdX1_keepLeast (by decide) kd_83 rfl rfl ⟨Nat.le_refl 0, Nat.le_refl 0⟩ (by exact Nat.le_of_ble_eq_true rfl) rfl (c_X1_keepLeast _ _ e 0 M1 hf.1 hf.2 (by omega) (by omega) (by rw [e84]; exact h.1)) ?_
  rw [← hm2]
  rintro _ rfl
  refine v_aload_n (j := 0) (q := 24) rfl dX1_readFromHead_23 rfl ?_
  refine v_iload_n (j := 1) (q := 25) rfl dX1_readFromHead_24 rfl ?_
  refine v_cVV1 (q := 28) dX1_readFromHead_25 mlX1_112 mdX1_addArcsTo (by decide) kd_83 rfl rfl ⟨Nat.le_refl 0, Nat.le_refl 0⟩ (by exact Nat.le_of_ble_eq_true rfl) rfl (c_X1_addArcsTo y ok e (by omega) m2 (h.2.2.1.congr (fun p h1 h2 => o2 p (by omega) (by omega))) (fun x h0 h1 => by rw [rw2 x h0 h1]; exact ⟨(v0E_rng h.1 (by omega) ⟨h0, h1⟩).1, (v0E_rng h.1 (by omega) ⟨h0, h1⟩).2.1⟩) w2 (h.2.1.congr (by rw [o2 83 (by omega) (by omega)]) (o2 111 (by omega) (by omega)) (o2 112 (by omega) (by omega)))) ?_
  rintro m3 hq
  refine v_vret dX1_readFromHead_28 ?_
  refine ⟨rfl, BI.add ok h (by omega) hn (fun h9 => by omega) (fun _ => ho) (fun h9 => by omega) o2 rw2 lay.1 lay.2 hq, ⟨fun p hp => ?_, fun j hj => ?_⟩, hq.2.2.2.2.congr0 (o2 83 (by omega) (by omega)) (o2 111 (by omega) (by omega)) (o2 112 (by omega) (by omega))⟩
  · rw [hq.1 p (by omega) (by omega) (by omega) (by omega) (by omega), o2 p (by omega) (by omega)]
  · rw [hq.2.2.2.2.2.2.2.2 j hj, o2 83 (by omega) (by omega)]
theorem l_X1_readStartStack (y : Sy) (ok : okS y) (mem : Mem) :
    ∀ (j i : Nat) (M : Mem) (u2 u3 : AV), i + j = (dgs y.2.2.2.1).length → frM mem M → BI y M (fun x => 20 ≤ x ∧ x < 20 + i) →
    V cX1_readStartStack RX1 4 none (rmk 4 98) (mE (fun r m => r = aU ∧ frM mem m ∧ BI y m (fun x => 20 ≤ x ∧ x < 20 + ((dgs y.2.2.2.1).length : Int)))) 2 [aR 83, aI (i : Int), u2, u3] [] M := by
  have hNO := NO_def
  have hl4 := ok.st.2
  have hS := ok.1
  have hG := ok.2.1
  have hst := ok.2.2.1
  intro j
  induction j with
  | zero =>
    intro i M u2 u3 h1 h2 h3
    have hi : i = (dgs y.2.2.2.1).length := by omega
    subst hi
    have e30 : M 30 0 = (dgs y.2.2.2.1).length := h3.2.2.1.1.2.2.2.1.1
    refine v_iload_n (j := 1) (q := 3) rfl dX1_readStartStack_2 rfl ?_
    refine v_aload_n (j := 0) (q := 4) rfl dX1_readStartStack_3 rfl ?_
    refine v_getR (p' := 29) (q := 7) dX1_readStartStack_4 fl_X1_51 kd_83 rfl (rfc_1_2 kd_83) rfl ?_
    refine v_getR (p' := 30) (q := 10) dX1_readStartStack_7 fl_X1_83 kd_29 rfl (rfc_2_3 kd_29) rfl ?_
    refine v_getI (j := 0) (q := 13) dX1_readStartStack_10 fl_X1_89 kd_30 rfl rfl rfl ?_
    rw [e30]
    refine v_icmp_ge (tgt := 110) (q := 16) dX1_readStartStack_13 (by decide) rfl (by omega) (by omega) (fun h13 => ?_) (fun h13 => ?_)
    · refine v_vret dX1_readStartStack_110 ?_
      exact ⟨rfl, h2, h3⟩
    · exact absurd h13 (by omega)
  | succ j ih =>
    intro i M u2 u3 h1 h2 h3
    have pl := h3.2.2.1.1
    have e30 : M 30 0 = (dgs y.2.2.2.1).length := pl.2.2.2.1.1
    have e31 : M 31 i = (dgs y.2.2.2.1).getD i 0 := pl.2.2.2.1.2 i (by omega)
    have e29 : M 29 2 = y.2.2.1 := pl.2.2.1
    have hsy := getD_sym ok (i := i) (by omega)
    obtain ⟨e, hE⟩ : ∃ e, e = 20 + i := ⟨_, rfl⟩
    have hg := rowE (e := e) (by omega)
    have hn : ¬ (20 ≤ (e : Int) ∧ (e : Int) < 20 + i) := by omega
    obtain ⟨sy, hs9⟩ : ∃ sy, sy = (dgs y.2.2.2.1).getD i 0 := ⟨_, rfl⟩
    rw [← hs9] at e31 hsy
    have hsE : stS y ((e : Int) - 20) = sy := by
      unfold stS
      rw [show ((e : Int) - 20).toNat = i by omega, hs9]
    have rows := h3.2.2.2.2.1 e (by omega) hn
    have fin : ∀ m2, (∀ p, p ≠ 84 → p ≠ 86 + e → m2 p = M p) → (∀ x, 0 ≤ x → x < 20 → m2 (86 + e) x = v0E y (M 84) e x) → (∀ (f l e2 : Int), rg f l → 0 ≤ e2 → e2 < 24 → ¬ (e2 = e ∧ bsE y e f l) → m2 84 (wx f l e2) = M 84 (wx f l e2)) → (∀ f l, rg f l → bsE y e f l → m2 84 (wx f l e) = 0) → TWr (m2 84) → ∀ u3 : AV, V cX1_readStartStack RX1 4 none (rmk 4 98) (mE (fun r m => r = aU ∧ frM mem m ∧ BI y m (fun x => 20 ≤ x ∧ x < 20 + ((dgs y.2.2.2.1).length : Int)))) 99 [aR 83, aI (i : Int), aI (e : Int), u3] [] m2 := fun m2 o2 rw2 t1 t2 w2 u3 => by
      refine v_aload_n (j := 0) (q := 100) rfl dX1_readStartStack_99 rfl ?_
      refine v_iload_n (j := 2) (q := 101) rfl dX1_readStartStack_100 rfl ?_
      refine v_cVV1 (q := 104) dX1_readStartStack_101 mlX1_112 mdX1_addArcsTo (by decide) kd_83 rfl rfl ⟨Nat.le_refl 0, Nat.le_refl 0⟩ (by exact Nat.le_of_ble_eq_true rfl) rfl (c_X1_addArcsTo y ok e (by omega) m2 (h3.2.2.1.congr (fun p h1 h2 => o2 p (by omega) (by omega))) (fun x h0 h1 => by rw [rw2 x h0 h1]; exact ⟨(v0E_rng h3.1 (by omega) ⟨h0, h1⟩).1, (v0E_rng h3.1 (by omega) ⟨h0, h1⟩).2.1⟩) w2 (h3.2.1.congr (by rw [o2 83 (by omega) (by omega)]) (o2 111 (by omega) (by omega)) (o2 112 (by omega) (by omega)))) ?_
      rintro m3 hq
      refine v_iinc1 (q := 107) rfl dX1_readStartStack_104 (by decide) rfl ?_
      refine v_goto (q := 2) dX1_readStartStack_107 (by decide) ?_
      have b3 := BI.add ok h3 (by omega) hn (fun h9 => by show 20 ≤ (e : Int) - 1 ∧ (e : Int) - 1 < 20 + i; omega) (fun h9 => by omega) (fun h9 => by omega) o2 rw2 t1 t2 hq
      rw [show (fun x : Int => (20 ≤ x ∧ x < 20 + (i : Int)) ∨ x = (e : Int)) = (fun x => 20 ≤ x ∧ x < 20 + ((i + 1 : Nat) : Int)) from funext (fun x => propext (by omega))] at b3
      refine ih (i + 1) m3 _ _ (by omega) (h2.trans ⟨fun p hp => ?_, fun j hj => ?_⟩) b3
      · rw [hq.1 p (by omega) (by omega) (by omega) (by omega) (by omega), o2 p (by omega) (by omega)]
      · rw [hq.2.2.2.2.2.2.2.2 j hj, o2 83 (by omega) (by omega)]
    by_cases hi0 : i = 0
    · subst hi0
      have e20 : e = 20 := by omega
      subst e20
      have hs0 : stS y 0 = sy := hsE
      have hf : rg y.2.2.1 sy := ⟨by omega, by omega⟩
      have hbs : ∀ f l, rg f l → (bsE y ((20 : Nat) : Int) f l ↔ f = y.2.2.1 ∧ l = sy) := fun f l _ => by
        unfold bsE
        rw [hs0]
        constructor
        · rintro (⟨a, -⟩ | ⟨-, a, b⟩ | ⟨a, -⟩)
          · omega
          · exact ⟨a, b⟩
          · omega
        · rintro ⟨a, b⟩
          exact Or.inr (Or.inl ⟨by omega, a, b⟩)
      obtain ⟨M1, hM1⟩ : ∃ M1, M1 = um M 106 (y.2.2.1 * 5 + sy - 1) 0 := ⟨_, rfl⟩
      have o1 : ∀ p, p ≠ 106 → M1 p = M p := fun p hp => by rw [hM1, um_ne _ _ _ hp]
      have e84 : M1 84 = M 84 := o1 84 (by omega)
      have lay := BI.lay (M1 := M1) h3 (show 20 < 24 by omega) hn hf hbs e84
      obtain ⟨m2, hm2⟩ : ∃ m2, m2 = sm M1 84 (kl (M1 84) (wx y.2.2.1 sy ((20 : Nat) : Int)) 0) := ⟨_, rfl⟩
      rw [← hm2] at lay
      have e292 : M1 29 2 = y.2.2.1 := by rw [o1 29 (by omega)]; exact e29
      refine v_iload_n (j := 1) (q := 3) rfl dX1_readStartStack_2 rfl ?_
      refine v_aload_n (j := 0) (q := 4) rfl dX1_readStartStack_3 rfl ?_
      refine v_getR (p' := 29) (q := 7) dX1_readStartStack_4 fl_X1_51 kd_83 rfl (rfc_1_2 kd_83) rfl ?_
      refine v_getR (p' := 30) (q := 10) dX1_readStartStack_7 fl_X1_83 kd_29 rfl (rfc_2_3 kd_29) rfl ?_
      refine v_getI (j := 0) (q := 13) dX1_readStartStack_10 fl_X1_89 kd_30 rfl rfl rfl ?_
      rw [e30]
      refine v_icmp_ge (tgt := 110) (q := 16) dX1_readStartStack_13 (by decide) rfl (by omega) (by omega) (fun h13 => ?_) (fun h13 => ?_)
      · exact absurd h13 (by omega)
      · refine v_iload_n (j := 1) (q := 17) rfl dX1_readStartStack_16 rfl ?_
        refine v_iconst (q := 18) dX1_readStartStack_17 rfl ?_
        refine v_icmp_ge (tgt := 110) (q := 21) dX1_readStartStack_18 (by decide) rfl (by omega) (by omega) (fun h18 => ?_) (fun h18 => ?_)
        · exact absurd h18 (by omega)
        · refine v_bipush (q := 23) (by decide) dX1_readStartStack_21 rfl ?_
          refine v_iload_n (j := 1) (q := 24) rfl dX1_readStartStack_23 rfl ?_
          refine v_iadd (q := 25) dX1_readStartStack_24 rfl ?_
          refine v_ist2 (q := 26) rfl dX1_readStartStack_25 (by decide) rfl ?_
          refine v_aload_n (j := 0) (q := 27) rfl dX1_readStartStack_26 rfl ?_
          refine v_getR (p' := 29) (q := 30) dX1_readStartStack_27 fl_X1_51 kd_83 rfl (rfc_1_2 kd_83) rfl ?_
          refine v_getR (p' := 30) (q := 33) dX1_readStartStack_30 fl_X1_83 kd_29 rfl (rfc_2_3 kd_29) rfl ?_
          refine v_getR (p' := 31) (q := 36) dX1_readStartStack_33 fl_X1_94 kd_30 rfl (rfc_8_1 kd_30) rfl ?_
          refine v_iload_n (j := 1) (q := 37) rfl dX1_readStartStack_36 rfl ?_
          refine v_iald (q := 38) dX1_readStartStack_37 kd_31 (by omega) (by omega) rfl ?_
          rw [e31]
          refine v_ist3 (q := 39) rfl dX1_readStartStack_38 (by decide) rfl ?_
          refine v_iload_n (j := 1) (q := 40) rfl dX1_readStartStack_39 rfl ?_
          refine v_if_ne (tgt := 79) (q := 43) dX1_readStartStack_40 (by decide) rfl (by omega) (fun h40 => ?_) (fun h40 => ?_)
          · exact absurd h40 (by omega)
          · refine v_aload_n (j := 0) (q := 44) rfl dX1_readStartStack_43 rfl ?_
            refine v_getR (p' := 85) (q := 47) dX1_readStartStack_44 fl_X1_25 kd_83 rfl (rfc_1_5 kd_83) rfl ?_
            refine v_iload_n (j := 2) (q := 48) rfl dX1_readStartStack_47 rfl ?_
            refine v_aaldL (q := 49) dX1_readStartStack_48 kd_85 (by omega) (by omega) rfl ?_
            refine v_aload_n (j := 0) (q := 50) rfl dX1_readStartStack_49 rfl ?_
            refine v_getR (p' := 29) (q := 53) dX1_readStartStack_50 fl_X1_51 kd_83 rfl (rfc_1_2 kd_83) rfl ?_
            refine v_getI (j := 2) (q := 56) dX1_readStartStack_53 fl_X1_97 kd_29 rfl rfl rfl ?_
            rw [e29]
            refine v_iload_n (j := 3) (q := 57) rfl dX1_readStartStack_56 rfl ?_
            refine v_cSNI2 (q := 60) dX1_readStartStack_57 mlX1_100 mdX9_headOf (by decide) ⟨Nat.le_refl 0, Nat.le_refl 0⟩ (by exact Nat.le_of_ble_eq_true rfl) rfl (c_X9_headOf y.2.2.1 sy _) ?_
            rintro _ _ ⟨rfl, rfl⟩
            refine v_lconst0 (q := 61) dX1_readStartStack_60 rfl ?_
            refine v_last (q := 62) dX1_readStartStack_61 kd_106 (by omega) (by omega) rfl ?_
            rw [show um M (85 + 1 + ((20 : Int) + ((0 : Nat) : Int)).toNat) (y.2.2.1 * 5 + sy - 1) 0 = M1 from hM1.symm]
            refine v_aload_n (j := 0) (q := 63) rfl dX1_readStartStack_62 rfl ?_
            refine v_aload_n (j := 0) (q := 64) rfl dX1_readStartStack_63 rfl ?_
            refine v_getR (p' := 29) (q := 67) dX1_readStartStack_64 fl_X1_51 kd_83 rfl (rfc_1_2 kd_83) rfl ?_
            refine v_getI (j := 2) (q := 70) dX1_readStartStack_67 fl_X1_97 kd_29 rfl rfl rfl ?_
            rw [e292]
            refine v_iload_n (j := 3) (q := 71) rfl dX1_readStartStack_70 rfl ?_
            refine v_iload_n (j := 2) (q := 72) rfl dX1_readStartStack_71 rfl ?_
            refine v_lconst0 (q := 73) dX1_readStartStack_72 rfl ?_
            refine v_cVV4 (q := 76) dX1_readStartStack_73 mlX1_104 mdX1_keepLeast (by decide) kd_83 rfl rfl ⟨Nat.le_refl 0, Nat.le_refl 0⟩ (by exact Nat.le_of_ble_eq_true rfl) rfl (c_X1_keepLeast y.2.2.1 sy ((20 : Nat) : Int) 0 M1 hf.1 hf.2 (by omega) (by omega) (by rw [e84]; exact h3.1)) ?_
            rw [← hm2]
            rintro _ rfl
            refine v_goto (q := 99) dX1_readStartStack_76 (by decide) ?_
            refine fin m2 (fun p h1 h2 => by rw [hm2, sm_ne _ _ h1, o1 p h2]) (fun x h0 h1 => ?_) lay.1 lay.2 (by rw [hm2, sm_same, e84]; exact h3.1.kl (by omega)) _
            rw [hm2, sm_ne _ _ (by decide), hM1, um_same]
            unfold v0E
            rw [if_neg (by omega), if_pos (by omega), hs0]
            by_cases g : x = y.2.2.1 * 5 + sy - 1
            · rw [g, ui_same, if_pos rfl]
            · rw [ui_ne _ _ g, if_neg g]
              exact rows.1 x h0 h1
    · have hf : rg ((e : Int) + 3) sy := ⟨by omega, by omega⟩
      have hbs : ∀ f l, rg f l → (bsE y e f l ↔ f = (e : Int) + 3 ∧ l = sy) := fun f l _ => by
        unfold bsE
        rw [hsE]
        constructor
        · rintro (⟨a, -⟩ | ⟨a, -⟩ | ⟨-, a, b⟩)
          · omega
          · omega
          · exact ⟨a, b⟩
        · rintro ⟨a, b⟩
          exact Or.inr (Or.inr ⟨by omega, a, b⟩)
      refine v_iload_n (j := 1) (q := 3) rfl dX1_readStartStack_2 rfl ?_
      refine v_aload_n (j := 0) (q := 4) rfl dX1_readStartStack_3 rfl ?_
      refine v_getR (p' := 29) (q := 7) dX1_readStartStack_4 fl_X1_51 kd_83 rfl (rfc_1_2 kd_83) rfl ?_
      refine v_getR (p' := 30) (q := 10) dX1_readStartStack_7 fl_X1_83 kd_29 rfl (rfc_2_3 kd_29) rfl ?_
      refine v_getI (j := 0) (q := 13) dX1_readStartStack_10 fl_X1_89 kd_30 rfl rfl rfl ?_
      rw [e30]
      refine v_icmp_ge (tgt := 110) (q := 16) dX1_readStartStack_13 (by decide) rfl (by omega) (by omega) (fun h13 => ?_) (fun h13 => ?_)
      · exact absurd h13 (by omega)
      · refine v_iload_n (j := 1) (q := 17) rfl dX1_readStartStack_16 rfl ?_
        refine v_iconst (q := 18) dX1_readStartStack_17 rfl ?_
        refine v_icmp_ge (tgt := 110) (q := 21) dX1_readStartStack_18 (by decide) rfl (by omega) (by omega) (fun h18 => ?_) (fun h18 => ?_)
        · exact absurd h18 (by omega)
        · refine v_bipush (q := 23) (by decide) dX1_readStartStack_21 rfl ?_
          refine v_iload_n (j := 1) (q := 24) rfl dX1_readStartStack_23 rfl ?_
          refine v_iadd (q := 25) dX1_readStartStack_24 rfl ?_
          rw [show (20 : Int) + (i : Int) = (e : Int) by omega]
          refine v_ist2 (q := 26) rfl dX1_readStartStack_25 (by decide) rfl ?_
          refine v_aload_n (j := 0) (q := 27) rfl dX1_readStartStack_26 rfl ?_
          refine v_getR (p' := 29) (q := 30) dX1_readStartStack_27 fl_X1_51 kd_83 rfl (rfc_1_2 kd_83) rfl ?_
          refine v_getR (p' := 30) (q := 33) dX1_readStartStack_30 fl_X1_83 kd_29 rfl (rfc_2_3 kd_29) rfl ?_
          refine v_getR (p' := 31) (q := 36) dX1_readStartStack_33 fl_X1_94 kd_30 rfl (rfc_8_1 kd_30) rfl ?_
          refine v_iload_n (j := 1) (q := 37) rfl dX1_readStartStack_36 rfl ?_
          refine v_iald (q := 38) dX1_readStartStack_37 kd_31 (by omega) (by omega) rfl ?_
          rw [e31]
          refine v_ist3 (q := 39) rfl dX1_readStartStack_38 (by decide) rfl ?_
          refine v_iload_n (j := 1) (q := 40) rfl dX1_readStartStack_39 rfl ?_
          refine v_if_ne (tgt := 79) (q := 43) dX1_readStartStack_40 (by decide) rfl (by omega) (fun h40 => ?_) (fun h40 => ?_)
          · refine v_aload_n (j := 0) (q := 80) rfl dX1_readStartStack_79 rfl ?_
            refine v_iload_n (j := 2) (q := 81) rfl dX1_readStartStack_80 rfl ?_
            refine v_iconst (q := 82) dX1_readStartStack_81 rfl ?_
            refine v_isub (q := 83) dX1_readStartStack_82 rfl ?_
            refine v_iload_n (j := 3) (q := 84) rfl dX1_readStartStack_83 rfl ?_
            refine v_cVV2 (q := 87) dX1_readStartStack_84 mlX1_108 mdX1_readOnFrom (by decide) kd_83 rfl rfl ⟨Nat.le_refl 0, Nat.le_refl 0⟩ (by exact Nat.le_of_ble_eq_true rfl) rfl (c_X1_readOnFrom y ok e (by omega) sy (by omega) hsE.symm M pl.1 h3.1 rows.1) ?_
            rintro m1 ⟨u, rfl, hu⟩
            obtain ⟨M1, hM1⟩ : ∃ M1, M1 = sm M (86 + e) u := ⟨_, rfl⟩
            have o1 : ∀ p, p ≠ 86 + e → M1 p = M p := (fun p hp => by rw [hM1, sm_ne _ _ hp])
            have e84 : M1 84 = M 84 := o1 84 (by omega)
            have lay := BI.lay (M1 := M1) h3 (by omega) hn hf hbs e84
            rw [← hM1]
            refine v_aload_n (j := 0) (q := 88) rfl dX1_readStartStack_87 rfl ?_
            refine v_iconst (q := 89) dX1_readStartStack_88 rfl ?_
            refine v_iload_n (j := 2) (q := 90) rfl dX1_readStartStack_89 rfl ?_
            refine v_iadd (q := 91) dX1_readStartStack_90 rfl ?_
            refine v_iconst (q := 92) dX1_readStartStack_91 rfl ?_
            refine v_isub (q := 93) dX1_readStartStack_92 rfl ?_
            rw [show (4 : Int) + (e : Int) - 1 = (e : Int) + 3 by omega]
            refine v_iload_n (j := 3) (q := 94) rfl dX1_readStartStack_93 rfl ?_
            refine v_iload_n (j := 2) (q := 95) rfl dX1_readStartStack_94 rfl ?_
            refine v_lconst0 (q := 96) dX1_readStartStack_95 rfl ?_
            refine v_cVV4 (q := 99) dX1_readStartStack_96 mlX1_104 mdX1_keepLeast (by decide) kd_83 rfl rfl ⟨Nat.le_refl 0, Nat.le_refl 0⟩ (by exact Nat.le_of_ble_eq_true rfl) rfl (c_X1_keepLeast ((e : Int) + 3) sy e 0 M1 hf.1 hf.2 (by omega) (by omega) (by rw [e84]; exact h3.1)) ?_
            rintro m2 hm2
            rw [hm2] at lay
            refine fin m2 (fun p h1 h2 => by rw [← hm2, sm_ne _ _ h1, o1 p h2]) (fun x h0 h1 => ?_) lay.1 lay.2 (by rw [← hm2, sm_same, e84]; exact h3.1.kl (by omega)) _
            rw [← hm2, sm_ne _ _ (by omega), hM1, sm_same]
            exact hu x h0 h1
          · exact absurd h40 (by omega)
theorem c_X1_readStartStack (y : Sy) (ok : okS y) (mem : Mem) (h : BI y mem (fun _ => False)) : CtrV mX1_readStartStack [aR 83] mem (fun m => frM mem m ∧ BI y m (fun x => 20 ≤ x ∧ x < 20 + ((dgs y.2.2.2.1).length : Int))) := by
  rw [show (fun _ : Int => False) = (fun x => 20 ≤ x ∧ x < 20 + ((0 : Nat) : Int)) from funext (fun x => propext ⟨fun h => h.elim, fun h => by omega⟩)] at h
  refine Ctr.ofV (ls := [aR 83, aU, aU, aU]) rfl (by decide) rfl (Nat.le_of_ble_eq_true rfl) ?_
  refine v_iconst (q := 1) dX1_readStartStack_0 rfl ?_
  refine v_ist1 (q := 2) rfl dX1_readStartStack_1 (by decide) rfl ?_
  exact l_X1_readStartStack y ok mem (dgs y.2.2.2.1).length 0 mem _ _ (by omega) (frM.refl _) h
