/-! ===== Machine.addArcsTo ===== -/
def rg (f l : Int) : Prop := (0 ≤ f ∧ f < 28) ∧ (0 ≤ l ∧ l < 6)
/-- the arcs to e that the first n rules make, kept in a table -/
def AEr (y : Sy) (v : Int → Int) (e : Int) (n : Nat) (w w' : Int → Int) : Prop :=
  (∀ f l e2, rg f l → 0 ≤ e2 → e2 < 24 → e2 ≠ e → w' (wx f l e2) = w (wx f l e2)) ∧
  (∀ f l, rg f l → w' (wx f l e) = w (wx f l e) ∨ ∃ (k : Nat) (r : Rl), k < n ∧ y.2.2.2.2[k]? = some r ∧ v (hdR r) + cr BB r < NO ∧ f = tgS r ∧ l = tgL r ∧ w' (wx f l e) = (v (hdR r) + cr BB r) / 16777216) ∧
  (∀ f l, rg f l → w (wx f l e) ≠ -6 → w' (wx f l e) ≠ -6 ∧ w' (wx f l e) ≤ w (wx f l e)) ∧
  ∀ (k : Nat) (r : Rl), k < n → y.2.2.2.2[k]? = some r → v (hdR r) + cr BB r < NO → w' (wx (tgS r) (tgL r) e) ≠ -6 ∧ w' (wx (tgS r) (tgL r) e) ≤ (v (hdR r) + cr BB r) / 16777216
theorem AEr.zero (y : Sy) (v : Int → Int) (e : Int) (w : Int → Int) : AEr y v e 0 w w := ⟨fun _ _ _ _ _ _ _ => rfl, fun _ _ _ => Or.inl rfl, fun _ _ _ h => ⟨h, Int.le_refl _⟩, fun k _ h => absurd h (by omega)⟩
theorem AEr.skip {y : Sy} {v : Int → Int} {e : Int} {n : Nat} {w w' : Int → Int} (h : AEr y v e n w w') {r : Rl} (hr : y.2.2.2.2[n]? = some r) (hno : ¬ v (hdR r) + cr BB r < NO) : AEr y v e (n + 1) w w' := by
  refine ⟨h.1, fun f l hf => (h.2.1 f l hf).imp id (fun ⟨k, r, a, b⟩ => ⟨k, r, by omega, b⟩), h.2.2.1, fun k r2 hk hr2 hlt => ?_⟩
  by_cases e9 : k = n
  · subst e9
    rw [hr] at hr2
    cases hr2
    exact absurd hlt hno
  · exact h.2.2.2 k r2 (by omega) hr2 hlt
theorem AEr.add {y : Sy} (ok : okS y) {v : Int → Int} {e : Int} {n : Nat} {w w' : Int → Int} (he : 0 ≤ e ∧ e < 24) (h : AEr y v e n w w') {r : Rl} (hr : y.2.2.2.2[n]? = some r) (hv : 0 ≤ v (hdR r) + cr BB r) : AEr y v e (n + 1) w (kl w' (wx (tgS r) (tgL r) e) (v (hdR r) + cr BB r)) := by
  have hNO := NO_def
  have tr := tg_rng ok hr
  obtain ⟨c, hc⟩ : ∃ c, c = v (hdR r) + cr BB r := ⟨_, rfl⟩
  rw [← hc] at hv ⊢
  refine ⟨fun f l e2 hf h0 h1 h2 => ?_, fun f l hf => ?_, fun f l hf h2 => ?_, fun k r2 hk hr2 hlt => ?_⟩
  · rw [kl_ne _ _ (fun e9 => h2 (wx_inj hf.2 ⟨h0, h1⟩ tr.2 he e9).2.2)]
    exact h.1 f l e2 hf h0 h1 h2
  · by_cases e9 : wx f l e = wx (tgS r) (tgL r) e
    · obtain ⟨i1, i2, -⟩ := wx_inj hf.2 he tr.2 he e9
      rw [e9]
      rcases kl_at w' (wx (tgS r) (tgL r) e) c with g | ⟨g1, g2⟩
      · rw [g, ← e9]
        exact (h.2.1 f l hf).imp id (fun ⟨k, r, a, b⟩ => ⟨k, r, by omega, b⟩)
      · exact Or.inr ⟨n, r, by omega, hr, by rw [← hc]; omega, i1, i2, by rw [g2, hc]⟩
    · rw [kl_ne _ _ e9]
      exact (h.2.1 f l hf).imp id (fun ⟨k, r, a, b⟩ => ⟨k, r, by omega, b⟩)
  · have g := h.2.2.1 f l hf h2
    by_cases e9 : wx f l e = wx (tgS r) (tgL r) e
    · rw [e9] at g ⊢
      have g2 := kl_le w' (wx (tgS r) (tgL r) e) c hv g.1
      exact ⟨g2.1, by omega⟩
    · rw [kl_ne _ _ e9]
      exact g
  · by_cases e9 : k = n
    · subst e9
      rw [hr] at hr2
      cases hr2
      rw [← hc] at hlt ⊢
      exact kl_c _ _ _ hv (by omega)
    · have g := h.2.2.2 k r2 (by omega) hr2 hlt
      by_cases e8 : wx (tgS r2) (tgL r2) e = wx (tgS r) (tgL r) e
      · rw [e8] at g ⊢
        have g2 := kl_le w' (wx (tgS r) (tgL r) e) c hv g.1
        exact ⟨g2.1, by omega⟩
      · rw [kl_ne _ _ e8]
        exact g
/-- the heads that the first n rules open -/
def opH (y : Sy) (v : Int → Int) (n : Nat) (h : Int) : Prop := ∃ (k : Nat) (r : Rl), k < n ∧ y.2.2.2.2[k]? = some r ∧ nd r.2.2.2.1 = 2 ∧ v (hdR r) < NO ∧ h = nxR r
theorem opH.succ {y : Sy} {v : Int → Int} {n : Nat} {r : Rl} (hr : y.2.2.2.2[n]? = some r) (h : Int) : opH y v (n + 1) h ↔ opH y v n h ∨ (nd r.2.2.2.1 = 2 ∧ v (hdR r) < NO ∧ h = nxR r) := by
  constructor
  · rintro ⟨k, r2, g1, g2, g3⟩
    by_cases e : k = n
    · subst e
      rw [hr] at g2
      cases g2
      exact Or.inr g3
    · exact Or.inl ⟨k, r2, by omega, g2, g3⟩
  · rintro (⟨k, r2, g1, g2⟩ | g)
    · exact ⟨k, r2, by omega, g2⟩
    · exact ⟨n, r, by omega, hr, g⟩
def isE (e : Nat) : Prop := e < 24
theorem rowE {e : Nat} (h : e < 24) : kd (86 + e) = (1, 20) := by
  have key : ∀ e, e < 24 → kd (86 + e) = (1, 20) := by decide
  exact key e h
def atQ (y : Sy) (e : Nat) (mem m : Mem) : Prop := (∀ p, p ≠ 83 → p ≠ 84 → p ≠ 111 → p ≠ 112 → p ≠ 86 + e → m p = mem p) ∧ (∀ h, 0 ≤ h → h < 20 → TMn NO (PV y.2.2.2.2 (mem (86 + e)) h) (m (86 + e) h)) ∧ AEr y (m (86 + e)) e y.2.2.2.2.length (mem 84) (m 84) ∧ TWr (m 84) ∧ OX mem m (opH y (m (86 + e)) y.2.2.2.2.length)
theorem l_X1_addArcsTo (y : Sy) (ok : okS y) (e : Nat) (he : e < 24) (mem : Mem) (v : Int → Int) (hpl : PL mem y) (hT : ∀ h, 0 ≤ h → h < 20 → TMn NO (PV y.2.2.2.2 (mem (86 + e)) h) (v h)) (hv : ∀ h, 0 ≤ h → h < 20 → 0 ≤ v h ∧ v h ≤ NO) :
    ∀ (j k : Nat) (M : Mem), k + j = y.2.2.2.2.length → (∀ p, p ≠ 83 → p ≠ 84 → p ≠ 111 → p ≠ 112 → p ≠ 86 + e → M p = mem p) → M (86 + e) = v → AEr y v e k (mem 84) (M 84) → TWr (M 84) → OX mem M (opH y v k) →
    V cX1_addArcsTo RX1 4 none (rmk 3 75) (mE (fun r m => r = aU ∧ atQ y e mem m)) 17 [aR 83, aI (e : Int), aR (86 + e), aI k] [] M := by
  have hNO := NO_def
  have hlen := ok.2.2.2.2.1
  have hg := rowE he
  intro j
  induction j with
  | zero =>
    intro k M h1 h2 h3 h4 h5 h6
    have hk : k = y.2.2.2.2.length := by omega
    subst hk
    have hp := hpl.congr (m1 := M) (fun q q1 q2 => h2 q (by omega) (by omega) (by omega) (by omega) (by omega))
    refine v_iload_n (j := 3) (q := 18) rfl dX1_addArcsTo_17 rfl ?_
    refine v_aload_n (j := 0) (q := 19) rfl dX1_addArcsTo_18 rfl ?_
    refine v_getR (p' := 29) (q := 22) dX1_addArcsTo_19 fl_X1_51 kd_83 rfl (rfc_1_2 kd_83) rfl ?_
    refine v_getI (j := 1) (q := 25) dX1_addArcsTo_22 fl_X1_132 kd_29 rfl rfl rfl ?_
    rw [hp.2.1]
    refine v_icmp_ge (tgt := 79) (q := 28) dX1_addArcsTo_25 (by decide) rfl (by omega) (by omega) (fun h25 => ?_) (fun h25 => ?_)
    · refine v_vret dX1_addArcsTo_79 ?_
      exact ⟨rfl, h2, by rw [h3]; exact hT, by rw [h3]; exact h4, h5, by rw [h3]; exact h6⟩
    · exact absurd h25 (by omega)
  | succ j ih =>
    intro k M h1 h2 h3 h4 h5 h6
    have hp := hpl.congr (m1 := M) (fun q q1 q2 => h2 q (by omega) (by omega) (by omega) (by omega) (by omega))
    have hk : k < y.2.2.2.2.length := by omega
    obtain ⟨r, hr⟩ : ∃ r, r = y.2.2.2.2[k] := ⟨_, rfl⟩
    have hr2 : y.2.2.2.2[k]? = some r := by rw [hr]; exact List.getElem?_eq_getElem hk
    have okr := ok.2.2.2.2.2 r (List.mem_of_getElem? hr2)
    obtain ⟨c1, c2, c3⟩ := rl_cases okr ok.2.1.2 ok.1.2
    have pk := hp.2.2.2.2 k hk
    rw [← hr] at pk
    have pk6 : M 37 k = cr BB r := pk.2.2.2.2.2
    have hvr := hv (hdR r) c1.1 c1.2
    refine v_iload_n (j := 3) (q := 18) rfl dX1_addArcsTo_17 rfl ?_
    refine v_aload_n (j := 0) (q := 19) rfl dX1_addArcsTo_18 rfl ?_
    refine v_getR (p' := 29) (q := 22) dX1_addArcsTo_19 fl_X1_51 kd_83 rfl (rfc_1_2 kd_83) rfl ?_
    refine v_getI (j := 1) (q := 25) dX1_addArcsTo_22 fl_X1_132 kd_29 rfl rfl rfl ?_
    rw [hp.2.1]
    refine v_icmp_ge (tgt := 79) (q := 28) dX1_addArcsTo_25 (by decide) rfl (by omega) (by omega) (fun h25 => ?_) (fun h25 => ?_)
    · exact absurd h25 (by omega)
    · refine v_aload_n (j := 2) (q := 29) rfl dX1_addArcsTo_28 rfl ?_
      refine v_aload_n (j := 0) (q := 30) rfl dX1_addArcsTo_29 rfl ?_
      refine v_getR (p' := 29) (q := 33) dX1_addArcsTo_30 fl_X1_51 kd_83 rfl (rfc_1_2 kd_83) rfl ?_
      refine v_getR (p' := 32) (q := 36) dX1_addArcsTo_33 fl_X1_133 kd_29 rfl (rfc_2_4 kd_29) rfl ?_
      refine v_iload_n (j := 3) (q := 37) rfl dX1_addArcsTo_36 rfl ?_
      refine v_iald (q := 38) dX1_addArcsTo_37 kd_32 (by omega) (by omega) rfl ?_
      rw [pk.1]
      refine v_lald (q := 39) dX1_addArcsTo_38 hg (by omega) (by omega) rfl ?_
      rw [h3]
      refine v_ldc2 (n := 16777232777216) (q := 42) klX1_65 rfl dX1_addArcsTo_39 rfl ?_
      refine v_lcmp_ge (tgt := 73) (q := 46) dX1_addArcsTo_42 dX1_addArcsTo_43 (by decide) rfl (by omega) (by omega) (fun h42 => ?_) (fun h42 => ?_)
      · refine v_iinc3 (q := 76) rfl dX1_addArcsTo_73 (by decide) rfl ?_
        refine v_goto (q := 17) dX1_addArcsTo_76 (by decide) ?_
        first
          | exact ih (k + 1) M (by omega) h2 h3 (h4.skip hr2 (by omega)) h5 (by
              refine ⟨h6.1, h6.2.1, h6.2.2.1, fun x x0 x1 => ?_, h6.2.2.2.2⟩
              rw [h6.2.2.2.1 x x0 x1, opH.succ hr2]
              exact ⟨fun q => q.imp id Or.inl, fun q => q.imp id (fun q => q.resolve_right (fun q => by have := q.2.1; omega))⟩)
          | exact ih (k + 1) m1 (by omega) (fun p a b c d f => by rw [g1 p a b c d]; exact h2 p a b c d f) (by rw [g1 _ (by omega) (by omega) (by omega) (by omega)]; exact h3) (by rw [g2]; exact h4.add ok (by omega) hr2 (by omega)) (by rw [g2]; exact h5.kl (by omega)) (h6.trans g3 (fun x _ _ => by
              rw [opH.succ hr2]
              exact ⟨fun q => q.imp id (fun q => ⟨q.1, q.2.2⟩), fun q => q.imp id (fun q => ⟨q.1, by omega, q.2⟩)⟩))
      · refine v_aload_n (j := 0) (q := 47) rfl dX1_addArcsTo_46 rfl ?_
        refine v_iload_n (j := 3) (q := 48) rfl dX1_addArcsTo_47 rfl ?_
        refine v_iload_n (j := 1) (q := 49) rfl dX1_addArcsTo_48 rfl ?_
        refine v_aload_n (j := 2) (q := 50) rfl dX1_addArcsTo_49 rfl ?_
        refine v_aload_n (j := 0) (q := 51) rfl dX1_addArcsTo_50 rfl ?_
        refine v_getR (p' := 29) (q := 54) dX1_addArcsTo_51 fl_X1_51 kd_83 rfl (rfc_1_2 kd_83) rfl ?_
        refine v_getR (p' := 32) (q := 57) dX1_addArcsTo_54 fl_X1_133 kd_29 rfl (rfc_2_4 kd_29) rfl ?_
        refine v_iload_n (j := 3) (q := 58) rfl dX1_addArcsTo_57 rfl ?_
        refine v_iald (q := 59) dX1_addArcsTo_58 kd_32 (by omega) (by omega) rfl ?_
        rw [pk.1]
        refine v_lald (q := 60) dX1_addArcsTo_59 hg (by omega) (by omega) rfl ?_
        rw [h3]
        refine v_aload_n (j := 0) (q := 61) rfl dX1_addArcsTo_60 rfl ?_
        refine v_getR (p' := 29) (q := 64) dX1_addArcsTo_61 fl_X1_51 kd_83 rfl (rfc_1_2 kd_83) rfl ?_
        refine v_getR (p' := 37) (q := 67) dX1_addArcsTo_64 fl_X1_136 kd_29 rfl (rfc_2_9 kd_29) rfl ?_
        refine v_iload_n (j := 3) (q := 68) rfl dX1_addArcsTo_67 rfl ?_
        refine v_lald (q := 69) dX1_addArcsTo_68 kd_37 (by omega) (by omega) rfl ?_
        rw [pk6]
        refine v_ladd (q := 70) dX1_addArcsTo_69 rfl ?_
        refine v_cVV3 (q := 73) dX1_addArcsTo_70 mlX1_139 mdX1_addArcsBy (by decide) kd_83 rfl rfl ⟨Nat.le_refl 0, Nat.le_refl 0⟩ (by exact Nat.le_of_ble_eq_true rfl) rfl (c_X1_addArcsBy k e (v (hdR r) + cr BB r) M y r ok hr2 pk (by omega) (by omega) h5 h6.1) ?_
        rintro m1 ⟨g1, g2, g3⟩
        refine v_iinc3 (q := 76) rfl dX1_addArcsTo_73 (by decide) rfl ?_
        refine v_goto (q := 17) dX1_addArcsTo_76 (by decide) ?_
        first
          | exact ih (k + 1) M (by omega) h2 h3 (h4.skip hr2 (by omega)) h5 (by
              refine ⟨h6.1, h6.2.1, h6.2.2.1, fun x x0 x1 => ?_, h6.2.2.2.2⟩
              rw [h6.2.2.2.1 x x0 x1, opH.succ hr2]
              exact ⟨fun q => q.imp id Or.inl, fun q => q.imp id (fun q => q.resolve_right (fun q => by have := q.2.1; omega))⟩)
          | exact ih (k + 1) m1 (by omega) (fun p a b c d f => by rw [g1 p a b c d]; exact h2 p a b c d f) (by rw [g1 _ (by omega) (by omega) (by omega) (by omega)]; exact h3) (by rw [g2]; exact h4.add ok (by omega) hr2 (by omega)) (by rw [g2]; exact h5.kl (by omega)) (h6.trans g3 (fun x _ _ => by
              rw [opH.succ hr2]
              exact ⟨fun q => q.imp id (fun q => ⟨q.1, q.2.2⟩), fun q => q.imp id (fun q => ⟨q.1, by omega, q.2⟩)⟩))
theorem c_X1_addArcsTo (y : Sy) (ok : okS y) (e : Nat) (he : e < 24) (mem : Mem) (hpn : PLN mem y) (hv : ∀ h, 0 ≤ h → h < 20 → 0 ≤ mem (86 + e) h ∧ mem (86 + e) h ≤ NO) (hw : TWr (mem 84)) (ho : OQ mem) : CtrV mX1_addArcsTo [aR 83, aI (e : Int)] mem (atQ y e mem) := by
  have hNO := NO_def
  have hg := rowE he
  have hok := gok_spread ok hpn.2.2 (v0 := mem (86 + e)) hv
  refine Ctr.ofV (ls := [aR 83, aI (e : Int), aU, aU]) rfl (by decide) rfl (Nat.le_of_ble_eq_true rfl) ?_
  refine v_aload_n (j := 0) (q := 1) rfl dX1_addArcsTo_0 rfl ?_
  refine v_getR (p' := 85) (q := 4) dX1_addArcsTo_1 fl_X1_25 kd_83 rfl (rfc_1_5 kd_83) rfl ?_
  refine v_iload_n (j := 1) (q := 5) rfl dX1_addArcsTo_4 rfl ?_
  refine v_aaldL (q := 6) dX1_addArcsTo_5 kd_85 (by omega) (by omega) rfl ?_
  refine v_ast2 (q := 7) rfl dX1_addArcsTo_6 (by decide) rfl ?_
  refine v_aload_n (j := 0) (q := 8) rfl dX1_addArcsTo_7 rfl ?_
  refine v_getR (p' := 38) (q := 11) dX1_addArcsTo_8 fl_X1_55 kd_83 rfl (rfc_1_3 kd_83) rfl ?_
  refine v_aload_n (j := 2) (q := 12) rfl dX1_addArcsTo_11 rfl ?_
  refine v_cVV1 (q := 15) dX1_addArcsTo_12 mlX1_126 mdX5_spread (by decide) kd_38 rfl rfl ⟨Nat.le_refl 0, Nat.le_refl 0⟩ (by exact Nat.le_of_ble_eq_true rfl) rfl (c_X5_spread (PV y.2.2.2.2 (mem (86 + e))) 38 (86 + e) (Or.inl rfl) ⟨hg, by omega⟩ mem y (-6) ok hpn.1 hpn.2.1 (by omega) hpn.2.2 hok) ?_
  rintro m1 ⟨v, rfl, hT⟩
  refine v_iconst (q := 16) dX1_addArcsTo_15 rfl ?_
  refine v_ist3 (q := 17) rfl dX1_addArcsTo_16 (by decide) rfl ?_
  have o : ∀ p, p ≠ 86 + e → sm mem (86 + e) v p = mem p := fun p hp => sm_ne _ _ hp
  have hv2 : ∀ h, 0 ≤ h → h < 20 → 0 ≤ v h ∧ v h ≤ NO := fun h h0 h1 => by
    refine ⟨?_, (hT h h0 h1).1⟩
    rcases Int.lt_or_le (v h) NO with hl | hl
    · exact hok.1 h _ ((hT h h0 h1).2.1 hl)
    · omega
  exact l_X1_addArcsTo y ok e he mem v hpn.1 hT hv2 y.2.2.2.2.length 0 (sm mem (86 + e) v) (by omega) (fun p _ _ _ _ h => o p h) (sm_same _ _ _) (by rw [o 84 (by omega)]; exact AEr.zero _ _ _ _) (by rw [o 84 (by omega)]; exact hw) ⟨ho.congr (by rw [o 83 (by omega)]) (o 111 (by omega)) (o 112 (by omega)), by rw [o 83 (by omega)]; exact Int.le_refl _, fun j _ _ => by rw [o 112 (by omega)], fun x _ _ => by rw [o 111 (by omega)]; exact ⟨Or.inl, fun q => q.resolve_right (fun ⟨k, _, h, _⟩ => absurd h (by omega))⟩, fun j _ => by rw [o 83 (by omega)]⟩
