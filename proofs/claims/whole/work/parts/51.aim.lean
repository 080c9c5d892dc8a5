/-! ===== Search.pushOnto, fillLevel, aimAt ===== -/
theorem l_X3_push (P : Int → Int → Prop) (c n : Nat) (hc : isSr c) (hn : n + 1 < 6) (mem : Mem) (y : Sy) (ex : Int) (ok : okS y) (hpl : PL mem y) (hS0 : mem (sumS c) 0 = ex) (hex : -6 ≤ ex ∧ ex < 20) (hR : R32 (mem (c + 1) (n + 1))) (hpv : ∀ h, 0 ≤ h → h < 20 → 0 ≤ mem (c + 3 + n) h ∧ mem (c + 3 + n) h ≤ NO)
    (hP : ∀ (k : Nat) r, y.2.2.2.2[k]? = some r → (k : Int) ≠ ex → nd r.2.2.2.1 = 2 → blR r = mem (c + 1) (n + 1) → cr BB r + mem (c + 3 + n) (nxR r) < NO → P (hdR r) (cr BB r + mem (c + 3 + n) (nxR r))) :
    ∀ (j k : Nat) (v : Int → Int), k + j = y.2.2.2.2.length → GSnd P v → (∀ k2 : Nat, k2 < k → (k2 : Int) ≠ ex → ∀ r, y.2.2.2.2[k2]? = some r → nd r.2.2.2.1 = 2 → blR r = mem (c + 1) (n + 1) → v (hdR r) ≤ cr BB r + mem (c + 3 + n) (nxR r)) →
    V cX3_pushOnto RX3 3 none (rmk 1 23) (mE (fun q m => q = aU ∧ ∃ v', sm mem (c + 3 + (n + 1)) v' = m ∧ GSnd P v' ∧ ∀ k2 : Nat, (k2 : Int) ≠ ex → ∀ r, y.2.2.2.2[k2]? = some r → nd r.2.2.2.1 = 2 → blR r = mem (c + 1) (n + 1) → v' (hdR r) ≤ cr BB r + mem (c + 3 + n) (nxR r))) 2 [aR c, aI ((n + 1 : Nat) : Int), aI k] [] (sm mem (c + 3 + (n + 1)) v) := by
  have hNO := NO_def
  have hc2 := hc.ge
  have hlen := ok.2.2.2.2.1
  have hsum := sumS_le (c := c)
  have hne : ∀ q, q ≤ c + 3 + n → q ≠ c + 3 + (n + 1) := fun q hq => by omega
  have hg1 : kd (c + 3 + (n + 1)) = (1, 20) := sr3 hc hn
  have hg0 : kd (c + 2 + 1 + (((n + 1 : Nat) : Int) - 1).toNat) = (1, 20) := by rw [show c + 2 + 1 + (((n + 1 : Nat) : Int) - 1).toNat = c + 3 + n by omega]; exact sr3 hc (by omega)
  have i1 : ((n + 1 : Nat) : Int) < 6 := by omega
  intro j
  induction j with
  | zero =>
    intro k v h1 hs h2
    have hk : k = y.2.2.2.2.length := by omega
    have hp := hpl.congr (m1 := sm mem (c + 3 + (n + 1)) v) (fun q q1 q2 => sm_ne _ _ (hne q (by omega)))
    refine v_iload_n (j := 2) (q := 3) rfl dX3_pushOnto_2 rfl ?_
    refine v_aload_n (j := 0) (q := 4) rfl dX3_pushOnto_3 rfl ?_
    refine v_getR (p' := 29) (q := 7) dX3_pushOnto_4 fl_X3_40 (sr0 hc) rfl (rfc_3_7 (sr0 hc)) rfl ?_
    refine v_getI (j := 1) (q := 10) dX3_pushOnto_7 fl_X3_98 kd_29 rfl rfl rfl ?_
    rw [hp.2.1]
    refine v_icmp_ge (tgt := 108) (q := 13) dX3_pushOnto_10 (by decide) rfl (by omega) (by omega) (fun h10 => ?_) (fun h10 => ?_)
    · refine v_vret dX3_pushOnto_108 ?_
      exact ⟨rfl, v, rfl, hs, fun k2 hk2 r hr => h2 k2 (by have := (List.getElem?_eq_some_iff.mp hr).1; omega) hk2 r hr⟩
    · exact absurd h10 (by omega)
  | succ j ih =>
    intro k v h1 hs h2
    have hk : k < y.2.2.2.2.length := by omega
    have hp := hpl.congr (m1 := sm mem (c + 3 + (n + 1)) v) (fun q q1 q2 => sm_ne _ _ (hne q (by omega)))
    obtain ⟨r, hr⟩ : ∃ r, r = y.2.2.2.2[k] := ⟨_, rfl⟩
    have hr2 : y.2.2.2.2[k]? = some r := by rw [hr]; exact List.getElem?_eq_getElem hk
    have okr := ok.2.2.2.2.2 r (List.mem_of_getElem? hr2)
    have pk := hp.2.2.2.2 k hk
    rw [← hr] at pk
    obtain ⟨p32, p33, p34, p35, p36, p37⟩ := pk
    have p37 : sm mem (c + 3 + (n + 1)) v 37 k = cr BB r := p37
    obtain ⟨c1, c2, c3⟩ := rl_cases okr ok.2.1.2 ok.1.2
    have hS := ok.1
    have hG := ok.2.1
    have q0 := okr.2.2.1
    have e0 : sm mem (c + 3 + (n + 1)) v (sumS c) 0 = ex := by rw [sm_ne _ _ (hne _ (by omega))]; exact hS0
    have ea : sm mem (c + 3 + (n + 1)) v (c + 1) = mem (c + 1) := sm_ne _ _ (hne _ (by omega))
    have ep : sm mem (c + 3 + (n + 1)) v (c + 2 + 1 + (((n + 1 : Nat) : Int) - 1).toNat) = mem (c + 3 + n) := by rw [show c + 2 + 1 + (((n + 1 : Nat) : Int) - 1).toNat = c + 3 + n by omega]; exact sm_ne _ _ (hne _ (by omega))
    have ev : sm mem (c + 3 + (n + 1)) v (c + 3 + (n + 1)) = v := sm_same _ _ _
    have w3 := hs (hdR r) c1.1 c1.2
    have hR2 : R32 (mem (c + 1) ((n + 1 : Nat) : Int)) := hR
    have hbl : -10 ≤ blR r ∧ blR r ≤ 10 := by unfold blR; split <;> omega
    have hn0 := nd_nn r.2.2.2.1
    have hn2 := okr.2.2.2.1.2
    have skip : ((k : Int) = ex ∨ nd r.2.2.2.1 ≠ 2 ∨ blR r ≠ mem (c + 1) ((n + 1 : Nat) : Int)) → V cX3_pushOnto RX3 3 none (rmk 1 23) (mE (fun q m => q = aU ∧ ∃ v', sm mem (c + 3 + (n + 1)) v' = m ∧ GSnd P v' ∧ ∀ k2 : Nat, (k2 : Int) ≠ ex → ∀ r, y.2.2.2.2[k2]? = some r → nd r.2.2.2.1 = 2 → blR r = mem (c + 1) (n + 1) → v' (hdR r) ≤ cr BB r + mem (c + 3 + n) (nxR r))) 2 [aR c, aI ((n + 1 : Nat) : Int), aI ((k : Int) + 1)] [] (sm mem (c + 3 + (n + 1)) v) := fun hq => by
      refine ih (k + 1) v (by omega) hs (fun k2 hk2 hx r2 hr9 hn9 hb9 => ?_)
      by_cases e : k2 = k
      · subst e
        rw [hr2] at hr9
        cases hr9
        exact hq.elim (fun h => absurd h hx) (fun h => h.elim (fun h => absurd hn9 h) (fun h => absurd hb9 h))
      · exact h2 k2 (by omega) hx r2 hr9 hn9 hb9
    refine v_iload_n (j := 2) (q := 3) rfl dX3_pushOnto_2 rfl ?_
    refine v_aload_n (j := 0) (q := 4) rfl dX3_pushOnto_3 rfl ?_
    refine v_getR (p' := 29) (q := 7) dX3_pushOnto_4 fl_X3_40 (sr0 hc) rfl (rfc_3_7 (sr0 hc)) rfl ?_
    refine v_getI (j := 1) (q := 10) dX3_pushOnto_7 fl_X3_98 kd_29 rfl rfl rfl ?_
    rw [hp.2.1]
    refine v_icmp_ge (tgt := 108) (q := 13) dX3_pushOnto_10 (by decide) rfl (by omega) (by omega) (fun h10 => ?_) (fun h10 => ?_)
    · exact absurd h10 (by omega)
    · refine v_iload_n (j := 2) (q := 14) rfl dX3_pushOnto_13 rfl ?_
      refine v_aload_n (j := 0) (q := 15) rfl dX3_pushOnto_14 rfl ?_
      refine v_getR (p' := sumS c) (q := 18) dX3_pushOnto_15 fl_X3_44 (sr0 hc) rfl (srS hc) rfl ?_
      refine v_getI (j := 0) (q := 21) dX3_pushOnto_18 fl_X3_103 (sum1 srB) rfl rfl rfl ?_
      rw [e0]
      refine v_icmp_eq (tgt := 102) (q := 24) dX3_pushOnto_21 (by decide) rfl (by omega) (by omega) (fun h21 => ?_) (fun h21 => ?_)
      · refine v_iinc2 (q := 105) rfl dX3_pushOnto_102 (by decide) rfl ?_
        refine v_goto (q := 2) dX3_pushOnto_105 (by decide) ?_
        first
          | exact skip (Or.inl h21)
          | exact skip (Or.inr (Or.inl h34))
          | exact skip (Or.inr (Or.inr h52))
          | (refine ih (k + 1) _ (by omega) (hs.low c1 (by omega) (fun hlt => hP k r hr2 h21 h34 h52 (by omega))) (fun k2 hk2 hx r2 hr9 hn9 hb9 => ?_)
             by_cases e : k2 = k
             · subst e
               rw [hr2] at hr9
               cases hr9
               exact lw_at _ _ _
             · exact Int.le_trans (lw_le _ _ _ _) (h2 k2 (by omega) hx r2 hr9 hn9 hb9))
      · refine v_aload_n (j := 0) (q := 25) rfl dX3_pushOnto_24 rfl ?_
        refine v_getR (p' := 29) (q := 28) dX3_pushOnto_25 fl_X3_40 (sr0 hc) rfl (rfc_3_7 (sr0 hc)) rfl ?_
        refine v_getR (p' := 34) (q := 31) dX3_pushOnto_28 fl_X3_106 kd_29 rfl (rfc_2_6 kd_29) rfl ?_
        refine v_iload_n (j := 2) (q := 32) rfl dX3_pushOnto_31 rfl ?_
        refine v_iald (q := 33) dX3_pushOnto_32 kd_34 (by omega) (by omega) rfl ?_
        rw [p34]
        refine v_iconst (q := 34) dX3_pushOnto_33 rfl ?_
        refine v_icmp_ne (tgt := 102) (q := 37) dX3_pushOnto_34 (by decide) rfl (by omega) (by omega) (fun h34 => ?_) (fun h34 => ?_)
        · refine v_iinc2 (q := 105) rfl dX3_pushOnto_102 (by decide) rfl ?_
          refine v_goto (q := 2) dX3_pushOnto_105 (by decide) ?_
          first
            | exact skip (Or.inl h21)
            | exact skip (Or.inr (Or.inl h34))
            | exact skip (Or.inr (Or.inr h52))
            | (refine ih (k + 1) _ (by omega) (hs.low c1 (by omega) (fun hlt => hP k r hr2 h21 h34 h52 (by omega))) (fun k2 hk2 hx r2 hr9 hn9 hb9 => ?_)
               by_cases e : k2 = k
               · subst e
                 rw [hr2] at hr9
                 cases hr9
                 exact lw_at _ _ _
               · exact Int.le_trans (lw_le _ _ _ _) (h2 k2 (by omega) hx r2 hr9 hn9 hb9))
        · refine v_aload_n (j := 0) (q := 38) rfl dX3_pushOnto_37 rfl ?_
          refine v_getR (p' := 29) (q := 41) dX3_pushOnto_38 fl_X3_40 (sr0 hc) rfl (rfc_3_7 (sr0 hc)) rfl ?_
          refine v_getR (p' := 36) (q := 44) dX3_pushOnto_41 fl_X3_109 kd_29 rfl (rfc_2_8 kd_29) rfl ?_
          refine v_iload_n (j := 2) (q := 45) rfl dX3_pushOnto_44 rfl ?_
          refine v_iald (q := 46) dX3_pushOnto_45 kd_36 (by omega) (by omega) rfl ?_
          rw [p36]
          refine v_aload_n (j := 0) (q := 47) rfl dX3_pushOnto_46 rfl ?_
          refine v_getR (p' := c + 1) (q := 50) dX3_pushOnto_47 fl_X3_31 (sr0 hc) rfl (rfc_3_5 (sr0 hc)) rfl ?_
          refine v_iload_n (j := 1) (q := 51) rfl dX3_pushOnto_50 rfl ?_
          refine v_iald (q := 52) dX3_pushOnto_51 (sr1 hc) (by omega) (by omega) rfl ?_
          rw [ea]
          refine v_icmp_ne (tgt := 102) (q := 55) dX3_pushOnto_52 (by decide) rfl (by omega) (by omega) (fun h52 => ?_) (fun h52 => ?_)
          · refine v_iinc2 (q := 105) rfl dX3_pushOnto_102 (by decide) rfl ?_
            refine v_goto (q := 2) dX3_pushOnto_105 (by decide) ?_
            first
              | exact skip (Or.inl h21)
              | exact skip (Or.inr (Or.inl h34))
              | exact skip (Or.inr (Or.inr h52))
              | (refine ih (k + 1) _ (by omega) (hs.low c1 (by omega) (fun hlt => hP k r hr2 h21 h34 h52 (by omega))) (fun k2 hk2 hx r2 hr9 hn9 hb9 => ?_)
                 by_cases e : k2 = k
                 · subst e
                   rw [hr2] at hr9
                   cases hr9
                   exact lw_at _ _ _
                 · exact Int.le_trans (lw_le _ _ _ _) (h2 k2 (by omega) hx r2 hr9 hn9 hb9))
          · obtain ⟨-, z2, z3, z4, z5, z6, z7⟩ := (c3.resolve_left (fun h => by have := h.1; omega)).resolve_left (fun h => by have := h.1; omega)
            have w4 := hpv (nxR r) (by omega) (by omega)
            refine v_aload_n (j := 0) (q := 56) rfl dX3_pushOnto_55 rfl ?_
            refine v_getR (p' := c + 2) (q := 59) dX3_pushOnto_56 fl_X3_37 (sr0 hc) rfl (rfc_3_6 (sr0 hc)) rfl ?_
            refine v_iload_n (j := 1) (q := 60) rfl dX3_pushOnto_59 rfl ?_
            refine v_aaldL (q := 61) dX3_pushOnto_60 (sr2 hc) (by omega) (by omega) rfl ?_
            refine v_aload_n (j := 0) (q := 62) rfl dX3_pushOnto_61 rfl ?_
            refine v_getR (p' := 29) (q := 65) dX3_pushOnto_62 fl_X3_40 (sr0 hc) rfl (rfc_3_7 (sr0 hc)) rfl ?_
            refine v_getR (p' := 32) (q := 68) dX3_pushOnto_65 fl_X3_112 kd_29 rfl (rfc_2_4 kd_29) rfl ?_
            refine v_iload_n (j := 2) (q := 69) rfl dX3_pushOnto_68 rfl ?_
            refine v_iald (q := 70) dX3_pushOnto_69 kd_32 (by omega) (by omega) rfl ?_
            rw [p32]
            refine v_aload_n (j := 0) (q := 71) rfl dX3_pushOnto_70 rfl ?_
            refine v_getR (p' := 29) (q := 74) dX3_pushOnto_71 fl_X3_40 (sr0 hc) rfl (rfc_3_7 (sr0 hc)) rfl ?_
            refine v_getR (p' := 37) (q := 77) dX3_pushOnto_74 fl_X3_115 kd_29 rfl (rfc_2_9 kd_29) rfl ?_
            refine v_iload_n (j := 2) (q := 78) rfl dX3_pushOnto_77 rfl ?_
            refine v_lald (q := 79) dX3_pushOnto_78 kd_37 (by omega) (by omega) rfl ?_
            rw [p37]
            refine v_aload_n (j := 0) (q := 80) rfl dX3_pushOnto_79 rfl ?_
            refine v_getR (p' := c + 2) (q := 83) dX3_pushOnto_80 fl_X3_37 (sr0 hc) rfl (rfc_3_6 (sr0 hc)) rfl ?_
            refine v_iload_n (j := 1) (q := 84) rfl dX3_pushOnto_83 rfl ?_
            refine v_iconst (q := 85) dX3_pushOnto_84 rfl ?_
            refine v_isub (q := 86) dX3_pushOnto_85 rfl ?_
            refine v_aaldL (q := 87) dX3_pushOnto_86 (sr2 hc) (by omega) (by omega) rfl ?_
            refine v_aload_n (j := 0) (q := 88) rfl dX3_pushOnto_87 rfl ?_
            refine v_getR (p' := 29) (q := 91) dX3_pushOnto_88 fl_X3_40 (sr0 hc) rfl (rfc_3_7 (sr0 hc)) rfl ?_
            refine v_getR (p' := 35) (q := 94) dX3_pushOnto_91 fl_X3_118 kd_29 rfl (rfc_2_7 kd_29) rfl ?_
            refine v_iload_n (j := 2) (q := 95) rfl dX3_pushOnto_94 rfl ?_
            refine v_iald (q := 96) dX3_pushOnto_95 kd_35 (by omega) (by omega) rfl ?_
            rw [p35]
            refine v_lald (q := 97) dX3_pushOnto_96 hg0 (by omega) (by omega) rfl ?_
            rw [ep]
            refine v_ladd (q := 98) dX3_pushOnto_97 rfl ?_
            refine v_cSNI3 (q := 101) dX3_pushOnto_98 mlX3_121 mdX9_lower (by decide) ⟨Nat.le_refl 0, Nat.le_refl 0⟩ (by exact Nat.le_of_ble_eq_true rfl) rfl (c_X9_lower (c + 3 + (n + 1)) 20 (hdR r) _ _ hg1 c1.1 c1.2 (by omega) (by rw [ev]; omega)) ?_
            rw [lw_mem, sm_sm, ev]
            rintro _ _ ⟨rfl, rfl⟩
            refine v_pop (q := 102) rfl dX3_pushOnto_101 rfl ?_
            refine v_iinc2 (q := 105) rfl dX3_pushOnto_102 (by decide) rfl ?_
            refine v_goto (q := 2) dX3_pushOnto_105 (by decide) ?_
            first
              | exact skip (Or.inl h21)
              | exact skip (Or.inr (Or.inl h34))
              | exact skip (Or.inr (Or.inr h52))
              | (refine ih (k + 1) _ (by omega) (hs.low c1 (by omega) (fun hlt => hP k r hr2 h21 h34 h52 (by omega))) (fun k2 hk2 hx r2 hr9 hn9 hb9 => ?_)
                 by_cases e : k2 = k
                 · subst e
                   rw [hr2] at hr9
                   cases hr9
                   exact lw_at _ _ _
                 · exact Int.le_trans (lw_le _ _ _ _) (h2 k2 (by omega) hx r2 hr9 hn9 hb9))
theorem c_X3_pushOnto (P : Int → Int → Prop) (c n : Nat) (hc : isSr c) (hn : n + 1 < 6) (mem : Mem) (y : Sy) (ex : Int) (ok : okS y) (hpl : PL mem y) (hS0 : mem (sumS c) 0 = ex) (hex : -6 ≤ ex ∧ ex < 20) (hR : R32 (mem (c + 1) (n + 1))) (hpv : ∀ h, 0 ≤ h → h < 20 → 0 ≤ mem (c + 3 + n) h ∧ mem (c + 3 + n) h ≤ NO)
    (hP : ∀ (k : Nat) r, y.2.2.2.2[k]? = some r → (k : Int) ≠ ex → nd r.2.2.2.1 = 2 → blR r = mem (c + 1) (n + 1) → cr BB r + mem (c + 3 + n) (nxR r) < NO → P (hdR r) (cr BB r + mem (c + 3 + n) (nxR r))) (hs : GSnd P (mem (c + 3 + (n + 1)))) : CtrV mX3_pushOnto [aR c, aI ((n + 1 : Nat) : Int)] mem (fun m => ∃ v', sm mem (c + 3 + (n + 1)) v' = m ∧ GSnd P v' ∧ ∀ k2 : Nat, (k2 : Int) ≠ ex → ∀ r, y.2.2.2.2[k2]? = some r → nd r.2.2.2.1 = 2 → blR r = mem (c + 1) (n + 1) → v' (hdR r) ≤ cr BB r + mem (c + 3 + n) (nxR r)) := by
  refine Ctr.ofV (ls := [aR c, aI ((n + 1 : Nat) : Int), aU]) rfl (by decide) rfl (Nat.le_of_ble_eq_true rfl) ?_
  refine v_iconst (q := 1) dX3_pushOnto_0 rfl ?_
  refine v_ist2 (q := 2) rfl dX3_pushOnto_1 (by decide) rfl ?_
  have hk := l_X3_push P c n hc hn mem y ex ok hpl hS0 hex hR hpv hP y.2.2.2.2.length 0 (mem (c + 3 + (n + 1))) (by omega) hs (fun k2 h => absurd h (by omega))
  rw [sm_id mem _ (fun _ => rfl)] at hk
  exact hk
/-- a symbol more of the aim -/
theorem take_s {t : List Int} {n : Nat} (h : n < t.length) : t.take (n + 1) = t.take n ++ [t.getD n 0] := by
  rw [List.take_succ, List.getD_eq_getElem?_getD, List.getElem?_eq_getElem h]
  rfl
theorem flm_at (mem : Mem) (b : Nat) (k n v i : Int) : flm mem b k n v b i = if k ≤ i ∧ i < n then v else mem b i := by unfold flm; rw [if_pos rfl]
theorem c_X3_fillLevel (c i : Nat) (hc : isSr c) (hi : i < 6) (mem : Mem) (y : Sy) (ex q : Int) (t : List Int) (ok : okS y) (hpl : PL mem y) (hS0 : mem (sumS c) 0 = ex) (hex : -6 ≤ ex ∧ ex < 20) (hpr : PRok y.2.2.2.2 ex (mem (sumS c + 1))) (hq : mem c 3 = q) (hq2 : 0 ≤ q ∧ q < y.1) (ht : ∀ d ∈ t, 1 ≤ d ∧ d ≤ y.2.1) (hti : i < t.length) (ha : AimOK y ex q t mem c i) (hai : mem (c + 1) i = t.getD i 0) : CtrV mX3_fillLevel [aR c, aI (i : Int)] mem (fun m => ∃ v', sm mem (c + 3 + i) v' = m ∧ ∀ h, 0 ≤ h → h < 20 → TMn NO (RH y.2.2.2.2 ex q (t.take (i + 1)) h) (v' h)) := by
  have hNO := NO_def
  have hc2 := hc.ge
  have hS := ok.1
  have hG := ok.2.1
  have hsum := sumS_le (c := c)
  have hw := okRs.w (S := y.1) (G := y.2.1) ok.2.2.2.2.2
  have hBB : 1 ≤ BB := by unfold BB; omega
  have hg1 : kd (c + 3 + i) = (1, 20) := sr3 hc hi
  have htd : 1 ≤ t.getD i 0 ∧ t.getD i 0 ≤ y.2.1 := by
    rw [List.getD_eq_getElem?_getD, List.getElem?_eq_getElem hti]
    exact ht _ (List.getElem_mem hti)
  have hne : ∀ q, q < c + 3 + i → q ≠ c + 3 + i := fun q hq => by omega
  obtain ⟨F, hF⟩ : ∃ F, F = flm mem (c + 3 + i) 0 ((20 : Nat) : Int) 16777232777216 := ⟨_, rfl⟩
  have eF : F = sm mem (c + 3 + i) (fun j => if 0 ≤ j ∧ j < 20 then NO else mem (c + 3 + i) j) := hF
  have fin : ∀ v, GSnd (RH y.2.2.2.2 ex q (t.take (i + 1))) v → (∀ h c, 0 ≤ h → h < 20 → c < NO → RIn y.2.2.2.2 ex q (t.take (i + 1)) h c → v h ≤ c) → CtrV mX5_gather [aR (sumS c), aR (c + 3 + i)] (sm mem (c + 3 + i) v) (fun m => ∃ v', sm mem (c + 3 + i) v' = m ∧ ∀ h, 0 ≤ h → h < 20 → TMn NO (RH y.2.2.2.2 ex q (t.take (i + 1)) h) (v' h)) := fun v h1 h2 => by
    have hb : sm mem (c + 3 + i) v (sumS c + 1) = mem (sumS c + 1) := sm_ne _ _ (hne _ (by omega))
    have hu : t.take (i + 1) ≠ [] := fun e => by have := congrArg List.length e; rw [List.length_take, List.length_nil] at this; omega
    have k9 := c_X5_gather (RH y.2.2.2.2 ex q (t.take (i + 1))) (sumS c) (c + 3 + i) srB (srR hc hi) (sm mem (c + 3 + i) v) y ex ok (hpl.congr (fun q q1 q2 => sm_ne _ _ (hne _ (by omega)))) (by rw [sm_ne _ _ (hne _ (by omega))]; exact hS0) hex (by rw [hb]; exact hpr) (by rw [sm_same]; exact gok_run ok (by rw [hb]; exact hpr) hu h1 h2)
    exact k9.mono (fun m ⟨v', e1, e2⟩ => ⟨v', by rw [← e1, sm_sm], e2⟩)
  have gF : GSnd (RH y.2.2.2.2 ex q (t.take (i + 1))) (fun j => if 0 ≤ j ∧ j < 20 then NO else mem (c + 3 + i) j) := fun h h0 h1 => by
    show 0 ≤ (if 0 ≤ h ∧ h < 20 then NO else _) ∧ (if 0 ≤ h ∧ h < 20 then NO else _) ≤ NO ∧ ((if 0 ≤ h ∧ h < 20 then NO else _) < NO → _)
    rw [if_pos ⟨h0, h1⟩]
    exact ⟨by omega, Int.le_refl _, fun h => absurd h (Int.lt_irrefl _)⟩
  cases i with
  | zero =>
    have e3 : F c 3 = q := by rw [eF, sm_ne _ _ (by omega)]; exact hq
    have e4 : F (c + 1) 0 = t.getD 0 0 := by rw [eF, sm_ne _ _ (by omega)]; exact hai
    have hu : t.take (0 + 1) = [t.getD 0 0] := by rw [take_s hti]; rfl
    have g0 : GSnd (RH y.2.2.2.2 ex q (t.take (0 + 1))) (ui (fun j => if 0 ≤ j ∧ j < 20 then NO else mem (c + 3 + 0) j) (q * 5 + t.getD 0 0 - 1) 0) := fun h h0 h1 => by
      unfold ui
      by_cases e : h = q * 5 + t.getD 0 0 - 1
      · rw [if_pos e, e, RH_hd (by omega), hu]
        exact ⟨Int.le_refl _, by omega, fun _ => RC.refl _ _⟩
      · rw [if_neg e]
        exact gF h h0 h1
    have cov : ∀ h c2, 0 ≤ h → h < 20 → c2 < NO → RIn y.2.2.2.2 ex q (t.take (0 + 1)) h c2 → (ui (fun j => if 0 ≤ j ∧ j < 20 then NO else mem (c + 3 + 0) j) (q * 5 + t.getD 0 0 - 1) 0) h ≤ c2 := fun h c2 h0 h1 hlt hin => by
      rcases hin with ⟨c0, e1, e2⟩ | ⟨k, r, u', c', -, -, -, -, g5, g6, -, -⟩
      · rw [hu] at e2
        have e3 : t.getD 0 0 = h % 5 + 1 := (List.cons.inj e2).1
        rw [show q * 5 + t.getD 0 0 - 1 = h by omega, ui_same]
        omega
      · have := congrArg List.length g6
        rw [hu, List.length_append] at this
        have h9 : u'.length ≠ 0 := fun e => g5 (List.length_eq_zero_iff.mp e)
        have h10 : ([t.getD 0 0] : List Int).length = 1 := rfl
        have h11 : [blR r].length = 1 := rfl
        omega
    have e5 : um F (c + 2 + 1 + Int.toNat 0) (q * 5 + t.getD 0 0 - 1) 0 = sm mem (c + 3 + 0) (ui (fun j => if 0 ≤ j ∧ j < 20 then NO else mem (c + 3 + 0) j) (q * 5 + t.getD 0 0 - 1) 0) := by
      refine eq_sm (fun p hp => ?_) (fun j => ?_)
      · show um F (c + 3 + 0) _ _ p = mem p
        rw [um_ne _ _ _ hp, eF, sm_ne _ _ hp]
      · show um F (c + 3 + 0) _ _ (c + 3 + 0) j = _
        rw [um_same, eF, sm_same]
    refine Ctr.ofV (ls := [aR c, aI ((0 : Nat) : Int)]) rfl (by decide) rfl (Nat.le_of_ble_eq_true rfl) ?_
    refine v_aload_n (j := 0) (q := 1) rfl dX3_fillLevel_0 rfl ?_
    refine v_getR (p' := c + 2) (q := 4) dX3_fillLevel_1 fl_X3_37 (sr0 hc) rfl (rfc_3_6 (sr0 hc)) rfl ?_
    refine v_iload_n (j := 1) (q := 5) rfl dX3_fillLevel_4 rfl ?_
    refine v_aaldL (q := 6) dX3_fillLevel_5 (sr2 hc) (by omega) (by omega) rfl ?_
    refine v_ldc2 (n := 16777232777216) (q := 9) klX3_9 rfl dX3_fillLevel_6 rfl ?_
    refine v_cSV2 (q := 12) dX3_fillLevel_9 mlX3_80 mdJ7_fill_d0a16 (by decide) ⟨Nat.le_refl 0, Nat.le_refl 0⟩ (by exact Nat.le_of_ble_eq_true rfl) rfl (c_J7_fill_d0a16 (c + 3 + 0) 20 16777232777216 _ hg1) ?_
    rintro _ rfl
    rw [← hF]
    refine v_iload_n (j := 1) (q := 13) rfl dX3_fillLevel_12 rfl ?_
    refine v_if_ne (tgt := 40) (q := 16) dX3_fillLevel_13 (by decide) rfl (by omega) (fun h13 => ?_) (fun h13 => ?_)
    · exact absurd h13 (by omega)
    · refine v_aload_n (j := 0) (q := 17) rfl dX3_fillLevel_16 rfl ?_
      refine v_getR (p' := c + 2) (q := 20) dX3_fillLevel_17 fl_X3_37 (sr0 hc) rfl (rfc_3_6 (sr0 hc)) rfl ?_
      refine v_iconst (q := 21) dX3_fillLevel_20 rfl ?_
      refine v_aaldL (q := 22) dX3_fillLevel_21 (sr2 hc) (by omega) (by omega) rfl ?_
      refine v_aload_n (j := 0) (q := 23) rfl dX3_fillLevel_22 rfl ?_
      refine v_getI (j := 3) (q := 26) dX3_fillLevel_23 fl_X3_25 (sr0 hc) rfl rfl rfl ?_
      rw [e3]
      refine v_aload_n (j := 0) (q := 27) rfl dX3_fillLevel_26 rfl ?_
      refine v_getR (p' := c + 1) (q := 30) dX3_fillLevel_27 fl_X3_31 (sr0 hc) rfl (rfc_3_5 (sr0 hc)) rfl ?_
      refine v_iconst (q := 31) dX3_fillLevel_30 rfl ?_
      refine v_iald (q := 32) dX3_fillLevel_31 (sr1 hc) (by omega) (by omega) rfl ?_
      rw [e4]
      refine v_cSNI2 (q := 35) dX3_fillLevel_32 mlX3_86 mdX9_headOf (by decide) ⟨Nat.le_refl 0, Nat.le_refl 0⟩ (by exact Nat.le_of_ble_eq_true rfl) rfl (c_X9_headOf q (t.getD 0 0) _) ?_
      rintro _ _ ⟨rfl, rfl⟩
      refine v_lconst0 (q := 36) dX3_fillLevel_35 rfl ?_
      refine v_last (q := 37) dX3_fillLevel_36 hg1 (by omega) (by omega) rfl ?_
      refine v_goto (q := 45) dX3_fillLevel_37 (by decide) ?_
      rw [e5]
      refine v_aload_n (j := 0) (q := 46) rfl dX3_fillLevel_45 rfl ?_
      refine v_getR (p' := sumS c) (q := 49) dX3_fillLevel_46 fl_X3_44 (sr0 hc) rfl (srS hc) rfl ?_
      refine v_aload_n (j := 0) (q := 50) rfl dX3_fillLevel_49 rfl ?_
      refine v_getR (p' := c + 2) (q := 53) dX3_fillLevel_50 fl_X3_37 (sr0 hc) rfl (rfc_3_6 (sr0 hc)) rfl ?_
      refine v_iload_n (j := 1) (q := 54) rfl dX3_fillLevel_53 rfl ?_
      refine v_aaldL (q := 55) dX3_fillLevel_54 (sr2 hc) (by omega) (by omega) rfl ?_
      refine v_cVV1 (q := 58) dX3_fillLevel_55 mlX3_92 mdX5_gather (by decide) (sum1 srB) rfl rfl ⟨Nat.le_refl 0, Nat.le_refl 0⟩ (by exact Nat.le_of_ble_eq_true rfl) rfl (fin _ g0 cov) ?_
      rintro m ⟨v', rfl, hv'⟩
      refine v_vret dX3_fillLevel_58 ?_
      exact ⟨rfl, v', rfl, hv'⟩
  | succ n =>
    have hu : t.take (n + 1 + 1) = t.take (n + 1) ++ [t.getD (n + 1) 0] := take_s hti
    have eO : ∀ q, q ≠ c + 3 + (n + 1) → F q = mem q := fun q h => by rw [eF, sm_ne _ _ h]
    have lev := ha.2 n (by omega)
    have pv : ∀ h, 0 ≤ h → h < 20 → 0 ≤ mem (c + 3 + n) h ∧ mem (c + 3 + n) h ≤ NO := fun h h0 h1 => by
      obtain ⟨l1, l2, l3⟩ := lev h h0 h1
      refine ⟨?_, l1⟩
      rcases Int.lt_or_le (mem (c + 3 + n) h) NO with hl | hl
      · exact RC.nn hw hBB (l2 hl)
      · omega
    have nx : ∀ (k : Nat) r, y.2.2.2.2[k]? = some r → nd r.2.2.2.1 = 2 → (0 ≤ nxR r ∧ nxR r < 20) ∧ dgs r.2.2.2.1 = [r.2.2.2.1 / 10] ++ [blR r] ∧ nxR r = r.2.2.1 * 5 + r.2.2.2.1 / 10 - 1 ∧ 1 ≤ r.2.2.2.1 / 10 ∧ r.2.2.2.1 / 10 ≤ 5 ∧ 1 ≤ r.2.1 ∧ r.2.1 ≤ 5 := fun k r hr h2 => by
      have okr := ok.2.2.2.2.2 r (List.mem_of_getElem? hr)
      obtain ⟨b1, b2, b3⟩ := rl_cases okr hG.2 hS.2
      obtain ⟨-, z2, z3, z4, z5, z6, z7⟩ := (b3.resolve_left (fun h => by have := h.1; omega)).resolve_left (fun h => by have := h.1; omega)
      have q0 := okr.2.2.1
      have x0 := okr.2.1
      exact ⟨by omega, z2, z3, by omega, by omega, by omega, by omega⟩
    have hPn : ∀ (k : Nat) r, y.2.2.2.2[k]? = some r → (k : Int) ≠ ex → nd r.2.2.2.1 = 2 → blR r = F (c + 1) (n + 1) → cr BB r + F (c + 3 + n) (nxR r) < NO → RH y.2.2.2.2 ex q (t.take (n + 1 + 1)) (hdR r) (cr BB r + F (c + 3 + n) (nxR r)) := fun k r hr hk h2 hb hlt => by
      obtain ⟨n0, n1, n2, n3, n4, n5, n6⟩ := nx k r hr h2
      rw [eO _ (by omega)] at hb hlt ⊢
      have c0 : 0 ≤ cr BB r := (rl_cases (ok.2.2.2.2.2 r (List.mem_of_getElem? hr)) hG.2 hS.2).2.1.1
      have l2 := (lev (nxR r) n0.1 n0.2).2.1 (by omega)
      rw [n2, RH_hd (by omega), ← n2] at l2
      unfold hdR
      rw [RH_hd (by omega), hu, ← hai, show ((n + 1 : Nat) : Int) = (n : Int) + 1 by omega, ← hb]
      exact RC.step hr hk (by rw [List.append_nil, n1]; exact l2.app _)
    have covm : ∀ v9 : Int → Int, (∀ k2 : Nat, (k2 : Int) ≠ ex → ∀ r, y.2.2.2.2[k2]? = some r → nd r.2.2.2.1 = 2 → blR r = F (c + 1) (n + 1) → v9 (hdR r) ≤ cr BB r + F (c + 3 + n) (nxR r)) → ∀ h c2, 0 ≤ h → h < 20 → c2 < NO → RIn y.2.2.2.2 ex q (t.take (n + 1 + 1)) h c2 → v9 h ≤ c2 := fun v9 cv h c2 h0 h1 hlt hin => by
      rcases hin with ⟨c0, e1, e2⟩ | ⟨k, r, u', c', g1, g2, g3, g4, g5, g6, g7, g8⟩
      · have := congrArg List.length e2
        rw [List.length_take] at this
        have h11 : [h % 5 + 1].length = 1 := rfl
        omega
      · rw [hu] at g6
        obtain ⟨a1, a2⟩ := List.append_inj' g6 rfl
        have a3 : t.getD (n + 1) 0 = blR r := (List.cons.inj a2).1
        obtain ⟨n0, -⟩ := nx k r g1 g4
        have a4 := cv k g2 r g1 g4 (by rw [eO _ (by omega), ← a3, ← hai]; rfl)
        rw [g3, eO _ (by omega)] at a4
        have c0 : 0 ≤ cr BB r := (rl_cases (ok.2.2.2.2.2 r (List.mem_of_getElem? g1)) hG.2 hS.2).2.1.1
        have a5 := (lev (nxR r) n0.1 n0.2).2.2 c' (by rw [a1]; exact g7) (by omega)
        omega
    refine Ctr.ofV (ls := [aR c, aI ((n + 1 : Nat) : Int)]) rfl (by decide) rfl (Nat.le_of_ble_eq_true rfl) ?_
    refine v_aload_n (j := 0) (q := 1) rfl dX3_fillLevel_0 rfl ?_
    refine v_getR (p' := c + 2) (q := 4) dX3_fillLevel_1 fl_X3_37 (sr0 hc) rfl (rfc_3_6 (sr0 hc)) rfl ?_
    refine v_iload_n (j := 1) (q := 5) rfl dX3_fillLevel_4 rfl ?_
    refine v_aaldL (q := 6) dX3_fillLevel_5 (sr2 hc) (by omega) (by omega) rfl ?_
    refine v_ldc2 (n := 16777232777216) (q := 9) klX3_9 rfl dX3_fillLevel_6 rfl ?_
    refine v_cSV2 (q := 12) dX3_fillLevel_9 mlX3_80 mdJ7_fill_d0a16 (by decide) ⟨Nat.le_refl 0, Nat.le_refl 0⟩ (by exact Nat.le_of_ble_eq_true rfl) rfl (c_J7_fill_d0a16 (c + 3 + (n + 1)) 20 16777232777216 _ hg1) ?_
    rintro _ rfl
    rw [← hF]
    refine v_iload_n (j := 1) (q := 13) rfl dX3_fillLevel_12 rfl ?_
    refine v_if_ne (tgt := 40) (q := 16) dX3_fillLevel_13 (by decide) rfl (by omega) (fun h13 => ?_) (fun h13 => ?_)
    · refine v_aload_n (j := 0) (q := 41) rfl dX3_fillLevel_40 rfl ?_
      refine v_iload_n (j := 1) (q := 42) rfl dX3_fillLevel_41 rfl ?_
      refine v_cVV1 (q := 45) dX3_fillLevel_42 mlX3_89 mdX3_pushOnto (by decide) (sr0 hc) rfl rfl ⟨Nat.le_refl 0, Nat.le_refl 0⟩ (by exact Nat.le_of_ble_eq_true rfl) rfl (c_X3_pushOnto (RH y.2.2.2.2 ex q (t.take (n + 1 + 1))) c n hc hi F y ex ok (hpl.congr (fun q q1 q2 => eO _ (by omega))) (by rw [eO _ (by omega)]; exact hS0) hex (by rw [eO _ (by omega)]; have := hai; rw [show ((n + 1 : Nat) : Int) = (n : Int) + 1 by omega] at this; omega) (fun h h0 h1 => by rw [eO _ (by omega)]; exact pv h h0 h1) hPn (by rw [eF, sm_same]; exact gF)) ?_
      rintro _ ⟨v9, rfl, gs, cv⟩
      rw [eF, sm_sm]
      refine v_aload_n (j := 0) (q := 46) rfl dX3_fillLevel_45 rfl ?_
      refine v_getR (p' := sumS c) (q := 49) dX3_fillLevel_46 fl_X3_44 (sr0 hc) rfl (srS hc) rfl ?_
      refine v_aload_n (j := 0) (q := 50) rfl dX3_fillLevel_49 rfl ?_
      refine v_getR (p' := c + 2) (q := 53) dX3_fillLevel_50 fl_X3_37 (sr0 hc) rfl (rfc_3_6 (sr0 hc)) rfl ?_
      refine v_iload_n (j := 1) (q := 54) rfl dX3_fillLevel_53 rfl ?_
      refine v_aaldL (q := 55) dX3_fillLevel_54 (sr2 hc) (by omega) (by omega) rfl ?_
      refine v_cVV1 (q := 58) dX3_fillLevel_55 mlX3_92 mdX5_gather (by decide) (sum1 srB) rfl rfl ⟨Nat.le_refl 0, Nat.le_refl 0⟩ (by exact Nat.le_of_ble_eq_true rfl) rfl (fin v9 gs (covm v9 cv)) ?_
      rintro m ⟨v', rfl, hv'⟩
      refine v_vret dX3_fillLevel_58 ?_
      exact ⟨rfl, v', rfl, hv'⟩
    · exact absurd h13 (by omega)
