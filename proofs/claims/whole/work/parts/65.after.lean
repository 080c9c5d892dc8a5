/-! ===== Search.top, costAfter, apply ===== -/
def frS (c : Nat) (mem m : Mem) : Prop := (∀ p, p ≠ c → p ≠ c + 9 → p ≠ c + 10 → p ≠ c + 11 → m p = mem p) ∧ ∀ j, j ≠ 1 → m c j = mem c j
theorem frS.trans {c : Nat} {m1 m2 m3 : Mem} (h : frS c m1 m2) (h2 : frS c m2 m3) : frS c m1 m3 := ⟨fun p a b d e => by rw [h2.1 p a b d e]; exact h.1 p a b d e, fun j hj => by rw [h2.2 j hj]; exact h.2 j hj⟩
theorem frS.refl (c : Nat) (m : Mem) : frS c m m := ⟨fun _ _ _ _ _ => rfl, fun _ _ => rfl⟩
theorem frS.sq {c : Nat} {m1 m2 : Mem} {y : Sy} {ex q : Int} {t : List Int} (h : frS c m1 m2) (hq : SQ y ex q t m1 c) (hc : isSr c) (hl : t.length ≤ 6) : SQ y ex q t m2 c := by
  have := hc.ge
  exact hq.congr hc hl (fun p hp => h.1 p (by omega) (by omega) (by omega) (by omega)) (fun j hj => h.2 j (by omega))
/-- the height is lowered to that of s -/
theorem hgt_low {c : Nat} {m : Mem} {y : Sy} {ex q : Int} {t s : List Int} (hS : y.1 ≤ 4) (hs : SOK y ex q t m c s) (z : Int) : SOK y ex q t (um m c 1 z) c s ∧ frS c m (um m c 1 z) ∧ um m c 1 z c 1 = z := ⟨hs.congr hS (fun i _ => by rw [um_ne _ _ _ (by omega)]) (fun i _ => by rw [um_ne _ _ _ (by omega)]) (fun i _ => by rw [um_ne _ _ _ (by omega)]), ⟨fun p a _ _ _ => um_ne _ _ _ a, fun j hj => by rw [um_same, ui_ne _ _ hj]⟩, by rw [um_same, ui_same]⟩
theorem c_X3_top (c : Nat) (mem : Mem) (y : Sy) (ex q : Int) (t s : List Int) (h0 : SQ0 y ex q t c) (hs : SOK y ex q t mem c s) (hh : mem c 1 = s.length) (hcap : s.length ≤ capS c) : CtrI mX3_top [aR c] mem (fun z m => mem = m ∧ s.getD 0 0 = z) := by
  have hc := h0.2.1
  have hcp : capS c ≤ 310 := by unfold capS; split <;> omega
  refine Ctr.ofV (ls := [aR c]) rfl (by decide) rfl (Nat.le_of_ble_eq_true rfl) ?_
  refine v_aload_n (j := 0) (q := 1) rfl dX3_top_0 rfl ?_
  refine v_getI (j := 1) (q := 4) dX3_top_1 fl_X3_17 (sr0 hc) rfl rfl rfl ?_
  rw [hh]
  refine v_if_ne (tgt := 11) (q := 7) dX3_top_4 (by decide) rfl (by omega) (fun h4 => ?_) (fun h4 => ?_)
  · refine v_aload_n (j := 0) (q := 12) rfl dX3_top_11 rfl ?_
    refine v_getR (p' := c + 9) (q := 15) dX3_top_12 fl_X3_51 (sr0 hc) rfl (rfc_3_10 (sr0 hc)) rfl ?_
    refine v_aload_n (j := 0) (q := 16) rfl dX3_top_15 rfl ?_
    refine v_getI (j := 1) (q := 19) dX3_top_16 fl_X3_17 (sr0 hc) rfl rfl rfl ?_
    rw [hh]
    refine v_iconst (q := 20) dX3_top_19 rfl ?_
    refine v_isub (q := 21) dX3_top_20 rfl ?_
    refine v_iald (q := 22) dX3_top_21 (sr9 hc) (by omega) (by omega) rfl ?_
    refine v_iret dX3_top_22 ?_
    refine ⟨_, rfl, rfl, ?_⟩
    cases s with
    | nil => first | rfl | exact absurd rfl h4
    | cons x s =>
      first
        | (have e := congrArg Int.toNat h4; simp at e)
        | (show x = _
           rw [List.length_cons, show ((s.length + 1 : Nat) : Int) - 1 = (s.length : Int) by omega]
           exact hs.2.1.symm)
  · refine v_iconst (q := 8) dX3_top_7 rfl ?_
    refine v_goto (q := 22) dX3_top_8 (by decide) ?_
    refine v_iret dX3_top_22 ?_
    refine ⟨_, rfl, rfl, ?_⟩
    cases s with
    | nil => first | rfl | exact absurd rfl h4
    | cons x s =>
      first
        | (have e := congrArg Int.toNat h4; simp at e)
        | (show x = _
           rw [List.length_cons, show ((s.length + 1 : Nat) : Int) - 1 = (s.length : Int) by omega]
           exact hs.2.1.symm)
theorem c_X3_costAfter (c : Nat) (mem : Mem) (y : Sy) (ex q : Int) (t s : List Int) (k : Nat) (r : Rl) (h0 : SQ0 y ex q t c) (hq : SQ y ex q t mem c) (hs : SOK y ex q t mem c s) (hh : mem c 1 = s.length) (hcap : s.length < capS c) (hr : y.2.2.2.2[k]? = some r) : CtrL mX3_costAfter [aR c, aI (k : Int)] mem (fun z m => frS c mem m ∧ m c 1 = s.length ∧ SOK y ex q t m c s ∧ TMn NO (RC BB y.2.2.2.2 ex r.2.2.1 (dgs r.2.2.2.1 ++ s) q t) z) := by
  obtain ⟨ok, hc, hex, hq2, ht, hlt⟩ := id h0
  have hcp : capS c ≤ 310 := by unfold capS; split <;> omega
  have hS := ok.1
  have hG := ok.2.1
  have hk : k < y.2.2.2.2.length := (List.getElem?_eq_some_iff.mp hr).1
  have hlen := ok.2.2.2.2.1
  have okr := ok.2.2.2.2.2 r (List.mem_of_getElem? hr)
  obtain ⟨c1, c2, c3⟩ := rl_cases okr hG.2 hS.2
  have pk := hq.1.2.2.2.2 k hk
  rw [show y.2.2.2.2[k] = r from (List.getElem?_eq_some_iff.mp hr).2] at pk
  obtain ⟨p32, p33, p34, p35, p36, p37⟩ := pk
  obtain ⟨q0, q1⟩ := okr.2.2.1
  have hn0 := nd_nn r.2.2.2.1
  have hn2 := okr.2.2.2.1.2
  have nx0 : 0 ≤ nxR r ∧ nxR r < 20 := by
    rcases c3 with ⟨z1, z2⟩ | ⟨z1, z2, z3, z4, z5⟩ | ⟨z1, z2, z3, z4, z5, z6, z7⟩
    · unfold nxR; rw [if_pos z1]; omega
    · omega
    · omega
  refine Ctr.ofV (ls := [aR c, aI (k : Int), aU, aU, aU, aU]) rfl (by decide) rfl (Nat.le_of_ble_eq_true rfl) ?_
  refine v_aload_n (j := 0) (q := 1) rfl dX3_costAfter_0 rfl ?_
  refine v_getR (p' := 29) (q := 4) dX3_costAfter_1 fl_X3_40 (sr0 hc) rfl (rfc_3_7 (sr0 hc)) rfl ?_
  refine v_getR (p' := 33) (q := 7) dX3_costAfter_4 fl_X3_152 kd_29 rfl (rfc_2_5 kd_29) rfl ?_
  refine v_iload_n (j := 1) (q := 8) rfl dX3_costAfter_7 rfl ?_
  refine v_iald (q := 9) dX3_costAfter_8 kd_33 (by omega) (by omega) rfl ?_
  rw [p33]
  refine v_ist2 (q := 10) rfl dX3_costAfter_9 (by decide) rfl ?_
  refine v_aload_n (j := 0) (q := 11) rfl dX3_costAfter_10 rfl ?_
  refine v_getR (p' := 29) (q := 14) dX3_costAfter_11 fl_X3_40 (sr0 hc) rfl (rfc_3_7 (sr0 hc)) rfl ?_
  refine v_getR (p' := 34) (q := 17) dX3_costAfter_14 fl_X3_106 kd_29 rfl (rfc_2_6 kd_29) rfl ?_
  refine v_iload_n (j := 1) (q := 18) rfl dX3_costAfter_17 rfl ?_
  refine v_iald (q := 19) dX3_costAfter_18 kd_34 (by omega) (by omega) rfl ?_
  rw [p34]
  refine v_if_ne (tgt := 36) (q := 22) dX3_costAfter_19 (by decide) rfl (by omega) (fun h19 => ?_) (fun h19 => ?_)
  · refine v_aload_n (j := 0) (q := 37) rfl dX3_costAfter_36 rfl ?_
    refine v_getR (p' := 29) (q := 40) dX3_costAfter_37 fl_X3_40 (sr0 hc) rfl (rfc_3_7 (sr0 hc)) rfl ?_
    refine v_getR (p' := 35) (q := 43) dX3_costAfter_40 fl_X3_118 kd_29 rfl (rfc_2_7 kd_29) rfl ?_
    refine v_iload_n (j := 1) (q := 44) rfl dX3_costAfter_43 rfl ?_
    refine v_iald (q := 45) dX3_costAfter_44 kd_35 (by omega) (by omega) rfl ?_
    rw [p35]
    refine v_iconst (q := 46) dX3_costAfter_45 rfl ?_
    refine v_irem (q := 47) (by omega) (by omega) dX3_costAfter_46 rfl ?_
    refine v_iconst (q := 48) dX3_costAfter_47 rfl ?_
    refine v_iadd (q := 49) dX3_costAfter_48 rfl ?_
    refine v_ist3 (q := 50) rfl dX3_costAfter_49 (by decide) rfl ?_
    refine v_aload_n (j := 0) (q := 51) rfl dX3_costAfter_50 rfl ?_
    refine v_getR (p' := 29) (q := 54) dX3_costAfter_51 fl_X3_40 (sr0 hc) rfl (rfc_3_7 (sr0 hc)) rfl ?_
    refine v_getR (p' := 34) (q := 57) dX3_costAfter_54 fl_X3_106 kd_29 rfl (rfc_2_6 kd_29) rfl ?_
    refine v_iload_n (j := 1) (q := 58) rfl dX3_costAfter_57 rfl ?_
    refine v_iald (q := 59) dX3_costAfter_58 kd_34 (by omega) (by omega) rfl ?_
    rw [p34]
    refine v_iconst (q := 60) dX3_costAfter_59 rfl ?_
    refine v_icmp_ne (tgt := 70) (q := 63) dX3_costAfter_60 (by decide) rfl (by omega) (by omega) (fun h60 => ?_) (fun h60 => ?_)
    · obtain ⟨-, z2, z3, z4, z5, z6, z7⟩ := (c3.resolve_left (fun h => by have := h.1; omega)).resolve_left (fun h => by have := h.1; omega)
      have e5 : nxR r % 5 + 1 = r.2.2.2.1 / 10 := by omega
      refine v_aload_n (j := 0) (q := 71) rfl dX3_costAfter_70 rfl ?_
      refine v_aload_n (j := 0) (q := 72) rfl dX3_costAfter_71 rfl ?_
      refine v_getR (p' := 29) (q := 75) dX3_costAfter_72 fl_X3_40 (sr0 hc) rfl (rfc_3_7 (sr0 hc)) rfl ?_
      refine v_getR (p' := 36) (q := 78) dX3_costAfter_75 fl_X3_109 kd_29 rfl (rfc_2_8 kd_29) rfl ?_
      refine v_iload_n (j := 1) (q := 79) rfl dX3_costAfter_78 rfl ?_
      refine v_iald (q := 80) dX3_costAfter_79 kd_36 (by omega) (by omega) rfl ?_
      rw [p36]
      refine v_cVV1 (q := 83) dX3_costAfter_80 mlX3_125 mdX3_put (by decide) (sr0 hc) rfl rfl ⟨Nat.le_refl 0, Nat.le_refl 0⟩ (by exact Nat.le_of_ble_eq_true rfl) rfl (c_X3_put c mem y ex q t s (blR r) h0 hq hs hh hcap ⟨z6, z7⟩) ?_
      rintro m1 ⟨b1, b2, b3, b4⟩
      have hf1 : frS c mem m1 := ⟨b1, b2⟩
      have e3 : m1 c 1 = ((blR r :: s).length : Nat) := by rw [b3, List.length_cons]; omega
      have hl := hgt_low hS.2 b4.2.2 (s.length : Int)
      refine v_aload_n (j := 0) (q := 84) rfl dX3_costAfter_83 rfl ?_
      refine v_iload_n (j := 2) (q := 85) rfl dX3_costAfter_84 rfl ?_
      refine v_iload_n (j := 3) (q := 86) rfl dX3_costAfter_85 rfl ?_
      refine v_cVL2 (q := 89) dX3_costAfter_86 mlX3_131 mdX3_costWithTop (by decide) (sr0 hc) rfl rfl ⟨Nat.le_refl 0, Nat.le_refl 0⟩ (by exact Nat.le_of_ble_eq_true rfl) rfl (c_X3_costWithTop c m1 y ex q t (blR r :: s) r.2.2.1 (nxR r % 5 + 1) h0 (hf1.sq hq hc hlt) b4 e3 (by rw [List.length_cons]; omega) ⟨q0, q1⟩ (by omega)) ?_
      rintro z _ ⟨rfl, hz⟩
      refine v_lst4 (q := 91) rfl dX3_costAfter_89 (by decide) rfl ?_
      refine v_aload_n (j := 0) (q := 92) rfl dX3_costAfter_91 rfl ?_
      refine v_dup (q := 93) rfl dX3_costAfter_92 rfl ?_
      refine v_getI (j := 1) (q := 96) dX3_costAfter_93 fl_X3_17 (sr0 hc) rfl rfl rfl ?_
      rw [b3]
      refine v_iconst (q := 97) dX3_costAfter_96 rfl ?_
      refine v_isub (q := 98) dX3_costAfter_97 rfl ?_
      rw [show (s.length : Int) + 1 - 1 = s.length by omega]
      refine v_putI (j := 1) (q := 101) dX3_costAfter_98 fl_X3_17 (sr0 hc) rfl rfl rfl ?_
      refine v_lload (j := 4) (q := 103) rfl dX3_costAfter_101 rfl ?_
      refine v_lret dX3_costAfter_103 ?_
      refine ⟨z, rfl, hf1.trans hl.2.1, hl.2.2, hl.1, ?_⟩
      rw [z2]
      rw [e5] at hz
      exact hz
    · obtain ⟨-, z2, z3, z4, z5⟩ := (c3.resolve_left (fun h => by have := h.1; omega)).resolve_right (fun h => by have := h.1; omega)
      have e5 : nxR r % 5 + 1 = r.2.2.2.1 := by omega
      refine v_aload_n (j := 0) (q := 64) rfl dX3_costAfter_63 rfl ?_
      refine v_iload_n (j := 2) (q := 65) rfl dX3_costAfter_64 rfl ?_
      refine v_iload_n (j := 3) (q := 66) rfl dX3_costAfter_65 rfl ?_
      refine v_cVL2 (q := 69) dX3_costAfter_66 mlX3_131 mdX3_costWithTop (by decide) (sr0 hc) rfl rfl ⟨Nat.le_refl 0, Nat.le_refl 0⟩ (by exact Nat.le_of_ble_eq_true rfl) rfl (c_X3_costWithTop c mem y ex q t s r.2.2.1 (nxR r % 5 + 1) h0 hq hs hh (by omega) ⟨q0, q1⟩ (by omega)) ?_
      rintro z _ ⟨rfl, hz⟩
      refine v_lret dX3_costAfter_69 ?_
      refine ⟨z, rfl, frS.refl _ _, hh, hs, ?_⟩
      rw [z2]
      rw [e5] at hz
      exact hz
  · have z2 : dgs r.2.2.2.1 = [] := (c3.resolve_right (fun h => by rcases h with h | h <;> (have := h.1; omega))).2
    refine v_aload_n (j := 0) (q := 23) rfl dX3_costAfter_22 rfl ?_
    refine v_getR (p' := c + 10) (q := 26) dX3_costAfter_23 fl_X3_54 (sr0 hc) rfl (rfc_3_11 (sr0 hc)) rfl ?_
    refine v_aload_n (j := 0) (q := 27) rfl dX3_costAfter_26 rfl ?_
    refine v_getI (j := 1) (q := 30) dX3_costAfter_27 fl_X3_17 (sr0 hc) rfl rfl rfl ?_
    rw [hh]
    refine v_iconst (q := 31) dX3_costAfter_30 rfl ?_
    refine v_imul (q := 32) dX3_costAfter_31 rfl ?_
    refine v_iload_n (j := 2) (q := 33) rfl dX3_costAfter_32 rfl ?_
    refine v_iadd (q := 34) dX3_costAfter_33 rfl ?_
    refine v_lald (q := 35) dX3_costAfter_34 (sr10 hc) (by omega) (by omega) rfl ?_
    refine v_lret dX3_costAfter_35 ?_
    refine ⟨_, rfl, frS.refl _ _, hh, hs, ?_⟩
    rw [z2]
    exact hs.lv.2 _ q0 q1
theorem c_X3_apply (c : Nat) (mem : Mem) (y : Sy) (ex q : Int) (t s : List Int) (k : Nat) (r : Rl) (h0 : SQ0 y ex q t c) (hq : SQ y ex q t mem c) (hs : SOK y ex q t mem c s) (hh : mem c 1 = s.length) (hcap : s.length + 1 < capS c) (hr : y.2.2.2.2[k]? = some r) : CtrV mX3_apply [aR c, aI (k : Int)] mem (fun m => frS c mem m ∧ m c 1 = (dgs r.2.2.2.1 ++ s).length ∧ SOK y ex q t m c (dgs r.2.2.2.1 ++ s)) := by
  obtain ⟨ok, hc, hex, hq2, ht, hlt⟩ := id h0
  have hcp : capS c ≤ 310 := by unfold capS; split <;> omega
  have hS := ok.1
  have hG := ok.2.1
  have hk : k < y.2.2.2.2.length := (List.getElem?_eq_some_iff.mp hr).1
  have hlen := ok.2.2.2.2.1
  have okr := ok.2.2.2.2.2 r (List.mem_of_getElem? hr)
  obtain ⟨c1, c2, c3⟩ := rl_cases okr hG.2 hS.2
  have pk : ∀ m, SQ y ex q t m c → PLk m k r := fun m hm => by
    have := hm.1.2.2.2.2 k hk
    rwa [show y.2.2.2.2[k] = r from (List.getElem?_eq_some_iff.mp hr).2] at this
  obtain ⟨p32, p33, p34, p35, p36, p37⟩ := pk mem hq
  obtain ⟨q0, q1⟩ := okr.2.2.1
  have hn0 := nd_nn r.2.2.2.1
  have hn2 := okr.2.2.2.1.2
  have hNX : 0 ≤ nxR r ∧ nxR r < 20 := by
    rcases c3 with ⟨z1, z2⟩ | ⟨z1, z2, z3, z4, z5⟩ | ⟨z1, z2, z3, z4, z5, z6, z7⟩
    · unfold nxR; rw [if_pos z1]; omega
    · omega
    · omega
  rcases c3 with ⟨z1, z2⟩ | ⟨z1, z2, z3, z4, z5⟩ | ⟨z1, z2, z3, z4, z5, z6, z7⟩
  · rw [z2]
    refine Ctr.ofV (ls := [aR c, aI (k : Int)]) rfl (by decide) rfl (Nat.le_of_ble_eq_true rfl) ?_
    refine v_aload_n (j := 0) (q := 1) rfl dX3_apply_0 rfl ?_
    refine v_getR (p' := 29) (q := 4) dX3_apply_1 fl_X3_40 (sr0 hc) rfl (rfc_3_7 (sr0 hc)) rfl ?_
    refine v_getR (p' := 34) (q := 7) dX3_apply_4 fl_X3_106 kd_29 rfl (rfc_2_6 kd_29) rfl ?_
    refine v_iload_n (j := 1) (q := 8) rfl dX3_apply_7 rfl ?_
    refine v_iald (q := 9) dX3_apply_8 kd_34 (by omega) (by omega) rfl ?_
    rw [p34]
    refine v_iconst (q := 10) dX3_apply_9 rfl ?_
    refine v_icmp_ne (tgt := 26) (q := 13) dX3_apply_10 (by decide) rfl (by omega) (by omega) (fun h10 => ?_) (fun h10 => ?_)
    · refine v_aload_n (j := 0) (q := 27) rfl dX3_apply_26 rfl ?_
      refine v_getR (p' := 29) (q := 30) dX3_apply_27 fl_X3_40 (sr0 hc) rfl (rfc_3_7 (sr0 hc)) rfl ?_
      refine v_getR (p' := 34) (q := 33) dX3_apply_30 fl_X3_106 kd_29 rfl (rfc_2_6 kd_29) rfl ?_
      refine v_iload_n (j := 1) (q := 34) rfl dX3_apply_33 rfl ?_
      refine v_iald (q := 35) dX3_apply_34 kd_34 (by omega) (by omega) rfl ?_
      rw [p34]
      refine v_if_le (tgt := 55) (q := 38) dX3_apply_35 (by decide) rfl (by omega) (fun h35 => ?_) (fun h35 => ?_)
      · refine v_vret dX3_apply_55 ?_
        exact ⟨rfl, frS.refl _ _, hh, hs⟩
      · exact absurd h35 (by omega)
    · exact absurd h10 (by omega)
  · rw [z2]
    have e5 : nxR r % 5 + 1 = r.2.2.2.1 := by omega
    refine Ctr.ofV (ls := [aR c, aI (k : Int)]) rfl (by decide) rfl (Nat.le_of_ble_eq_true rfl) ?_
    refine v_aload_n (j := 0) (q := 1) rfl dX3_apply_0 rfl ?_
    refine v_getR (p' := 29) (q := 4) dX3_apply_1 fl_X3_40 (sr0 hc) rfl (rfc_3_7 (sr0 hc)) rfl ?_
    refine v_getR (p' := 34) (q := 7) dX3_apply_4 fl_X3_106 kd_29 rfl (rfc_2_6 kd_29) rfl ?_
    refine v_iload_n (j := 1) (q := 8) rfl dX3_apply_7 rfl ?_
    refine v_iald (q := 9) dX3_apply_8 kd_34 (by omega) (by omega) rfl ?_
    rw [p34]
    refine v_iconst (q := 10) dX3_apply_9 rfl ?_
    refine v_icmp_ne (tgt := 26) (q := 13) dX3_apply_10 (by decide) rfl (by omega) (by omega) (fun h10 => ?_) (fun h10 => ?_)
    · refine v_aload_n (j := 0) (q := 27) rfl dX3_apply_26 rfl ?_
      refine v_getR (p' := 29) (q := 30) dX3_apply_27 fl_X3_40 (sr0 hc) rfl (rfc_3_7 (sr0 hc)) rfl ?_
      refine v_getR (p' := 34) (q := 33) dX3_apply_30 fl_X3_106 kd_29 rfl (rfc_2_6 kd_29) rfl ?_
      refine v_iload_n (j := 1) (q := 34) rfl dX3_apply_33 rfl ?_
      refine v_iald (q := 35) dX3_apply_34 kd_34 (by omega) (by omega) rfl ?_
      rw [p34]
      refine v_if_le (tgt := 55) (q := 38) dX3_apply_35 (by decide) rfl (by omega) (fun h35 => ?_) (fun h35 => ?_)
      · exact absurd h35 (by omega)
      · refine v_aload_n (j := 0) (q := 39) rfl dX3_apply_38 rfl ?_
        refine v_aload_n (j := 0) (q := 40) rfl dX3_apply_39 rfl ?_
        refine v_getR (p' := 29) (q := 43) dX3_apply_40 fl_X3_40 (sr0 hc) rfl (rfc_3_7 (sr0 hc)) rfl ?_
        refine v_getR (p' := 35) (q := 46) dX3_apply_43 fl_X3_118 kd_29 rfl (rfc_2_7 kd_29) rfl ?_
        refine v_iload_n (j := 1) (q := 47) rfl dX3_apply_46 rfl ?_
        refine v_iald (q := 48) dX3_apply_47 kd_35 (by omega) (by omega) rfl ?_
        rw [p35]
        refine v_iconst (q := 49) dX3_apply_48 rfl ?_
        refine v_irem (q := 50) (by omega) (by omega) dX3_apply_49 rfl ?_
        refine v_iconst (q := 51) dX3_apply_50 rfl ?_
        refine v_iadd (q := 52) dX3_apply_51 rfl ?_
        rw [e5]
        refine v_cVV1 (q := 55) dX3_apply_52 mlX3_125 mdX3_put (by decide) (sr0 hc) rfl rfl ⟨Nat.le_refl 0, Nat.le_refl 0⟩ (by exact Nat.le_of_ble_eq_true rfl) rfl (c_X3_put c mem y ex q t s r.2.2.2.1 h0 hq hs hh (by omega) ⟨z4, z5⟩) ?_
        rintro m1 ⟨b1, b2, b3, b4⟩
        refine v_vret dX3_apply_55 ?_
        exact ⟨rfl, ⟨b1, b2⟩, by rw [b3]; show _ = ((([r.2.2.2.1] : List Int) ++ s).length : Int); rw [List.length_append, List.length_singleton]; omega, b4⟩
    · exact absurd h10 (by omega)
  · rw [z2]
    have e5 : nxR r % 5 + 1 = r.2.2.2.1 / 10 := by omega
    refine Ctr.ofV (ls := [aR c, aI (k : Int)]) rfl (by decide) rfl (Nat.le_of_ble_eq_true rfl) ?_
    refine v_aload_n (j := 0) (q := 1) rfl dX3_apply_0 rfl ?_
    refine v_getR (p' := 29) (q := 4) dX3_apply_1 fl_X3_40 (sr0 hc) rfl (rfc_3_7 (sr0 hc)) rfl ?_
    refine v_getR (p' := 34) (q := 7) dX3_apply_4 fl_X3_106 kd_29 rfl (rfc_2_6 kd_29) rfl ?_
    refine v_iload_n (j := 1) (q := 8) rfl dX3_apply_7 rfl ?_
    refine v_iald (q := 9) dX3_apply_8 kd_34 (by omega) (by omega) rfl ?_
    rw [p34]
    refine v_iconst (q := 10) dX3_apply_9 rfl ?_
    refine v_icmp_ne (tgt := 26) (q := 13) dX3_apply_10 (by decide) rfl (by omega) (by omega) (fun h10 => ?_) (fun h10 => ?_)
    · exact absurd h10 (by omega)
    · refine v_aload_n (j := 0) (q := 14) rfl dX3_apply_13 rfl ?_
      refine v_aload_n (j := 0) (q := 15) rfl dX3_apply_14 rfl ?_
      refine v_getR (p' := 29) (q := 18) dX3_apply_15 fl_X3_40 (sr0 hc) rfl (rfc_3_7 (sr0 hc)) rfl ?_
      refine v_getR (p' := 36) (q := 21) dX3_apply_18 fl_X3_109 kd_29 rfl (rfc_2_8 kd_29) rfl ?_
      refine v_iload_n (j := 1) (q := 22) rfl dX3_apply_21 rfl ?_
      refine v_iald (q := 23) dX3_apply_22 kd_36 (by omega) (by omega) rfl ?_
      rw [p36]
      refine v_cVV1 (q := 26) dX3_apply_23 mlX3_125 mdX3_put (by decide) (sr0 hc) rfl rfl ⟨Nat.le_refl 0, Nat.le_refl 0⟩ (by exact Nat.le_of_ble_eq_true rfl) rfl (c_X3_put c mem y ex q t s (blR r) h0 hq hs hh (by omega) ⟨z6, z7⟩) ?_
      rintro m1 ⟨b1, b2, b3, b4⟩
      have hf1 : frS c mem m1 := ⟨b1, b2⟩
      have e3 : m1 c 1 = ((blR r :: s).length : Nat) := (by rw [b3, List.length_cons]; omega)
      have hq1 := hf1.sq hq hc hlt
      have p34b := (pk m1 hq1).2.2.1
      have p35b := (pk m1 hq1).2.2.2.1
      refine v_aload_n (j := 0) (q := 27) rfl dX3_apply_26 rfl ?_
      refine v_getR (p' := 29) (q := 30) dX3_apply_27 fl_X3_40 (sr0 hc) rfl (rfc_3_7 (sr0 hc)) rfl ?_
      refine v_getR (p' := 34) (q := 33) dX3_apply_30 fl_X3_106 kd_29 rfl (rfc_2_6 kd_29) rfl ?_
      refine v_iload_n (j := 1) (q := 34) rfl dX3_apply_33 rfl ?_
      refine v_iald (q := 35) dX3_apply_34 kd_34 (by omega) (by omega) rfl ?_
      rw [p34b]
      refine v_if_le (tgt := 55) (q := 38) dX3_apply_35 (by decide) rfl (by omega) (fun h35 => ?_) (fun h35 => ?_)
      · exact absurd h35 (by omega)
      · refine v_aload_n (j := 0) (q := 39) rfl dX3_apply_38 rfl ?_
        refine v_aload_n (j := 0) (q := 40) rfl dX3_apply_39 rfl ?_
        refine v_getR (p' := 29) (q := 43) dX3_apply_40 fl_X3_40 (sr0 hc) rfl (rfc_3_7 (sr0 hc)) rfl ?_
        refine v_getR (p' := 35) (q := 46) dX3_apply_43 fl_X3_118 kd_29 rfl (rfc_2_7 kd_29) rfl ?_
        refine v_iload_n (j := 1) (q := 47) rfl dX3_apply_46 rfl ?_
        refine v_iald (q := 48) dX3_apply_47 kd_35 (by omega) (by omega) rfl ?_
        rw [p35b]
        refine v_iconst (q := 49) dX3_apply_48 rfl ?_
        refine v_irem (q := 50) (by omega) (by omega) dX3_apply_49 rfl ?_
        refine v_iconst (q := 51) dX3_apply_50 rfl ?_
        refine v_iadd (q := 52) dX3_apply_51 rfl ?_
        rw [e5]
        refine v_cVV1 (q := 55) dX3_apply_52 mlX3_125 mdX3_put (by decide) (sr0 hc) rfl rfl ⟨Nat.le_refl 0, Nat.le_refl 0⟩ (by exact Nat.le_of_ble_eq_true rfl) rfl (c_X3_put c m1 y ex q t (blR r :: s) (r.2.2.2.1 / 10) h0 hq1 b4 e3 (by rw [List.length_cons]; omega) ⟨z4, z5⟩) ?_
        rintro m2 ⟨d1, d2, d3, d4⟩
        refine v_vret dX3_apply_55 ?_
        exact ⟨rfl, hf1.trans ⟨d1, d2⟩, by rw [d3]; show _ = ((r.2.2.2.1 / 10 :: blR r :: s).length : Int); rw [List.length_cons, List.length_cons]; omega, d4⟩
