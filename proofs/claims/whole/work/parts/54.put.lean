/-! ===== Search.costWithTop, put ===== -/
theorem c_X3_costWithTop (c : Nat) (mem : Mem) (y : Sy) (ex q : Int) (t s : List Int) (p x : Int) (h0 : SQ0 y ex q t c) (hq : SQ y ex q t mem c) (hs : SOK y ex q t mem c s) (hh : mem c 1 = s.length) (hcap : s.length ≤ capS c) (hp : 0 ≤ p ∧ p < y.1) (hx : 1 ≤ x ∧ x ≤ y.2.1) : CtrL mX3_costWithTop [aR c, aI p, aI x] mem (fun z m => mem = m ∧ TMn NO (RC BB y.2.2.2.2 ex p (x :: s) q t) z) := by
  have lp := l_X3_cwt c mem y ex q t s p x h0 hq hs hh hcap hp hx
  obtain ⟨ok, hc, hex, hq2, ht, hlt⟩ := h0
  obtain ⟨hpl, hS0, hpr, g3, g4, g9, ha⟩ := hq
  have hNO := NO_def
  have hS := ok.1
  have hG := ok.2.1
  have hw := okRs.w (S := y.1) (G := y.2.1) ok.2.2.2.2.2
  have hBB : 1 ≤ BB := by unfold BB; omega
  have hcp : capS c ≤ 310 := by unfold capS; split <;> omega
  have hc2 := hc.ge
  have ea := hs.lv.1
  have h01 := bI_01 (s <:+ t)
  have hg0 : kd (c + 2 + 1 + ((t.length : Int) - 1 - s.length).toNat) = (1, 20) := by
    rw [show c + 2 + 1 + ((t.length : Int) - 1 - s.length).toNat = c + 3 + ((t.length : Int) - 1 - s.length).toNat by omega]
    exact sr3 hc (by omega)
  have non : ¬ (s <:+ t ∧ s.length < t.length) → ∀ c0, stayR y ex q t p x s c0 → c0 < NO → NO ≤ c0 := fun hn c0 h9 hl => by
    obtain ⟨t', e1, e2, -⟩ := h9
    refine absurd ⟨⟨t', e2.symm⟩, ?_⟩ hn
    rw [e2, List.length_append]
    have : t'.length ≠ 0 := fun e => e1 (List.length_eq_zero_iff.mp e)
    omega
  have kN : ∀ u8 u9, ¬ (s <:+ t ∧ s.length < t.length) → ∀ u4, V cX3_costWithTop RX3 10 (some .long) (rmk 1 23) (mE (fun r m => ∃ z, r = aL z ∧ mem = m ∧ TMn NO (RC BB y.2.2.2.2 ex p (x :: s) q t) z)) 70 [aR c, aI p, aI x, aI (p * 5 + x - 1), aI u4, aL NO, aU, aI 0, u8, u9] [] mem := fun u8 u9 hn u4 => lp y.1.toNat 0 NO u4 u8 u9 (by omega) (by omega) (by omega) (by omega) (fun h => absurd h (by omega)) (non hn) (fun m c1 c2 m0 m1 => by omega)
  refine Ctr.ofV (ls := [aR c, aI p, aI x, aU, aU, aU, aU, aU, aU, aU]) rfl (by decide) rfl (Nat.le_of_ble_eq_true rfl) ?_
  refine v_iload_n (j := 1) (q := 1) rfl dX3_costWithTop_0 rfl ?_
  refine v_iload_n (j := 2) (q := 2) rfl dX3_costWithTop_1 rfl ?_
  refine v_cSNI2 (q := 5) dX3_costWithTop_2 mlX3_86 mdX9_headOf (by decide) ⟨Nat.le_refl 0, Nat.le_refl 0⟩ (by exact Nat.le_of_ble_eq_true rfl) rfl (c_X9_headOf p x _) ?_
  rintro _ _ ⟨rfl, rfl⟩
  refine v_ist3 (q := 6) rfl dX3_costWithTop_5 (by decide) rfl ?_
  refine v_aload_n (j := 0) (q := 7) rfl dX3_costWithTop_6 rfl ?_
  refine v_getR (p' := c + 11) (q := 10) dX3_costWithTop_7 fl_X3_58 (sr0 hc) rfl (rfc_3_12 (sr0 hc)) rfl ?_
  refine v_aload_n (j := 0) (q := 11) rfl dX3_costWithTop_10 rfl ?_
  refine v_getI (j := 1) (q := 14) dX3_costWithTop_11 fl_X3_17 (sr0 hc) rfl rfl rfl ?_
  rw [hh]
  refine v_zald (q := 15) dX3_costWithTop_14 (sr11 hc) (by omega) (by omega) rfl ?_
  rw [ea]
  refine v_if_eq (tgt := 33) (q := 18) dX3_costWithTop_15 (by decide) rfl (by omega) (fun h15 => ?_) (fun h15 => ?_)
  · refine v_iconst (q := 34) dX3_costWithTop_33 rfl ?_
    refine v_ist4 (q := 36) rfl dX3_costWithTop_34 (by decide) rfl ?_
    refine v_iload (j := 4) (q := 38) rfl dX3_costWithTop_36 rfl ?_
    refine v_if_eq (tgt := 62) (q := 41) dX3_costWithTop_38 (by decide) rfl (by omega) (fun h38 => ?_) (fun h38 => ?_)
    · refine v_ldc2 (n := 16777232777216) (q := 65) klX3_9 rfl dX3_costWithTop_62 rfl ?_
      refine v_lst5 (q := 67) rfl dX3_costWithTop_65 (by decide) rfl ?_
      refine v_iconst (q := 68) dX3_costWithTop_67 rfl ?_
      refine v_ist7 (q := 70) rfl dX3_costWithTop_68 (by decide) rfl ?_
      first
        | exact kN _ _ (fun h => by rw [bI_t h.1] at h15; omega) _
        | exact kN _ _ (fun h => by omega) _
        | (have hsuf : s <:+ t := Classical.byContradiction (fun h => h15 (bI_f h))
           obtain ⟨t', e2⟩ := hsuf
           have e3 := congrArg List.length e2
           rw [List.length_append] at e3
           obtain ⟨n, hn⟩ : ∃ n, t'.length = n + 1 := ⟨t'.length - 1, by omega⟩
           have e4 : c + 2 + 1 + ((t.length : Int) - 1 - s.length).toNat = c + 3 + n := by omega
           have e5 : t.take (n + 1) = t' := by rw [← hn, ← e2]; exact List.take_left
           have hr := ha.2 n (by omega) (p * 5 + x - 1) (by omega) (by omega)
           rw [e5] at hr
           obtain ⟨r1, r2, r3⟩ := hr
           rw [e4]
           have r0 : 0 ≤ mem (c + 3 + n) (p * 5 + x - 1) := by
             rcases Int.lt_or_le (mem (c + 3 + n) (p * 5 + x - 1)) NO with hl | hl
             · exact RC.nn hw hBB (r2 hl)
             · omega
           refine lp y.1.toNat 0 _ _ _ _ (by omega) (by omega) r0 r1 (fun hl => ?_) (fun c0 h9 hl => ?_) (fun m c1 c2 m0 m1 => by omega)
           · have := r2 hl
             rw [RH_hd (by omega)] at this
             rw [← e2]
             exact this.app s
           · obtain ⟨t2, z1, z2, z3⟩ := h9
             have z4 : t2 = t' := List.append_cancel_right (z2.symm.trans e2.symm)
             exact r3 c0 (by rw [RH_hd (by omega), ← z4]; exact z3) hl)
    · exact absurd h38 (by omega)
  · refine v_aload_n (j := 0) (q := 19) rfl dX3_costWithTop_18 rfl ?_
    refine v_getI (j := 1) (q := 22) dX3_costWithTop_19 fl_X3_17 (sr0 hc) rfl rfl rfl ?_
    refine v_aload_n (j := 0) (q := 23) rfl dX3_costWithTop_22 rfl ?_
    refine v_getI (j := 4) (q := 26) dX3_costWithTop_23 fl_X3_28 (sr0 hc) rfl rfl rfl ?_
    rw [hh, g4]
    refine v_icmp_ge (tgt := 33) (q := 29) dX3_costWithTop_26 (by decide) rfl (by omega) (by omega) (fun h26 => ?_) (fun h26 => ?_)
    · refine v_iconst (q := 34) dX3_costWithTop_33 rfl ?_
      refine v_ist4 (q := 36) rfl dX3_costWithTop_34 (by decide) rfl ?_
      refine v_iload (j := 4) (q := 38) rfl dX3_costWithTop_36 rfl ?_
      refine v_if_eq (tgt := 62) (q := 41) dX3_costWithTop_38 (by decide) rfl (by omega) (fun h38 => ?_) (fun h38 => ?_)
      · refine v_ldc2 (n := 16777232777216) (q := 65) klX3_9 rfl dX3_costWithTop_62 rfl ?_
        refine v_lst5 (q := 67) rfl dX3_costWithTop_65 (by decide) rfl ?_
        refine v_iconst (q := 68) dX3_costWithTop_67 rfl ?_
        refine v_ist7 (q := 70) rfl dX3_costWithTop_68 (by decide) rfl ?_
        first
          | exact kN _ _ (fun h => by rw [bI_t h.1] at h15; omega) _
          | exact kN _ _ (fun h => by omega) _
          | (have hsuf : s <:+ t := Classical.byContradiction (fun h => h15 (bI_f h))
             obtain ⟨t', e2⟩ := hsuf
             have e3 := congrArg List.length e2
             rw [List.length_append] at e3
             obtain ⟨n, hn⟩ : ∃ n, t'.length = n + 1 := ⟨t'.length - 1, by omega⟩
             have e4 : c + 2 + 1 + ((t.length : Int) - 1 - s.length).toNat = c + 3 + n := by omega
             have e5 : t.take (n + 1) = t' := by rw [← hn, ← e2]; exact List.take_left
             have hr := ha.2 n (by omega) (p * 5 + x - 1) (by omega) (by omega)
             rw [e5] at hr
             obtain ⟨r1, r2, r3⟩ := hr
             rw [e4]
             have r0 : 0 ≤ mem (c + 3 + n) (p * 5 + x - 1) := by
               rcases Int.lt_or_le (mem (c + 3 + n) (p * 5 + x - 1)) NO with hl | hl
               · exact RC.nn hw hBB (r2 hl)
               · omega
             refine lp y.1.toNat 0 _ _ _ _ (by omega) (by omega) r0 r1 (fun hl => ?_) (fun c0 h9 hl => ?_) (fun m c1 c2 m0 m1 => by omega)
             · have := r2 hl
               rw [RH_hd (by omega)] at this
               rw [← e2]
               exact this.app s
             · obtain ⟨t2, z1, z2, z3⟩ := h9
               have z4 : t2 = t' := List.append_cancel_right (z2.symm.trans e2.symm)
               exact r3 c0 (by rw [RH_hd (by omega), ← z4]; exact z3) hl)
      · exact absurd h38 (by omega)
    · refine v_iconst (q := 30) dX3_costWithTop_29 rfl ?_
      refine v_goto (q := 34) dX3_costWithTop_30 (by decide) ?_
      refine v_ist4 (q := 36) rfl dX3_costWithTop_34 (by decide) rfl ?_
      refine v_iload (j := 4) (q := 38) rfl dX3_costWithTop_36 rfl ?_
      refine v_if_eq (tgt := 62) (q := 41) dX3_costWithTop_38 (by decide) rfl (by omega) (fun h38 => ?_) (fun h38 => ?_)
      · exact absurd h38 (by omega)
      · refine v_aload_n (j := 0) (q := 42) rfl dX3_costWithTop_41 rfl ?_
        refine v_getR (p' := c + 2) (q := 45) dX3_costWithTop_42 fl_X3_37 (sr0 hc) rfl (rfc_3_6 (sr0 hc)) rfl ?_
        refine v_aload_n (j := 0) (q := 46) rfl dX3_costWithTop_45 rfl ?_
        refine v_getI (j := 4) (q := 49) dX3_costWithTop_46 fl_X3_28 (sr0 hc) rfl rfl rfl ?_
        refine v_iconst (q := 50) dX3_costWithTop_49 rfl ?_
        refine v_isub (q := 51) dX3_costWithTop_50 rfl ?_
        refine v_aload_n (j := 0) (q := 52) rfl dX3_costWithTop_51 rfl ?_
        refine v_getI (j := 1) (q := 55) dX3_costWithTop_52 fl_X3_17 (sr0 hc) rfl rfl rfl ?_
        refine v_isub (q := 56) dX3_costWithTop_55 rfl ?_
        rw [hh, g4]
        refine v_aaldL (q := 57) dX3_costWithTop_56 (sr2 hc) (by omega) (by omega) rfl ?_
        refine v_iload_n (j := 3) (q := 58) rfl dX3_costWithTop_57 rfl ?_
        refine v_lald (q := 59) dX3_costWithTop_58 hg0 (by omega) (by omega) rfl ?_
        refine v_goto (q := 65) dX3_costWithTop_59 (by decide) ?_
        refine v_lst5 (q := 67) rfl dX3_costWithTop_65 (by decide) rfl ?_
        refine v_iconst (q := 68) dX3_costWithTop_67 rfl ?_
        refine v_ist7 (q := 70) rfl dX3_costWithTop_68 (by decide) rfl ?_
        first
          | exact kN _ _ (fun h => by rw [bI_t h.1] at h15; omega) _
          | exact kN _ _ (fun h => by omega) _
          | (have hsuf : s <:+ t := Classical.byContradiction (fun h => h15 (bI_f h))
             obtain ⟨t', e2⟩ := hsuf
             have e3 := congrArg List.length e2
             rw [List.length_append] at e3
             obtain ⟨n, hn⟩ : ∃ n, t'.length = n + 1 := ⟨t'.length - 1, by omega⟩
             have e4 : c + 2 + 1 + ((t.length : Int) - 1 - s.length).toNat = c + 3 + n := by omega
             have e5 : t.take (n + 1) = t' := by rw [← hn, ← e2]; exact List.take_left
             have hr := ha.2 n (by omega) (p * 5 + x - 1) (by omega) (by omega)
             rw [e5] at hr
             obtain ⟨r1, r2, r3⟩ := hr
             rw [e4]
             have r0 : 0 ≤ mem (c + 3 + n) (p * 5 + x - 1) := by
               rcases Int.lt_or_le (mem (c + 3 + n) (p * 5 + x - 1)) NO with hl | hl
               · exact RC.nn hw hBB (r2 hl)
               · omega
             refine lp y.1.toNat 0 _ _ _ _ (by omega) (by omega) r0 r1 (fun hl => ?_) (fun c0 h9 hl => ?_) (fun m c1 c2 m0 m1 => by omega)
             · have := r2 hl
               rw [RH_hd (by omega)] at this
               rw [← e2]
               exact this.app s
             · obtain ⟨t2, z1, z2, z3⟩ := h9
               have z4 : t2 = t' := List.append_cancel_right (z2.symm.trans e2.symm)
               exact r3 c0 (by rw [RH_hd (by omega), ← z4]; exact z3) hl)
