/-! ===== the reference: firstOf, witness ===== -/
theorem BK.popn {y : Sy} {ex q : Int} {t sl : List Int} : ∀ (u : List Int) {m m1 : Mem}, BK y ex q t m (u ++ sl) → m1 116 11 = sl.length → m1 121 = m 121 → m1 122 = m 122 → BK y ex q t m1 sl
  | [], m, m1, h, h1, h2, h3 => h.congr (by rw [h1]; exact h.1.symm) h2 h3
  | x :: u, m, m1, h, h1, h2, h3 => by
    have h9 : BK y ex q t (um m 116 11 ((u ++ sl).length : Nat)) (u ++ sl) := BK.pop (x := x) h (by rw [um_same, ui_same]) (um_ne _ _ _ (by decide)) (um_ne _ _ _ (by decide))
    exact BK.popn u h9 h1 (by rw [h2, um_ne _ _ _ (by decide)]) (by rw [h3, um_ne _ _ _ (by decide)])
/-- what the row below tells of a rule, against what is left -/
theorem wok_R {y : Sy} (ok : okS y) {p : Int} {s : List Int} {q : Int} {t : List Int} {z w W n : Int} (h : TMn EN (RC BR y.2.2.2.2 (-1) p s q t) z) (hW : W ≤ 1000000) (hn : 0 < n ∧ n ≤ W) (hw : 1 ≤ w ∧ w ≤ 20) : (z < 4000000000000000000 ∧ z + (w * 2097152 + 1) = W * 2097152 + n) ↔ lm y.2.2.2.2 (-6) p s q t = some (W - w, n - 1) := by
  obtain ⟨a, b, c⟩ := lm_R ok h
  rw [← lm_ex]
  constructor
  · rintro ⟨h1, h2⟩
    rw [(b (by omega)).1]
    congr 2 <;> omega
  · intro h1
    by_cases hz : z < 2097154097152
    · have h2 := b hz
      rw [h1] at h2
      have e := Option.some.inj h2.1
      have e1 : W - w = z / 2097152 := congrArg Prod.fst e
      have e2 : n - 1 = z % 2097152 := congrArg Prod.snd e
      omega
    · rw [c (by omega)] at h1
      cases h1
theorem l_X10_firstOf (mem : Mem) (y : Sy) (hS : SM (mem 117) 0 y) (q : Int) (t : List Int) (ht : t.length ≤ 6) (hq : 0 ≤ q ∧ q < y.1) (hv : WOK y (-1) q t (mem 120)) (a : Cf) (hl : lm y.2.2.2.2 (-6) a.1 a.2.1 q t = some (a.2.2.1, a.2.2.2)) (hn : 0 < a.2.2.2) (ha : 0 ≤ a.1 ∧ a.1 < y.1) (hd : ∀ d ∈ a.2.1, 1 ≤ d ∧ d ≤ y.2.1) (hlen : a.2.1.length ≤ 310) (as : Int) (has : as = 0 ∨ as = 1) :
    ∀ (j k : Nat) (M : Mem) (u6 u7 : AV), k + j = y.2.2.2.2.length → frP mem M → BK y (-1) q t M a.2.1 → (∀ i, i < k → ∀ r s', ¬ wok y.2.2.2.2 q t a i r s') →
    V cX10_firstOf RX10 8 (some .int) (rmk 3 74) (mE (fun r m => ∃ z, r = aI z ∧ ∃ (k : Nat) (b : Cf), (k : Int) = z ∧ wF y.2.2.2.2 q t a k b ∧ frP mem m ∧ (as = 0 → BK y (-1) q t m b.2.1) ∧ (as ≠ 0 → BK y (-1) q t m a.2.1))) 3 [aR 116, aI a.1, aL (a.2.2.1 * 2097152 + a.2.2.2), aU, aI as, aI k, u6, u7] [] M := by
  have ok := hS.2.2.1
  have f := hS.facts
  have hw := okRs.w (S := y.1) (G := y.2.1) ok.2.2.2.2.2
  obtain ⟨hl1, hl2, hl3⟩ := lm_some.mp hl
  have hnW := hl1.le hw
  have hW : a.2.2.1 ≤ 1000000 := hl2
  have hnW2 : a.2.2.2 ≤ a.2.2.1 := hnW.2
  have h20 := ok.2.2.2.2.1
  have hlen2 := f.2.2.2.2.2.2.2.2.2.2.2
  have hS4 := ok.1
  intro j
  induction j with
  | zero =>
    intro k M u6 u7 h1 h2 h3 h4
    obtain ⟨k0, b, ⟨⟨r, s', w1, -⟩, -⟩, -, hk0, -⟩ := wF.ex ok hl hn
    exact absurd w1 (h4 k0 (by omega) r s')
  | succ j ih =>
    intro k M u6 u7 h1 h2 h3 h4
    have hk : k < y.2.2.2.2.length := by omega
    obtain ⟨r, hr⟩ : ∃ r, r = y.2.2.2.2[k] := ⟨_, rfl⟩
    have hr2 : y.2.2.2.2[k]? = some r := by rw [hr]; exact List.getElem?_eq_getElem hk
    have okr := ok.2.2.2.2.2 r (List.mem_of_getElem? hr2)
    have e17 : M 117 = mem 117 := h2.1 117 (by decide) (by decide) (by decide)
    have e2 : M 117 2 = (y.2.2.2.2.length : Nat) := by rw [e17]; exact hlen2.symm
    have rf := hS.RFs.2 k r hr2
    obtain ⟨rf0, rf1, rf2, rf3, rf4⟩ := rf
    have okd := okr.2.2.2.1.1.2
    have hG := ok.2.1
    have hw2 := nd_bound 2 okr.2.2.2.1.1.1 okr.2.2.2.1.2
    have hw0 := okr.2.2.2.1.1.1
    have hdl := dgs_len r.2.2.2.1
    have hnd := okr.2.2.2.1.2
    have skip : (∀ s', ¬ wok y.2.2.2.2 q t a k r s') → ∀ (M : Mem) (u6 u7 : AV), frP mem M → BK y (-1) q t M a.2.1 → V cX10_firstOf RX10 8 (some .int) (rmk 3 74) (mE (fun r m => ∃ z, r = aI z ∧ ∃ (k : Nat) (b : Cf), (k : Int) = z ∧ wF y.2.2.2.2 q t a k b ∧ frP mem m ∧ (as = 0 → BK y (-1) q t m b.2.1) ∧ (as ≠ 0 → BK y (-1) q t m a.2.1))) 3 [aR 116, aI a.1, aL (a.2.2.1 * 2097152 + a.2.2.2), aU, aI as, aI ((k : Int) + 1), u6, u7] [] M := fun hno M u6 u7 g1 g2 => by
      refine ih (k + 1) M u6 u7 (by omega) g1 g2 (fun i hi r2 s2 hw9 => ?_)
      by_cases e : i = k
      · subst e
        have e9 := hw9.1
        rw [hr2] at e9
        cases e9
        exact hno s2 hw9
      · exact h4 i (by omega) r2 s2 hw9
    obtain ⟨x, s', hst⟩ : ∃ x s', a.2.1 = x :: s' := by
      match e : a.2.1 with
      | [] =>
        exfalso
        rw [e] at hl1
        obtain ⟨k1, e1, r1⟩ := hl1
        have := r1.nil
        have : (k1 : Int) = a.2.2.2 := e1
        omega
      | x :: s' => exact ⟨x, s', rfl⟩
    have h3' : BK y (-1) q t M (x :: s') := by rw [← hst]; exact h3
    have hlen' : s'.length + 1 ≤ 310 := by rw [hst, List.length_cons] at hlen; exact hlen
    have hx : 1 ≤ x ∧ x ≤ y.2.1 := hd x (by rw [hst]; exact List.mem_cons_self)
    obtain ⟨okr1, okr2, okr3, -, okr5⟩ := id okr
    have e11 : M 116 11 = (s'.length : Nat) + 1 := by rw [h3'.1, List.length_cons]; omega
    have etop : M 121 ((s'.length : Nat) + 1 - 1) = x := by
      have := h3'.2.2 s'.length (by rw [List.length_cons]; omega)
      rw [show ((s'.length : Nat) : Int) + 1 - 1 = (s'.length : Nat) by omega, this, List.length_cons, show s'.length + 1 - 1 - s'.length = 0 by omega]
      rfl
    obtain ⟨M1, hM1⟩ : ∃ M1, M1 = um M 116 11 ((s'.length : Nat) + 1 - 1) := ⟨_, rfl⟩
    have b1 : BK y (-1) q t M1 s' := h3'.pop (by rw [hM1, um_same, ui_same]; omega) (by rw [hM1, um_ne _ _ _ (by decide)]) (by rw [hM1, um_ne _ _ _ (by decide)])
    have f1 : frP M M1 := ⟨fun p h5 h6 h7 => by rw [hM1, um_ne _ _ _ h5], fun j hj => by rw [hM1, um_same, ui_ne _ _ hj]⟩
    have e171 : M1 117 = mem 117 := by rw [hM1, um_ne _ _ _ (by decide), e17]
    have e201 : M1 120 = mem 120 := by rw [hM1, um_ne _ _ _ (by decide), h2.1 120 (by decide) (by decide) (by decide)]
    have no1 : r.1 ≠ a.1 → ∀ s2, ¬ wok y.2.2.2.2 q t a k r s2 := fun h9 s2 hw9 => h9 hw9.2.1
    have no2 : r.2.1 ≠ x → ∀ s2, ¬ wok y.2.2.2.2 q t a k r s2 := fun h9 s2 hw9 => by
      have := hw9.2.2.1
      rw [hst] at this
      exact h9 (List.cons.inj this).1.symm
    refine v_iload (j := 5) (q := 5) rfl dX10_firstOf_3 rfl ?_
    refine v_aload_n (j := 0) (q := 6) rfl dX10_firstOf_5 rfl ?_
    refine v_getR (p' := 117) (q := 9) dX10_firstOf_6 fl_X10_7 kd_116 rfl (rfc_10_0 kd_116) rfl ?_
    refine v_iconst (q := 10) dX10_firstOf_9 rfl ?_
    refine v_iald (q := 11) dX10_firstOf_10 kd_117 (by omega) (by omega) rfl ?_
    rw [e2]
    refine v_icmp_ge (tgt := 198) (q := 14) dX10_firstOf_11 (by decide) rfl (by omega) (by omega) (fun h11 => ?_) (fun h11 => ?_)
    · exact absurd h11 (by omega)
    · refine v_aload_n (j := 0) (q := 15) rfl dX10_firstOf_14 rfl ?_
      refine v_iload (j := 5) (q := 17) rfl dX10_firstOf_15 rfl ?_
      refine v_iconst (q := 18) dX10_firstOf_17 rfl ?_
      refine v_cVI2 (q := 21) dX10_firstOf_18 mlX10_67 mdX10_of (by decide) kd_116 rfl rfl ⟨Nat.le_refl 0, Nat.le_refl 0⟩ (by exact Nat.le_of_ble_eq_true rfl) rfl (c_X10_of k 0 M (by omega) (by omega)) ?_
      rw [e17, rf0]
      rintro _ _ ⟨rfl, rfl⟩
      refine v_iload_n (j := 1) (q := 22) rfl dX10_firstOf_21 rfl ?_
      refine v_icmp_ne (tgt := 192) (q := 25) dX10_firstOf_22 (by decide) rfl (by omega) (by omega) (fun h22 => ?_) (fun h22 => ?_)
      · refine v_iinc5 (q := 195) rfl dX10_firstOf_192 (by decide) rfl ?_
        refine v_goto (q := 3) dX10_firstOf_195 (by decide) ?_
        first
          | exact skip (no1 h22) _ _ _ h2 h3
          | exact skip (no2 h43) _ _ _ h2 h3
          | exact skip (fun s2 hw9 => by
              have e9 := hw9.2.2.1
              rw [hst] at e9
              have e8 := (List.cons.inj e9).2
              subst e8
              have := hwk.mpr hw9.2.2.2
              omega) _ _ _ f04 (by rw [hst]; exact b4)
      · refine v_aload_n (j := 0) (q := 26) rfl dX10_firstOf_25 rfl ?_
        refine v_iload (j := 5) (q := 28) rfl dX10_firstOf_26 rfl ?_
        refine v_iconst (q := 29) dX10_firstOf_28 rfl ?_
        refine v_cVI2 (q := 32) dX10_firstOf_29 mlX10_67 mdX10_of (by decide) kd_116 rfl rfl ⟨Nat.le_refl 0, Nat.le_refl 0⟩ (by exact Nat.le_of_ble_eq_true rfl) rfl (c_X10_of k 1 M (by omega) (by omega)) ?_
        rw [e17, rf1]
        rintro _ _ ⟨rfl, rfl⟩
        refine v_aload_n (j := 0) (q := 33) rfl dX10_firstOf_32 rfl ?_
        refine v_getR (p' := 121) (q := 36) dX10_firstOf_33 fl_X10_23 kd_116 rfl (rfc_10_9 kd_116) rfl ?_
        refine v_aload_n (j := 0) (q := 37) rfl dX10_firstOf_36 rfl ?_
        refine v_getI (j := 11) (q := 40) dX10_firstOf_37 fl_X10_120 kd_116 rfl rfl rfl ?_
        rw [e11]
        refine v_iconst (q := 41) dX10_firstOf_40 rfl ?_
        refine v_isub (q := 42) dX10_firstOf_41 rfl ?_
        refine v_iald (q := 43) dX10_firstOf_42 kd_121 (by omega) (by omega) rfl ?_
        rw [etop]
        refine v_icmp_ne (tgt := 192) (q := 46) dX10_firstOf_43 (by decide) rfl (by omega) (by omega) (fun h43 => ?_) (fun h43 => ?_)
        · refine v_iinc5 (q := 195) rfl dX10_firstOf_192 (by decide) rfl ?_
          refine v_goto (q := 3) dX10_firstOf_195 (by decide) ?_
          first
            | exact skip (no1 h22) _ _ _ h2 h3
            | exact skip (no2 h43) _ _ _ h2 h3
            | exact skip (fun s2 hw9 => by
                have e9 := hw9.2.2.1
                rw [hst] at e9
                have e8 := (List.cons.inj e9).2
                subst e8
                have := hwk.mpr hw9.2.2.2
                omega) _ _ _ f04 (by rw [hst]; exact b4)
        · refine v_aload_n (j := 0) (q := 47) rfl dX10_firstOf_46 rfl ?_
          refine v_getR (p' := 121) (q := 50) dX10_firstOf_47 fl_X10_23 kd_116 rfl (rfc_10_9 kd_116) rfl ?_
          refine v_aload_n (j := 0) (q := 51) rfl dX10_firstOf_50 rfl ?_
          refine v_getI (j := 11) (q := 54) dX10_firstOf_51 fl_X10_120 kd_116 rfl rfl rfl ?_
          rw [e11]
          refine v_iconst (q := 55) dX10_firstOf_54 rfl ?_
          refine v_isub (q := 56) dX10_firstOf_55 rfl ?_
          refine v_iald (q := 57) dX10_firstOf_56 kd_121 (by omega) (by omega) rfl ?_
          rw [etop]
          refine v_ist6 (q := 59) rfl dX10_firstOf_57 (by decide) rfl ?_
          refine v_aload_n (j := 0) (q := 60) rfl dX10_firstOf_59 rfl ?_
          refine v_dup (q := 61) rfl dX10_firstOf_60 rfl ?_
          refine v_getI (j := 11) (q := 64) dX10_firstOf_61 fl_X10_120 kd_116 rfl rfl rfl ?_
          rw [e11]
          refine v_iconst (q := 65) dX10_firstOf_64 rfl ?_
          refine v_isub (q := 66) dX10_firstOf_65 rfl ?_
          refine v_putI (j := 11) (q := 69) dX10_firstOf_66 fl_X10_120 kd_116 rfl rfl rfl ?_
          rw [← hM1]
          refine v_aload_n (j := 0) (q := 70) rfl dX10_firstOf_69 rfl ?_
          refine v_aload_n (j := 0) (q := 71) rfl dX10_firstOf_70 rfl ?_
          refine v_iload (j := 5) (q := 73) rfl dX10_firstOf_71 rfl ?_
          refine v_iconst (q := 74) dX10_firstOf_73 rfl ?_
          refine v_cVI2 (q := 77) dX10_firstOf_74 mlX10_67 mdX10_of (by decide) kd_116 rfl rfl ⟨Nat.le_refl 0, Nat.le_refl 0⟩ (by exact Nat.le_of_ble_eq_true rfl) rfl (c_X10_of k 3 M1 (by omega) (by omega)) ?_
          rw [e171, rf3]
          rintro _ _ ⟨rfl, rfl⟩
          refine v_cVV1 (q := 80) dX10_firstOf_77 mlX10_127 mdX10_pushWord (by decide) kd_116 rfl rfl ⟨Nat.le_refl 0, Nat.le_refl 0⟩ (by exact Nat.le_of_ble_eq_true rfl) rfl (c_X10_pushWord r.2.2.2.1 M1 y ok (-1) q t s' ht hq (by rw [e201]; exact hv) b1 (by omega) (fun d hd9 => by have := okd d hd9; omega) (by omega)) ?_
          rintro m2 ⟨f2, b2⟩
          have e172 : m2 117 = mem 117 := (by rw [f2.1 117 (by decide) (by decide) (by decide), e171])
          have e12 : m2 116 11 = (dgs r.2.2.2.1).length + s'.length := (by rw [b2.1, List.length_append]; omega)
          have hz0 := b2.2.1 (dgs r.2.2.2.1 ++ s').length (Nat.le_refl _) r.2.2.1 okr.2.2.1.1 (by have := okr.2.2.1.2; omega)
          rw [Nat.sub_self, List.drop_zero] at hz0
          have hz1 := BL.RC okr.2.2.1.2 hS4.2 hz0
          rw [show (11 : Int) * ((dgs r.2.2.2.1 ++ s').length : Nat) + r.2.2.1 = 11 * ((dgs r.2.2.2.1).length + s'.length) + r.2.2.1 by rw [List.length_append]; omega] at hz1
          obtain ⟨z, hz⟩ : ∃ z, m2 122 (11 * ((dgs r.2.2.2.1).length + s'.length) + r.2.2.1) = z := ⟨_, rfl⟩
          rw [hz] at hz1
          have hzr := (lm_R ok hz1).1
          have hwk := wok_R ok hz1 hW ⟨hn, hnW2⟩ okr.2.2.2.2
          have f02 : frP mem m2 := (h2.trans f1).trans f2
          refine v_aload_n (j := 0) (q := 81) rfl dX10_firstOf_80 rfl ?_
          refine v_getR (p' := 122) (q := 84) dX10_firstOf_81 fl_X10_26 kd_116 rfl (rfc_10_10 kd_116) rfl ?_
          refine v_bipush (q := 86) (by decide) dX10_firstOf_84 rfl ?_
          refine v_aload_n (j := 0) (q := 87) rfl dX10_firstOf_86 rfl ?_
          refine v_getI (j := 11) (q := 90) dX10_firstOf_87 fl_X10_120 kd_116 rfl rfl rfl ?_
          rw [e12]
          refine v_imul (q := 91) dX10_firstOf_90 rfl ?_
          refine v_aload_n (j := 0) (q := 92) rfl dX10_firstOf_91 rfl ?_
          refine v_iload (j := 5) (q := 94) rfl dX10_firstOf_92 rfl ?_
          refine v_iconst (q := 95) dX10_firstOf_94 rfl ?_
          refine v_cVI2 (q := 98) dX10_firstOf_95 mlX10_67 mdX10_of (by decide) kd_116 rfl rfl ⟨Nat.le_refl 0, Nat.le_refl 0⟩ (by exact Nat.le_of_ble_eq_true rfl) rfl (c_X10_of k 2 m2 (by omega) (by omega)) ?_
          rw [e172, rf2]
          rintro _ _ ⟨rfl, rfl⟩
          refine v_iadd (q := 99) dX10_firstOf_98 rfl ?_
          refine v_lald (q := 100) dX10_firstOf_99 kd_122 (by omega) (by omega) rfl ?_
          rw [hz]
          refine v_ldc2 (n := 4000000000000000000) (q := 103) klX10_91 rfl dX10_firstOf_100 rfl ?_
          refine v_lcmp_ge (tgt := 143) (q := 107) dX10_firstOf_103 dX10_firstOf_104 (by decide) rfl (by omega) (by omega) (fun h103 => ?_) (fun h103 => ?_)
          · refine v_iconst (q := 144) dX10_firstOf_143 rfl ?_
            refine v_ist7 (q := 146) rfl dX10_firstOf_144 (by decide) rfl ?_
            refine v_iload (j := 7) (q := 148) rfl dX10_firstOf_146 rfl ?_
            refine v_if_eq (tgt := 159) (q := 151) dX10_firstOf_148 (by decide) rfl (by omega) (fun h148 => ?_) (fun h148 => ?_)
            · refine v_aload_n (j := 0) (q := 160) rfl dX10_firstOf_159 rfl ?_
              refine v_dup (q := 161) rfl dX10_firstOf_160 rfl ?_
              refine v_getI (j := 11) (q := 164) dX10_firstOf_161 fl_X10_120 kd_116 rfl rfl rfl ?_
              rw [e12]
              refine v_aload_n (j := 0) (q := 165) rfl dX10_firstOf_164 rfl ?_
              refine v_iload (j := 5) (q := 167) rfl dX10_firstOf_165 rfl ?_
              refine v_iconst (q := 168) dX10_firstOf_167 rfl ?_
              refine v_cVI2 (q := 171) dX10_firstOf_168 mlX10_67 mdX10_of (by decide) kd_116 rfl rfl ⟨Nat.le_refl 0, Nat.le_refl 0⟩ (by exact Nat.le_of_ble_eq_true rfl) rfl (c_X10_of k 3 m2 (by omega) (by omega)) ?_
              rw [e172, rf3]
              rintro _ _ ⟨rfl, rfl⟩
              refine v_cSI1 (q := 174) dX10_firstOf_171 mlX10_48 mdX10_sizeOf (by decide) ⟨Nat.le_refl 0, Nat.le_refl 0⟩ (by exact Nat.le_of_ble_eq_true rfl) rfl (c_X10_sizeOf r.2.2.2.1 m2 (by omega)) ?_
              rw [← hdl]
              rintro _ _ ⟨rfl, rfl⟩
              refine v_isub (q := 175) dX10_firstOf_174 rfl ?_
              refine v_putI (j := 11) (q := 178) dX10_firstOf_175 fl_X10_120 kd_116 rfl rfl rfl ?_
              obtain ⟨M3, hM3⟩ : ∃ M3, M3 = um m2 116 11 ((dgs r.2.2.2.1).length + s'.length - (dgs r.2.2.2.1).length) := ⟨_, rfl⟩
              rw [← hM3]
              have b3 : BK y (-1) q t M3 s' := BK.popn _ b2 (by rw [hM3, um_same, ui_same]; omega) (by rw [hM3, um_ne _ _ _ (by decide)]) (by rw [hM3, um_ne _ _ _ (by decide)])
              have f3 : frP m2 M3 := ⟨fun p h5 h6 h7 => by rw [hM3, um_ne _ _ _ h5], fun j hj => by rw [hM3, um_same, ui_ne _ _ hj]⟩
              have e203 : M3 120 = mem 120 := (by rw [hM3, um_ne _ _ _ (by decide), f2.1 120 (by decide) (by decide) (by decide), e201])
              refine v_aload_n (j := 0) (q := 179) rfl dX10_firstOf_178 rfl ?_
              refine v_iload (j := 6) (q := 181) rfl dX10_firstOf_179 rfl ?_
              refine v_cVV1 (q := 184) dX10_firstOf_181 mlX10_123 mdX10_push (by decide) kd_116 rfl rfl ⟨Nat.le_refl 0, Nat.le_refl 0⟩ (by exact Nat.le_of_ble_eq_true rfl) rfl (c_X10_push x M3 y ok (-1) q t s' ht hq (by rw [e203]; exact hv) b3 (by omega) (by omega)) ?_
              rintro m4 ⟨f4, b4⟩
              have f04 : frP mem m4 := (f02.trans f3).trans f4
              refine v_iload (j := 7) (q := 186) rfl dX10_firstOf_184 rfl ?_
              refine v_if_eq (tgt := 192) (q := 189) dX10_firstOf_186 (by decide) rfl (by omega) (fun h186 => ?_) (fun h186 => ?_)
              · refine v_iinc5 (q := 195) rfl dX10_firstOf_192 (by decide) rfl ?_
                refine v_goto (q := 3) dX10_firstOf_195 (by decide) ?_
                first
                  | exact skip (no1 h22) _ _ _ h2 h3
                  | exact skip (no2 h43) _ _ _ h2 h3
                  | exact skip (fun s2 hw9 => by
                      have e9 := hw9.2.2.1
                      rw [hst] at e9
                      have e8 := (List.cons.inj e9).2
                      subst e8
                      have := hwk.mpr hw9.2.2.2
                      omega) _ _ _ f04 (by rw [hst]; exact b4)
              · exact absurd h186 (by omega)
            · exact absurd h148 (by omega)
          · refine v_aload_n (j := 0) (q := 108) rfl dX10_firstOf_107 rfl ?_
            refine v_getR (p' := 122) (q := 111) dX10_firstOf_108 fl_X10_26 kd_116 rfl (rfc_10_10 kd_116) rfl ?_
            refine v_bipush (q := 113) (by decide) dX10_firstOf_111 rfl ?_
            refine v_aload_n (j := 0) (q := 114) rfl dX10_firstOf_113 rfl ?_
            refine v_getI (j := 11) (q := 117) dX10_firstOf_114 fl_X10_120 kd_116 rfl rfl rfl ?_
            rw [e12]
            refine v_imul (q := 118) dX10_firstOf_117 rfl ?_
            refine v_aload_n (j := 0) (q := 119) rfl dX10_firstOf_118 rfl ?_
            refine v_iload (j := 5) (q := 121) rfl dX10_firstOf_119 rfl ?_
            refine v_iconst (q := 122) dX10_firstOf_121 rfl ?_
            refine v_cVI2 (q := 125) dX10_firstOf_122 mlX10_67 mdX10_of (by decide) kd_116 rfl rfl ⟨Nat.le_refl 0, Nat.le_refl 0⟩ (by exact Nat.le_of_ble_eq_true rfl) rfl (c_X10_of k 2 m2 (by omega) (by omega)) ?_
            rw [e172, rf2]
            rintro _ _ ⟨rfl, rfl⟩
            refine v_iadd (q := 126) dX10_firstOf_125 rfl ?_
            refine v_lald (q := 127) dX10_firstOf_126 kd_122 (by omega) (by omega) rfl ?_
            rw [hz]
            refine v_aload_n (j := 0) (q := 128) rfl dX10_firstOf_127 rfl ?_
            refine v_iload (j := 5) (q := 130) rfl dX10_firstOf_128 rfl ?_
            refine v_cVL1 (q := 133) dX10_firstOf_130 mlX10_99 mdX10_cost (by decide) kd_116 rfl rfl ⟨Nat.le_refl 0, Nat.le_refl 0⟩ (by exact Nat.le_of_ble_eq_true rfl) rfl (c_X10_cost k m2 (by omega) (by rw [e172, rf4]; exact okr.2.2.2.2)) ?_
            rw [e172, rf4, show BR = 2097152 from rfl]
            rintro _ _ ⟨rfl, rfl⟩
            refine v_ladd (q := 134) dX10_firstOf_133 rfl ?_
            refine v_lload_n (j := 2) (q := 135) rfl dX10_firstOf_134 rfl ?_
            refine v_lcmp_ne (tgt := 143) (q := 139) dX10_firstOf_135 dX10_firstOf_136 (by decide) rfl (by omega) (by omega) (fun h135 => ?_) (fun h135 => ?_)
            · refine v_iconst (q := 144) dX10_firstOf_143 rfl ?_
              refine v_ist7 (q := 146) rfl dX10_firstOf_144 (by decide) rfl ?_
              refine v_iload (j := 7) (q := 148) rfl dX10_firstOf_146 rfl ?_
              refine v_if_eq (tgt := 159) (q := 151) dX10_firstOf_148 (by decide) rfl (by omega) (fun h148 => ?_) (fun h148 => ?_)
              · refine v_aload_n (j := 0) (q := 160) rfl dX10_firstOf_159 rfl ?_
                refine v_dup (q := 161) rfl dX10_firstOf_160 rfl ?_
                refine v_getI (j := 11) (q := 164) dX10_firstOf_161 fl_X10_120 kd_116 rfl rfl rfl ?_
                rw [e12]
                refine v_aload_n (j := 0) (q := 165) rfl dX10_firstOf_164 rfl ?_
                refine v_iload (j := 5) (q := 167) rfl dX10_firstOf_165 rfl ?_
                refine v_iconst (q := 168) dX10_firstOf_167 rfl ?_
                refine v_cVI2 (q := 171) dX10_firstOf_168 mlX10_67 mdX10_of (by decide) kd_116 rfl rfl ⟨Nat.le_refl 0, Nat.le_refl 0⟩ (by exact Nat.le_of_ble_eq_true rfl) rfl (c_X10_of k 3 m2 (by omega) (by omega)) ?_
                rw [e172, rf3]
                rintro _ _ ⟨rfl, rfl⟩
                refine v_cSI1 (q := 174) dX10_firstOf_171 mlX10_48 mdX10_sizeOf (by decide) ⟨Nat.le_refl 0, Nat.le_refl 0⟩ (by exact Nat.le_of_ble_eq_true rfl) rfl (c_X10_sizeOf r.2.2.2.1 m2 (by omega)) ?_
                rw [← hdl]
                rintro _ _ ⟨rfl, rfl⟩
                refine v_isub (q := 175) dX10_firstOf_174 rfl ?_
                refine v_putI (j := 11) (q := 178) dX10_firstOf_175 fl_X10_120 kd_116 rfl rfl rfl ?_
                obtain ⟨M3, hM3⟩ : ∃ M3, M3 = um m2 116 11 ((dgs r.2.2.2.1).length + s'.length - (dgs r.2.2.2.1).length) := ⟨_, rfl⟩
                rw [← hM3]
                have b3 : BK y (-1) q t M3 s' := BK.popn _ b2 (by rw [hM3, um_same, ui_same]; omega) (by rw [hM3, um_ne _ _ _ (by decide)]) (by rw [hM3, um_ne _ _ _ (by decide)])
                have f3 : frP m2 M3 := ⟨fun p h5 h6 h7 => by rw [hM3, um_ne _ _ _ h5], fun j hj => by rw [hM3, um_same, ui_ne _ _ hj]⟩
                have e203 : M3 120 = mem 120 := (by rw [hM3, um_ne _ _ _ (by decide), f2.1 120 (by decide) (by decide) (by decide), e201])
                refine v_aload_n (j := 0) (q := 179) rfl dX10_firstOf_178 rfl ?_
                refine v_iload (j := 6) (q := 181) rfl dX10_firstOf_179 rfl ?_
                refine v_cVV1 (q := 184) dX10_firstOf_181 mlX10_123 mdX10_push (by decide) kd_116 rfl rfl ⟨Nat.le_refl 0, Nat.le_refl 0⟩ (by exact Nat.le_of_ble_eq_true rfl) rfl (c_X10_push x M3 y ok (-1) q t s' ht hq (by rw [e203]; exact hv) b3 (by omega) (by omega)) ?_
                rintro m4 ⟨f4, b4⟩
                have f04 : frP mem m4 := (f02.trans f3).trans f4
                refine v_iload (j := 7) (q := 186) rfl dX10_firstOf_184 rfl ?_
                refine v_if_eq (tgt := 192) (q := 189) dX10_firstOf_186 (by decide) rfl (by omega) (fun h186 => ?_) (fun h186 => ?_)
                · refine v_iinc5 (q := 195) rfl dX10_firstOf_192 (by decide) rfl ?_
                  refine v_goto (q := 3) dX10_firstOf_195 (by decide) ?_
                  first
                    | exact skip (no1 h22) _ _ _ h2 h3
                    | exact skip (no2 h43) _ _ _ h2 h3
                    | exact skip (fun s2 hw9 => by
                        have e9 := hw9.2.2.1
                        rw [hst] at e9
                        have e8 := (List.cons.inj e9).2
                        subst e8
                        have := hwk.mpr hw9.2.2.2
                        omega) _ _ _ f04 (by rw [hst]; exact b4)
                · exact absurd h186 (by omega)
              · exact absurd h148 (by omega)
            · refine v_iconst (q := 140) dX10_firstOf_139 rfl ?_
              refine v_goto (q := 144) dX10_firstOf_140 (by decide) ?_
              refine v_ist7 (q := 146) rfl dX10_firstOf_144 (by decide) rfl ?_
              refine v_iload (j := 7) (q := 148) rfl dX10_firstOf_146 rfl ?_
              refine v_if_eq (tgt := 159) (q := 151) dX10_firstOf_148 (by decide) rfl (by omega) (fun h148 => ?_) (fun h148 => ?_)
              · exact absurd h148 (by omega)
              · refine v_iload (j := 4) (q := 153) rfl dX10_firstOf_151 rfl ?_
                refine v_if_ne (tgt := 159) (q := 156) dX10_firstOf_153 (by decide) rfl (by omega) (fun h153 => ?_) (fun h153 => ?_)
                · refine v_aload_n (j := 0) (q := 160) rfl dX10_firstOf_159 rfl ?_
                  refine v_dup (q := 161) rfl dX10_firstOf_160 rfl ?_
                  refine v_getI (j := 11) (q := 164) dX10_firstOf_161 fl_X10_120 kd_116 rfl rfl rfl ?_
                  rw [e12]
                  refine v_aload_n (j := 0) (q := 165) rfl dX10_firstOf_164 rfl ?_
                  refine v_iload (j := 5) (q := 167) rfl dX10_firstOf_165 rfl ?_
                  refine v_iconst (q := 168) dX10_firstOf_167 rfl ?_
                  refine v_cVI2 (q := 171) dX10_firstOf_168 mlX10_67 mdX10_of (by decide) kd_116 rfl rfl ⟨Nat.le_refl 0, Nat.le_refl 0⟩ (by exact Nat.le_of_ble_eq_true rfl) rfl (c_X10_of k 3 m2 (by omega) (by omega)) ?_
                  rw [e172, rf3]
                  rintro _ _ ⟨rfl, rfl⟩
                  refine v_cSI1 (q := 174) dX10_firstOf_171 mlX10_48 mdX10_sizeOf (by decide) ⟨Nat.le_refl 0, Nat.le_refl 0⟩ (by exact Nat.le_of_ble_eq_true rfl) rfl (c_X10_sizeOf r.2.2.2.1 m2 (by omega)) ?_
                  rw [← hdl]
                  rintro _ _ ⟨rfl, rfl⟩
                  refine v_isub (q := 175) dX10_firstOf_174 rfl ?_
                  refine v_putI (j := 11) (q := 178) dX10_firstOf_175 fl_X10_120 kd_116 rfl rfl rfl ?_
                  obtain ⟨M3, hM3⟩ : ∃ M3, M3 = um m2 116 11 ((dgs r.2.2.2.1).length + s'.length - (dgs r.2.2.2.1).length) := ⟨_, rfl⟩
                  rw [← hM3]
                  have b3 : BK y (-1) q t M3 s' := BK.popn _ b2 (by rw [hM3, um_same, ui_same]; omega) (by rw [hM3, um_ne _ _ _ (by decide)]) (by rw [hM3, um_ne _ _ _ (by decide)])
                  have f3 : frP m2 M3 := ⟨fun p h5 h6 h7 => by rw [hM3, um_ne _ _ _ h5], fun j hj => by rw [hM3, um_same, ui_ne _ _ hj]⟩
                  have e203 : M3 120 = mem 120 := (by rw [hM3, um_ne _ _ _ (by decide), f2.1 120 (by decide) (by decide) (by decide), e201])
                  refine v_aload_n (j := 0) (q := 179) rfl dX10_firstOf_178 rfl ?_
                  refine v_iload (j := 6) (q := 181) rfl dX10_firstOf_179 rfl ?_
                  refine v_cVV1 (q := 184) dX10_firstOf_181 mlX10_123 mdX10_push (by decide) kd_116 rfl rfl ⟨Nat.le_refl 0, Nat.le_refl 0⟩ (by exact Nat.le_of_ble_eq_true rfl) rfl (c_X10_push x M3 y ok (-1) q t s' ht hq (by rw [e203]; exact hv) b3 (by omega) (by omega)) ?_
                  rintro m4 ⟨f4, b4⟩
                  have f04 : frP mem m4 := (f02.trans f3).trans f4
                  refine v_iload (j := 7) (q := 186) rfl dX10_firstOf_184 rfl ?_
                  refine v_if_eq (tgt := 192) (q := 189) dX10_firstOf_186 (by decide) rfl (by omega) (fun h186 => ?_) (fun h186 => ?_)
                  · exact absurd h186 (by omega)
                  · refine v_iload (j := 5) (q := 191) rfl dX10_firstOf_189 rfl ?_
                    refine v_iret dX10_firstOf_191 ?_
                    have hwo : wok y.2.2.2.2 q t a k r s' := ⟨hr2, h22, by rw [hst, h43], hwk.mp ⟨by omega, h135⟩⟩
                    exact ⟨_, rfl, k, _, rfl, ⟨⟨r, s', hwo, rfl⟩, fun i hi r2 s2 => h4 i hi r2 s2⟩, f04, fun h9 => absurd h9 h153, fun _ => by rw [hst]; exact b4⟩
                · refine v_iload (j := 5) (q := 158) rfl dX10_firstOf_156 rfl ?_
                  refine v_iret dX10_firstOf_158 ?_
                  have hwo : wok y.2.2.2.2 q t a k r s' := ⟨hr2, h22, by rw [hst, h43], hwk.mp ⟨by omega, h135⟩⟩
                  exact ⟨_, rfl, k, _, rfl, ⟨⟨r, s', hwo, rfl⟩, fun i hi r2 s2 => h4 i hi r2 s2⟩, f02, fun _ => b2, fun h9 => absurd h153 h9⟩
theorem c_X10_firstOf (mem : Mem) (y : Sy) (hS : SM (mem 117) 0 y) (q : Int) (t : List Int) (ht : t.length ≤ 6) (hq : 0 ≤ q ∧ q < y.1) (hv : WOK y (-1) q t (mem 120)) (a : Cf) (hl : lm y.2.2.2.2 (-6) a.1 a.2.1 q t = some (a.2.2.1, a.2.2.2)) (hn : 0 < a.2.2.2) (ha : 0 ≤ a.1 ∧ a.1 < y.1) (hd : ∀ d ∈ a.2.1, 1 ≤ d ∧ d ≤ y.2.1) (hlen : a.2.1.length ≤ 310) (as : Int) (has : as = 0 ∨ as = 1) (hk : BK y (-1) q t mem a.2.1) : CtrI mX10_firstOf [aR 116, aI a.1, aL (a.2.2.1 * 2097152 + a.2.2.2), aI as] mem (fun z m => ∃ (k : Nat) (b : Cf), (k : Int) = z ∧ wF y.2.2.2.2 q t a k b ∧ frP mem m ∧ (as = 0 → BK y (-1) q t m b.2.1) ∧ (as ≠ 0 → BK y (-1) q t m a.2.1)) := by
  refine Ctr.ofV (ls := [aR 116, aI a.1, aL (a.2.2.1 * 2097152 + a.2.2.2), aU, aI as, aU, aU, aU]) rfl (by decide) rfl (Nat.le_of_ble_eq_true rfl) ?_
  refine v_iconst (q := 1) dX10_firstOf_0 rfl ?_
  refine v_ist5 (q := 3) rfl dX10_firstOf_1 (by decide) rfl ?_
  exact l_X10_firstOf mem y hS q t ht hq hv a hl hn ha hd hlen as has y.2.2.2.2.length 0 mem aU aU (by omega) (frP.refl _) hk (fun i hi => absurd hi (by omega))
