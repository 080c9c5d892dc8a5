/-! ===== the reference: witness, critical ===== -/
theorem l_X10_wit {Post : AV → Mem → Prop} (mem : Mem) (y : Sy) (hS : SM (mem 117) 0 y) (q w : Int) (hq : 0 ≤ q ∧ q < y.1) (ht : (dgs w).length ≤ 6) (hv : WOK y (-1) q (dgs w) (mem 120)) (W n what : Int) (k : Nat) (hkn : (k : Int) < n) (hk3 : k ≤ 300)
    (K : ∀ (M : Mem) (a : Cf) (u9 : AV), frP mem M → BK y (-1) q (dgs w) M a.2.1 → wAt y.2.2.2.2 q (dgs w) k (stC y W n) a → lm y.2.2.2.2 (-6) a.1 a.2.1 q (dgs w) = some (a.2.2.1, a.2.2.2) → (0 ≤ a.1 ∧ a.1 < y.1) → (∀ d ∈ a.2.1, 1 ≤ d ∧ d ≤ y.2.1) → a.2.1.length ≤ 4 + k → a.2.2.2 = n - k → V cX10_witness RX10 10 (some .int) (rmk 5 127) (mE Post) 122 [aR 116, aI q, aI w, aI k, aI what, aL (a.2.2.1 * 2097152 + a.2.2.2), aU, aI a.1, aI k, u9] [] M) :
    ∀ (j i : Nat) (M : Mem) (a : Cf) (u9 : AV), i + j = k → frP mem M → BK y (-1) q (dgs w) M a.2.1 → wAt y.2.2.2.2 q (dgs w) i (stC y W n) a → lm y.2.2.2.2 (-6) a.1 a.2.1 q (dgs w) = some (a.2.2.1, a.2.2.2) → (0 ≤ a.1 ∧ a.1 < y.1) → (∀ d ∈ a.2.1, 1 ≤ d ∧ d ≤ y.2.1) → a.2.1.length ≤ 4 + i → a.2.2.2 = n - i → V cX10_witness RX10 10 (some .int) (rmk 5 127) (mE Post) 79 [aR 116, aI q, aI w, aI k, aI what, aL (a.2.2.1 * 2097152 + a.2.2.2), aU, aI a.1, aI i, u9] [] M := by
  have ok := hS.2.2.1
  have h20 := ok.2.2.2.2.1
  have hw := okRs.w (S := y.1) (G := y.2.1) ok.2.2.2.2.2
  intro j
  induction j with
  | zero =>
    intro i M a u9 h1 h2 h3 h4 h5 h6 h7 h8 h9
    have e : i = k := by omega
    subst e
    refine v_iload (j := 8) (q := 81) rfl dX10_witness_79 rfl ?_
    refine v_iload_n (j := 3) (q := 82) rfl dX10_witness_81 rfl ?_
    refine v_icmp_ge (tgt := 122) (q := 85) dX10_witness_82 (by decide) rfl (by omega) (by omega) (fun h82 => ?_) (fun h82 => ?_)
    · exact K M a _ h2 h3 h4 h5 h6 h7 h8 h9
    · exact absurd h82 (by omega)
  | succ j ih =>
    intro i M a u9 h1 h2 h3 h4 h5 h6 h7 h8 h9
    have e17 : M 117 = mem 117 := h2.1 117 (by decide) (by decide) (by decide)
    have e20 : M 120 = mem 120 := h2.1 120 (by decide) (by decide) (by decide)
    refine v_iload (j := 8) (q := 81) rfl dX10_witness_79 rfl ?_
    refine v_iload_n (j := 3) (q := 82) rfl dX10_witness_81 rfl ?_
    refine v_icmp_ge (tgt := 122) (q := 85) dX10_witness_82 (by decide) rfl (by omega) (by omega) (fun h82 => ?_) (fun h82 => ?_)
    · exact absurd h82 (by omega)
    · refine v_aload_n (j := 0) (q := 86) rfl dX10_witness_85 rfl ?_
      refine v_iload (j := 7) (q := 88) rfl dX10_witness_86 rfl ?_
      refine v_lload (j := 5) (q := 90) rfl dX10_witness_88 rfl ?_
      refine v_iconst (q := 91) dX10_witness_90 rfl ?_
      refine v_cVI3 (q := 94) dX10_witness_91 mlX10_150 mdX10_firstOf (by decide) kd_116 rfl rfl ⟨Nat.le_refl 0, Nat.le_refl 0⟩ (by exact Nat.le_of_ble_eq_true rfl) rfl (c_X10_firstOf M y (by rw [e17]; exact hS) q (dgs w) ht hq (by rw [e20]; exact hv) a h5 (by omega) h6 h7 (by omega) 0 (Or.inl rfl) h3) ?_
      rintro _ m1 ⟨k1, b, rfl, g1, g2, g3, -⟩
      obtain ⟨c1, c2, c3, r, c4, c5, c6, c7⟩ := g1.ok ok h7
      have rf := hS.RFs.2 k1 r c4
      have e18 : m1 117 = mem 117 := (by rw [g2.1 117 (by decide) (by decide) (by decide), e17])
      have hk20 : k1 < 20 := (by have := (List.getElem?_eq_some_iff.mp c4).1; omega)
      have okr := ok.2.2.2.2.2 r (List.mem_of_getElem? c4)
      have hlb : lm y.2.2.2.2 (-6) b.1 b.2.1 q (dgs w) = some (b.2.2.1, b.2.2.2) := (by obtain ⟨k2, b2, x1, x2, -, -⟩ := wF.ex ok h5 (by omega); have := (x1.det g1).2; rw [← this]; exact x2)
      have hWn := (lm_some.mp h5).1.le hw
      have hW9 : a.2.2.1 ≤ 1000000 := (lm_some.mp h5).2.1
      have hWn2 : a.2.2.2 ≤ a.2.2.1 := hWn.2
      refine v_ist9 (q := 96) rfl dX10_witness_94 (by decide) rfl ?_
      refine v_lload (j := 5) (q := 98) rfl dX10_witness_96 rfl ?_
      refine v_aload_n (j := 0) (q := 99) rfl dX10_witness_98 rfl ?_
      refine v_iload (j := 9) (q := 101) rfl dX10_witness_99 rfl ?_
      refine v_cVL1 (q := 104) dX10_witness_101 mlX10_99 mdX10_cost (by decide) kd_116 rfl rfl ⟨Nat.le_refl 0, Nat.le_refl 0⟩ (by exact Nat.le_of_ble_eq_true rfl) rfl (c_X10_cost k1 m1 (by omega) (by rw [e18, rf.2.2.2.2]; exact okr.2.2.2.2)) ?_
      rw [e18, rf.2.2.2.2, show BR = 2097152 from rfl]
      rintro _ _ ⟨rfl, rfl⟩
      refine v_lsub (q := 105) dX10_witness_104 rfl ?_
      rw [show a.2.2.1 * 2097152 + a.2.2.2 - (r.2.2.2.2 * 2097152 + 1) = b.2.2.1 * 2097152 + b.2.2.2 by omega]
      refine v_lst5 (q := 107) rfl dX10_witness_105 (by decide) rfl ?_
      refine v_aload_n (j := 0) (q := 108) rfl dX10_witness_107 rfl ?_
      refine v_iload (j := 9) (q := 110) rfl dX10_witness_108 rfl ?_
      refine v_iconst (q := 111) dX10_witness_110 rfl ?_
      refine v_cVI2 (q := 114) dX10_witness_111 mlX10_67 mdX10_of (by decide) kd_116 rfl rfl ⟨Nat.le_refl 0, Nat.le_refl 0⟩ (by exact Nat.le_of_ble_eq_true rfl) rfl (c_X10_of k1 2 m1 (by omega) (by omega)) ?_
      rw [e18, rf.2.2.1, ← c5]
      rintro _ _ ⟨rfl, rfl⟩
      refine v_ist7 (q := 116) rfl dX10_witness_114 (by decide) rfl ?_
      refine v_iinc8 (q := 119) rfl dX10_witness_116 (by decide) rfl ?_
      refine v_goto (q := 79) dX10_witness_119 (by decide) ?_
      exact ih (i + 1) m1 b _ (by omega) (h2.trans g2) (g3 rfl) ⟨a, k1, h4, g1⟩ hlb c1 c2 (by omega) (by omega)
theorem c_X10_witness {LO : (Int → Int) → Sy → Prop} (p w k what : Int) (mem : Mem) (A : AS) (h : RJ LO mem A) (hp : R32 p) (hw : R32 w) (hk : R32 k) (hwh : R32 what) : CtrI mX10_witness [aR 116, aI p, aI w, aI k, aI what] mem (fun z m => sWit A.1 p w k what z ∧ RK LO mem A m) := by
  have ok := h.1.1.2.2.1
  have f := h.1.1.facts
  refine Ctr.ofV (ls := [aR 116, aI p, aI w, aI k, aI what, aU, aU, aU, aU, aU]) rfl (by decide) rfl (Nat.le_of_ble_eq_true rfl) ?_
  refine v_aload_n (j := 0) (q := 1) rfl dX10_witness_0 rfl ?_
  refine v_iload_n (j := 1) (q := 2) rfl dX10_witness_1 rfl ?_
  refine v_iload_n (j := 2) (q := 3) rfl dX10_witness_2 rfl ?_
  refine v_cVI2 (q := 6) dX10_witness_3 mlX10_143 mdX10_isAsked (by decide) kd_116 rfl rfl ⟨Nat.le_refl 0, Nat.le_refl 0⟩ (by exact Nat.le_of_ble_eq_true rfl) rfl (c_X10_isAsked p w mem A.1 h.1.1 hp hw) ?_
  rintro _ _ ⟨rfl, rfl⟩
  refine v_if_neB (tgt := 11) (q := 9) dX10_witness_6 (by decide) rfl (fun h6 => ?_) (fun h6 => ?_)
  · refine v_iload_n (j := 3) (q := 12) rfl dX10_witness_11 rfl ?_
    refine v_iconst (q := 13) dX10_witness_12 rfl ?_
    refine v_sipush (q := 16) (by decide) dX10_witness_13 rfl ?_
    refine v_cSI3 (q := 19) dX10_witness_16 mlX10_44 mdX10_isIn (by decide) ⟨Nat.le_refl 0, Nat.le_refl 0⟩ (by exact Nat.le_of_ble_eq_true rfl) rfl (c_X10_isIn k 0 300 mem hk (by omega) (by omega)) ?_
    rintro _ _ ⟨rfl, rfl⟩
    refine v_if_eqB (tgt := 32) (q := 22) dX10_witness_19 (by decide) rfl (fun h19 => ?_) (fun h19 => ?_)
    · refine v_bipush (q := 34) (by decide) dX10_witness_32 rfl ?_
      refine v_iret dX10_witness_34 ?_
      exact ⟨_, rfl, Or.inr ⟨h6, Or.inl ⟨by omega, rfl⟩⟩, RK.of h (frR.refl _)⟩
    · refine v_iload (j := 4) (q := 24) rfl dX10_witness_22 rfl ?_
      refine v_iconst (q := 25) dX10_witness_24 rfl ?_
      refine v_iconst (q := 26) dX10_witness_25 rfl ?_
      refine v_cSI3 (q := 29) dX10_witness_26 mlX10_44 mdX10_isIn (by decide) ⟨Nat.le_refl 0, Nat.le_refl 0⟩ (by exact Nat.le_of_ble_eq_true rfl) rfl (c_X10_isIn what 0 3 mem hwh (by omega) (by omega)) ?_
      rintro _ _ ⟨rfl, rfl⟩
      refine v_if_neB (tgt := 35) (q := 32) dX10_witness_29 (by decide) rfl (fun h29 => ?_) (fun h29 => ?_)
      · refine v_aload_n (j := 0) (q := 36) rfl dX10_witness_35 rfl ?_
        refine v_iload_n (j := 1) (q := 37) rfl dX10_witness_36 rfl ?_
        refine v_iload_n (j := 2) (q := 38) rfl dX10_witness_37 rfl ?_
        refine v_iconst (q := 39) dX10_witness_38 rfl ?_
        refine v_cVL3 (q := 42) dX10_witness_39 mlX10_140 mdX10_costTo (by decide) kd_116 rfl rfl ⟨Nat.le_refl 0, Nat.le_refl 0⟩ (by exact Nat.le_of_ble_eq_true rfl) rfl (c_X10_costTo p w (-1) mem A.1 h.1.1 h6 hw (by omega)) ?_
        rintro _ m1 ⟨g1, g2, g3, c, rfl, g4⟩
        obtain ⟨hc, hc1, hc2⟩ := lm_R ok g4
        have hcut := cutR_c hc
        have e17 : m1 117 = mem 117 := g1.1 117 (by omega) (by decide)
        refine v_lst5 (q := 44) rfl dX10_witness_42 (by decide) rfl ?_
        refine v_lload (j := 5) (q := 46) rfl dX10_witness_44 rfl ?_
        refine v_ldc2 (n := 4000000000000000000) (q := 49) klX10_91 rfl dX10_witness_46 rfl ?_
        refine v_lcmp_eq (tgt := 65) (q := 53) dX10_witness_49 dX10_witness_50 (by decide) rfl (by omega) (by omega) (fun h49 => ?_) (fun h49 => ?_)
        · refine v_bipush (q := 67) (by decide) dX10_witness_65 rfl ?_
          refine v_iret dX10_witness_67 ?_
          refine ⟨_, rfl, Or.inr ⟨h6, Or.inr ⟨by omega, ?_⟩⟩, RK.of h g1⟩
          unfold lmS
          rw [← lm_ex]
          first
            | exact Or.inl ⟨hc2 (by omega), rfl⟩
            | exact Or.inr ⟨_, _, (hc1 (by omega)).1, Or.inl ⟨by omega, rfl⟩⟩
        · refine v_lload (j := 5) (q := 55) rfl dX10_witness_53 rfl ?_
          refine v_ldc2 (n := 2097152) (q := 58) klX10_93 rfl dX10_witness_55 rfl ?_
          refine v_lrem (q := 59) (by omega) (by omega) dX10_witness_58 rfl ?_
          refine v_iload_n (j := 3) (q := 60) rfl dX10_witness_59 rfl ?_
          refine v_i2l (q := 61) (by omega) dX10_witness_60 rfl ?_
          refine v_lcmp_gt (tgt := 68) (q := 65) dX10_witness_61 dX10_witness_62 (by decide) rfl (by omega) (by omega) (fun h61 => ?_) (fun h61 => ?_)
          · refine v_aload_n (j := 0) (q := 69) rfl dX10_witness_68 rfl ?_
            refine v_getR (p' := 117) (q := 72) dX10_witness_69 fl_X10_7 kd_116 rfl (rfc_10_0 kd_116) rfl ?_
            refine v_iconst (q := 73) dX10_witness_72 rfl ?_
            refine v_iald (q := 74) dX10_witness_73 kd_117 (by omega) (by omega) rfl ?_
            rw [e17, ← f.2.2.2.2.2.2.2.2.1]
            refine v_ist7 (q := 76) rfl dX10_witness_74 (by decide) rfl ?_
            refine v_iconst (q := 77) dX10_witness_76 rfl ?_
            refine v_ist8 (q := 79) rfl dX10_witness_77 (by decide) rfl ?_
            have ec : cutR c = c := by omega
            rw [ec] at h61 ⊢
            have hlm := (hc1 (by omega)).1
            rw [lm_ex] at hlm
            obtain ⟨W, hW⟩ : ∃ W, W = c / 2097152 := ⟨_, rfl⟩
            obtain ⟨n, hn⟩ : ∃ n, n = c % 2097152 := ⟨_, rfl⟩
            rw [← hW, ← hn] at hlm
            obtain ⟨kk, rfl⟩ : ∃ kk : Nat, (kk : Int) = k := ⟨k.toNat, by omega⟩
            have fin : ∀ (z : Int) (a : Cf) (j : Nat) (b : Cf), wAt A.1.2.2.2.2 p (dgs w) kk (stC A.1 W n) a → wF A.1.2.2.2.2 p (dgs w) a j b → z = witA a j what → sWit A.1 p w kk what z := fun z a j b w1 w2 w3 => by
              refine Or.inr ⟨h6, Or.inr ⟨by omega, Or.inr ⟨W, n, hlm, Or.inr ⟨by omega, a, j, b, ?_, w2, w3⟩⟩⟩⟩
              rw [show (kk : Int).toNat = kk by omega]
              exact w1
            have ew : c = W * 2097152 + n := by omega
            rw [ew]
            have hst := ok.st
            refine l_X10_wit (Post := (fun r m => ∃ z, r = aI z ∧ sWit A.1 p w kk what z ∧ RK LO mem A m)) m1 A.1 (by rw [e17]; exact h.1.1) p w h6.1 h6.d.2 g2 W n what kk (by omega) (by omega) (fun M a u9 k1 k2 k3 k4 k5 k6 k7 k8 => ?_) kk 0 m1 (stC A.1 W n) _ (by omega) (frP.refl _) g3 rfl hlm ok.2.2.1 hst.1 (by have := hst.2; show (dgs A.1.2.2.2.1).length ≤ _; omega) (by show n = n - (0 : Nat); omega)
            have rk : RK LO mem A M := RK.of h (g1.trans k1.R)
            obtain ⟨kw, bw, x1, -, -, -⟩ := wF.ex ok k4 (by omega)
            have e172 : M 117 = mem 117 := by rw [k1.1 117 (by decide) (by decide) (by decide), e17]
            have e202 : M 120 = m1 120 := k1.1 120 (by decide) (by decide) (by decide)
            have e11 : M 116 11 = a.2.1.length := k2.1
            have hl0 : 0 < a.2.1.length := by
              rcases Nat.eq_zero_or_pos a.2.1.length with e | e
              · exfalso
                rw [List.length_eq_zero_iff.mp e] at k4
                obtain ⟨n1, e1, r1⟩ := (lm_some.mp k4).1
                have := r1.nil
                have : (n1 : Int) = a.2.2.2 := e1
                omega
              · exact e
            have etop : M 121 ((a.2.1.length : Int) - 1) = a.2.1.getD 0 0 := by
              have := k2.2.2 (a.2.1.length - 1) (by omega)
              rw [show ((a.2.1.length - 1 : Nat) : Int) = (a.2.1.length : Int) - 1 by omega, show a.2.1.length - 1 - (a.2.1.length - 1) = 0 by omega] at this
              exact this
            refine v_iload (j := 4) (q := 124) rfl dX10_witness_122 rfl ?_
            rcases (show (what < 0 ∨ 2 < what) ∨ what = 0 ∨ what = 1 ∨ what = 2 by omega) with hsw | rfl | rfl | rfl
            · refine v_tableOut (tgt := 177) dX10_witness_124 (by omega) hsw (by decide) ?_
              refine v_aload_n (j := 0) (q := 178) rfl dX10_witness_177 rfl ?_
              refine v_getI (j := 11) (q := 181) dX10_witness_178 fl_X10_120 kd_116 rfl rfl rfl ?_
              rw [e11]
              refine v_iret dX10_witness_181 ?_
              exact ⟨_, rfl, fin _ a kw bw k3 x1 (by unfold witA; rw [if_neg (by omega), if_neg (by omega), if_neg (by omega)]), rk⟩
            · refine v_tableIn (tgt := 152) dX10_witness_124 (by omega) (by omega) (by omega) rfl (by decide) ?_
              refine v_aload_n (j := 0) (q := 153) rfl dX10_witness_152 rfl ?_
              refine v_iload (j := 7) (q := 155) rfl dX10_witness_153 rfl ?_
              refine v_lload (j := 5) (q := 157) rfl dX10_witness_155 rfl ?_
              refine v_iconst (q := 158) dX10_witness_157 rfl ?_
              refine v_cVI3 (q := 161) dX10_witness_158 mlX10_150 mdX10_firstOf (by decide) kd_116 rfl rfl ⟨Nat.le_refl 0, Nat.le_refl 0⟩ (by exact Nat.le_of_ble_eq_true rfl) rfl (c_X10_firstOf M A.1 (by rw [e172]; exact h.1.1) p (dgs w) h6.d.2 h6.1 (by rw [e202]; exact g2) a k4 (by omega) k5 k6 (by omega) 1 (Or.inr rfl) k2) ?_
              rintro _ m3 ⟨j3, b3, rfl, y1, y2, -, -⟩
              refine v_iret dX10_witness_161 ?_
              exact ⟨_, rfl, fin _ a j3 b3 k3 y1 (by unfold witA; rw [if_pos rfl]), RK.of h ((g1.trans k1.R).trans y2.R)⟩
            · refine v_tableIn (tgt := 162) dX10_witness_124 (by omega) (by omega) (by omega) rfl (by decide) ?_
              refine v_iload (j := 7) (q := 164) rfl dX10_witness_162 rfl ?_
              refine v_iret dX10_witness_164 ?_
              exact ⟨_, rfl, fin _ a kw bw k3 x1 (by unfold witA; rw [if_neg (by omega), if_pos rfl]), rk⟩
            · refine v_tableIn (tgt := 165) dX10_witness_124 (by omega) (by omega) (by omega) rfl (by decide) ?_
              refine v_aload_n (j := 0) (q := 166) rfl dX10_witness_165 rfl ?_
              refine v_getR (p' := 121) (q := 169) dX10_witness_166 fl_X10_23 kd_116 rfl (rfc_10_9 kd_116) rfl ?_
              refine v_aload_n (j := 0) (q := 170) rfl dX10_witness_169 rfl ?_
              refine v_getI (j := 11) (q := 173) dX10_witness_170 fl_X10_120 kd_116 rfl rfl rfl ?_
              rw [e11]
              refine v_iconst (q := 174) dX10_witness_173 rfl ?_
              refine v_isub (q := 175) dX10_witness_174 rfl ?_
              refine v_iald (q := 176) dX10_witness_175 kd_121 (by omega) (by omega) rfl ?_
              rw [etop]
              refine v_iret dX10_witness_176 ?_
              exact ⟨_, rfl, fin _ a kw bw k3 x1 (by unfold witA; rw [if_neg (by omega), if_neg (by omega), if_pos rfl]), rk⟩
          · refine v_bipush (q := 67) (by decide) dX10_witness_65 rfl ?_
            refine v_iret dX10_witness_67 ?_
            refine ⟨_, rfl, Or.inr ⟨h6, Or.inr ⟨by omega, ?_⟩⟩, RK.of h g1⟩
            unfold lmS
            rw [← lm_ex]
            first
              | exact Or.inl ⟨hc2 (by omega), rfl⟩
              | exact Or.inr ⟨_, _, (hc1 (by omega)).1, Or.inl ⟨by omega, rfl⟩⟩
      · refine v_bipush (q := 34) (by decide) dX10_witness_32 rfl ?_
        refine v_iret dX10_witness_34 ?_
        exact ⟨_, rfl, Or.inr ⟨h6, Or.inl ⟨by omega, rfl⟩⟩, RK.of h (frR.refl _)⟩
  · refine v_iconst (q := 10) dX10_witness_9 rfl ?_
    refine v_iret dX10_witness_10 ?_
    exact ⟨_, rfl, Or.inl ⟨h6, rfl⟩, RK.of h (frR.refl _)⟩
theorem or0 {U : Nat} (hU : U < 2147483648) : (Int32.ofInt (U : Int)) ||| (Int32.ofInt 0) = Int32.ofInt (U : Int) := by
  have := or32 hU (show 0 < 2147483648 by omega)
  rw [Nat.or_zero] at this
  exact this
theorem wv_rng {y : Sy} (ok : okS y) {ex p : Int} {s : List Int} {q : Int} {t : List Int} : -6 ≤ wv (lm y.2.2.2.2 ex p s q t) ∧ wv (lm y.2.2.2.2 ex p s q t) ≤ 1000000 := by
  have hw := okRs.w (S := y.1) (G := y.2.1) ok.2.2.2.2.2
  match h : lm y.2.2.2.2 ex p s q t with
  | none => exact ⟨by show (-6 : Int) ≤ -6; omega, by show (-6 : Int) ≤ 1000000; omega⟩
  | some a =>
    obtain ⟨h1, h2, -⟩ := lm_some.mp h
    have := h1.le hw
    exact ⟨by show -6 ≤ a.1; omega, h2⟩
theorem wv_none {y : Sy} (ok : okS y) {ex p : Int} {s : List Int} {q : Int} {t : List Int} (h : wv (lm y.2.2.2.2 ex p s q t) = -6) : lm y.2.2.2.2 ex p s q t = none := by
  have hw := okRs.w (S := y.1) (G := y.2.1) ok.2.2.2.2.2
  match h2 : lm y.2.2.2.2 ex p s q t with
  | none => rfl
  | some a =>
    obtain ⟨h1, -, -⟩ := lm_some.mp h2
    have := h1.le hw
    rw [h2] at h
    have h : a.1 = -6 := h
    omega
theorem l_X10_crit {LO : (Int → Int) → Sy → Prop} (mem : Mem) (A : AS) (h : RJ LO mem A) (p w d : Int) (hw : R32 w) (ha : askd A.1 p w) (hd : wv (lmS A.1 (-6) p (dgs w)) = d) (hd2 : R32 d) (hdn : ¬ lmS A.1 (-6) p (dgs w) = none) :
    ∀ (j k : Nat) (M : Mem), k + j = A.1.2.2.2.2.length → frR mem M → V cX10_critical RX10 6 (some .int) (rmk 6 152) (mE (fun r m => ∃ z, r = aI z ∧ sCrit A.1 p w = z ∧ RK LO mem A m)) 34 [aR 116, aI p, aI w, aI d, aI ((crB (difR A.1 p w) k : Nat) : Int), aI k] [] M := by
  have ok := h.1.1.2.2.1
  have f := h.1.1.facts
  have h20 := ok.2.2.2.2.1
  have hlen2 := f.2.2.2.2.2.2.2.2.2.2.2
  intro j
  induction j with
  | zero =>
    intro k M h1 h2
    have e : k = A.1.2.2.2.2.length := by omega
    subst e
    have e2 : M 117 2 = (A.1.2.2.2.2.length : Nat) := by rw [h2.1 117 (by omega) (by decide)]; exact hlen2.symm
    refine v_iload (j := 5) (q := 36) rfl dX10_critical_34 rfl ?_
    refine v_aload_n (j := 0) (q := 37) rfl dX10_critical_36 rfl ?_
    refine v_getR (p' := 117) (q := 40) dX10_critical_37 fl_X10_7 kd_116 rfl (rfc_10_0 kd_116) rfl ?_
    refine v_iconst (q := 41) dX10_critical_40 rfl ?_
    refine v_iald (q := 42) dX10_critical_41 kd_117 (by omega) (by omega) rfl ?_
    rw [e2]
    refine v_icmp_ge (tgt := 76) (q := 45) dX10_critical_42 (by decide) rfl (by omega) (by omega) (fun h42 => ?_) (fun h42 => ?_)
    · refine v_iload (j := 4) (q := 78) rfl dX10_critical_76 rfl ?_
      refine v_iret dX10_critical_78 ?_
      exact ⟨_, rfl, by unfold sCrit; rw [if_pos ha, if_neg hdn], RK.of h h2⟩
    · exact absurd h42 (by omega)
  | succ j ih =>
    intro k M h1 h2
    have e17 : M 117 = mem 117 := h2.1 117 (by omega) (by decide)
    have e2 : M 117 2 = (A.1.2.2.2.2.length : Nat) := by rw [e17]; exact hlen2.symm
    have hb := crB_lt (difR A.1 p w) k (by omega)
    have p2 : 2 ^ k < 2147483648 := by
      have : (2 : Nat) ^ k ≤ 2 ^ 20 := Nat.pow_le_pow_right (by omega) (by omega)
      omega
    have stp : ∀ U : Nat, U = crB (difR A.1 p w) (k + 1) → ∀ m, frR mem m → V cX10_critical RX10 6 (some .int) (rmk 6 152) (mE (fun r m => ∃ z, r = aI z ∧ sCrit A.1 p w = z ∧ RK LO mem A m)) 34 [aR 116, aI p, aI w, aI d, aI (U : Int), aI ((k : Int) + 1)] [] m := fun U hU m hm => by
      rw [hU]
      exact ih (k + 1) m (by omega) hm
    have hdR : difR A.1 p w k ↔ wv (lmS A.1 k p (dgs w)) ≠ d := by unfold difR; rw [hd]
    have hwr : R32 (wv (lmS A.1 k p (dgs w))) := (by have := wv_rng ok (ex := k) (p := A.1.2.2.1) (s := dgs A.1.2.2.2.1) (q := p) (t := dgs w); unfold lmS; omega)
    refine v_iload (j := 5) (q := 36) rfl dX10_critical_34 rfl ?_
    refine v_aload_n (j := 0) (q := 37) rfl dX10_critical_36 rfl ?_
    refine v_getR (p' := 117) (q := 40) dX10_critical_37 fl_X10_7 kd_116 rfl (rfc_10_0 kd_116) rfl ?_
    refine v_iconst (q := 41) dX10_critical_40 rfl ?_
    refine v_iald (q := 42) dX10_critical_41 kd_117 (by omega) (by omega) rfl ?_
    rw [e2]
    refine v_icmp_ge (tgt := 76) (q := 45) dX10_critical_42 (by decide) rfl (by omega) (by omega) (fun h42 => ?_) (fun h42 => ?_)
    · exact absurd h42 (by omega)
    · refine v_iload (j := 4) (q := 47) rfl dX10_critical_45 rfl ?_
      refine v_aload_n (j := 0) (q := 48) rfl dX10_critical_47 rfl ?_
      refine v_iload_n (j := 1) (q := 49) rfl dX10_critical_48 rfl ?_
      refine v_iload_n (j := 2) (q := 50) rfl dX10_critical_49 rfl ?_
      refine v_iload (j := 5) (q := 52) rfl dX10_critical_50 rfl ?_
      refine v_cVI3 (q := 55) dX10_critical_52 mlX10_147 mdX10_distanceTo (by decide) kd_116 rfl rfl ⟨Nat.le_refl 0, Nat.le_refl 0⟩ (by exact Nat.le_of_ble_eq_true rfl) rfl (c_X10_distanceTo p w k M A.1 (by rw [e17]; exact h.1.1) ha hw (by omega)) ?_
      rintro _ m1 ⟨g1, rfl⟩
      refine v_iload_n (j := 3) (q := 56) rfl dX10_critical_55 rfl ?_
      refine v_icmp_eq (tgt := 66) (q := 59) dX10_critical_56 (by decide) rfl (by omega) (by omega) (fun h56 => ?_) (fun h56 => ?_)
      · refine v_iconst (q := 67) dX10_critical_66 rfl ?_
        refine v_ior (q := 68) (by first | exact or32 (by omega) p2 | exact or0 (by omega)) dX10_critical_67 rfl ?_
        refine v_ist4 (q := 70) rfl dX10_critical_68 (by decide) rfl ?_
        refine v_iinc5 (q := 73) rfl dX10_critical_70 (by decide) rfl ?_
        refine v_goto (q := 34) dX10_critical_73 (by decide) ?_
        first
          | (refine stp _ ?_ _ (h2.trans g1)
             rw [show crB (difR A.1 p w) (k + 1) = crB (difR A.1 p w) k ||| 2 ^ k from if_pos (hdR.mpr h56)])
          | (refine stp _ ?_ _ (h2.trans g1)
             exact (if_neg (fun h9 => hdR.mp h9 h56)).symm)
      · refine v_iconst (q := 60) dX10_critical_59 rfl ?_
        refine v_iload (j := 5) (q := 62) rfl dX10_critical_60 rfl ?_
        refine v_ishl (q := 63) (shl1 (by omega)) dX10_critical_62 rfl ?_
        refine v_goto (q := 67) dX10_critical_63 (by decide) ?_
        refine v_ior (q := 68) (by first | exact or32 (by omega) p2 | exact or0 (by omega)) dX10_critical_67 rfl ?_
        refine v_ist4 (q := 70) rfl dX10_critical_68 (by decide) rfl ?_
        refine v_iinc5 (q := 73) rfl dX10_critical_70 (by decide) rfl ?_
        refine v_goto (q := 34) dX10_critical_73 (by decide) ?_
        first
          | (refine stp _ ?_ _ (h2.trans g1)
             rw [show crB (difR A.1 p w) (k + 1) = crB (difR A.1 p w) k ||| 2 ^ k from if_pos (hdR.mpr h56)])
          | (refine stp _ ?_ _ (h2.trans g1)
             exact (if_neg (fun h9 => hdR.mp h9 h56)).symm)
theorem c_X10_critical {LO : (Int → Int) → Sy → Prop} (p w : Int) (mem : Mem) (A : AS) (h : RJ LO mem A) (hp : R32 p) (hw : R32 w) : CtrI mX10_critical [aR 116, aI p, aI w] mem (fun z m => sCrit A.1 p w = z ∧ RK LO mem A m) := by
  have ok := h.1.1.2.2.1
  have hwr : R32 (wv (lmS A.1 (-1) p (dgs w))) := (by have := wv_rng ok (ex := (-1)) (p := A.1.2.2.1) (s := dgs A.1.2.2.2.1) (q := p) (t := dgs w); unfold lmS; omega)
  have hex : wv (lmS A.1 (-6) p (dgs w)) = wv (lmS A.1 (-1) p (dgs w)) := by unfold lmS; rw [lm_ex]
  refine Ctr.ofV (ls := [aR 116, aI p, aI w, aU, aU, aU]) rfl (by decide) rfl (Nat.le_of_ble_eq_true rfl) ?_
  refine v_aload_n (j := 0) (q := 1) rfl dX10_critical_0 rfl ?_
  refine v_iload_n (j := 1) (q := 2) rfl dX10_critical_1 rfl ?_
  refine v_iload_n (j := 2) (q := 3) rfl dX10_critical_2 rfl ?_
  refine v_cVI2 (q := 6) dX10_critical_3 mlX10_143 mdX10_isAsked (by decide) kd_116 rfl rfl ⟨Nat.le_refl 0, Nat.le_refl 0⟩ (by exact Nat.le_of_ble_eq_true rfl) rfl (c_X10_isAsked p w mem A.1 h.1.1 hp hw) ?_
  rintro _ _ ⟨rfl, rfl⟩
  refine v_if_neB (tgt := 11) (q := 9) dX10_critical_6 (by decide) rfl (fun h6 => ?_) (fun h6 => ?_)
  · refine v_aload_n (j := 0) (q := 12) rfl dX10_critical_11 rfl ?_
    refine v_iload_n (j := 1) (q := 13) rfl dX10_critical_12 rfl ?_
    refine v_iload_n (j := 2) (q := 14) rfl dX10_critical_13 rfl ?_
    refine v_iconst (q := 15) dX10_critical_14 rfl ?_
    refine v_cVI3 (q := 18) dX10_critical_15 mlX10_147 mdX10_distanceTo (by decide) kd_116 rfl rfl ⟨Nat.le_refl 0, Nat.le_refl 0⟩ (by exact Nat.le_of_ble_eq_true rfl) rfl (c_X10_distanceTo p w (-1) mem A.1 h.1.1 h6 hw (by omega)) ?_
    rintro _ m1 ⟨g1, rfl⟩
    refine v_ist3 (q := 19) rfl dX10_critical_18 (by decide) rfl ?_
    refine v_iload_n (j := 3) (q := 20) rfl dX10_critical_19 rfl ?_
    refine v_bipush (q := 22) (by decide) dX10_critical_20 rfl ?_
    refine v_icmp_ne (tgt := 28) (q := 25) dX10_critical_22 (by decide) rfl (by omega) (by omega) (fun h22 => ?_) (fun h22 => ?_)
    · refine v_iconst (q := 29) dX10_critical_28 rfl ?_
      refine v_ist4 (q := 31) rfl dX10_critical_29 (by decide) rfl ?_
      refine v_iconst (q := 32) dX10_critical_31 rfl ?_
      refine v_ist5 (q := 34) rfl dX10_critical_32 (by decide) rfl ?_
      exact l_X10_crit mem A h p w _ hw h6 hex hwr (fun e => h22 (by rw [← hex, e]; rfl)) A.1.2.2.2.2.length 0 m1 (by omega) g1
    · refine v_bipush (q := 27) (by decide) dX10_critical_25 rfl ?_
      refine v_iret dX10_critical_27 ?_
      exact ⟨_, rfl, by unfold sCrit; rw [if_pos h6, if_pos (show lmS A.1 (-6) p (dgs w) = none from wv_none ok (show wv (lmS A.1 (-6) p (dgs w)) = -6 by rw [hex]; exact h22))], RK.of h g1⟩
  · refine v_iconst (q := 10) dX10_critical_9 rfl ?_
    refine v_iret dX10_critical_10 ?_
    exact ⟨_, rfl, by unfold sCrit; rw [if_neg h6], RK.of h (frR.refl _)⟩
