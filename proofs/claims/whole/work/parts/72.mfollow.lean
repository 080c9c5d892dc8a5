/-! ===== the reference: follow ===== -/
def RF (m : Mem) (k : Int) (r : Rl) : Prop := m 117 (5 + 5 * k + 0) = r.1 ∧ m 117 (5 + 5 * k + 1) = r.2.1 ∧ m 117 (5 + 5 * k + 2) = r.2.2.1 ∧ m 117 (5 + 5 * k + 3) = r.2.2.2.1 ∧ m 117 (5 + 5 * k + 4) = r.2.2.2.2
/-- one way, and then another -/
theorem WY.two {y : Sy} {ex q : Int} {t : List Int} {v : Int → Int} (ok : okS y) (hv : SndW y ex q t v) {f a b m s : Int} (hf : 0 ≤ f ∧ f < y.1) (ha : 1 ≤ a ∧ a ≤ 5) (hb : 1 ≤ b ∧ b ≤ 5) (hm : 0 ≤ m ∧ m < 11) (hs : 0 ≤ s ∧ s < 11) (h1 : v (ix f a m) < EN) (h2 : v (ix m b s) < EN) : WY y.2.2.2.2 ex q t f [a, b] s (v (ix f a m) + v (ix m b s)) := by
  have hS := ok.1
  have w1 := (hv.2 f a m hf.1 (by omega) ha.1 ha.2 hm.1 hm.2 h1).resolve_right (fun h => by have := h.1; omega)
  have w2 := hv.2 m b s hm.1 hm.2 hb.1 hb.2 hs.1 hs.2 h2
  rcases w1.2 with ⟨m5, r1⟩ | ⟨m5, ml, r1⟩
  · have w2 := w2.resolve_right (fun h => by have := h.1; omega)
    rcases w2.2 with ⟨s5, r2⟩ | ⟨s5, sl, r2⟩
    · exact Or.inl ⟨s5, (r1.app [b]).trans r2⟩
    · exact Or.inr ⟨s5, sl, (r1.app [b]).trans r2⟩
  · obtain ⟨-, g2, g3, g4, g5⟩ := w2.resolve_left (fun h => by have := h.1; omega)
    refine Or.inr ⟨by omega, by omega, ?_⟩
    have e : (s - 4).toNat = (m - 4).toNat + 1 := by omega
    rw [e, take_s (by omega), ← g3, g5, Int.add_zero]
    exact r1.app [b]
/-- the cost of what comes after a rule -/
def RSf (y : Sy) (ex q : Int) (t : List Int) (r : Rl) (v : Int → Int) (s R : Int) : Prop := (0 ≤ R ∧ R ≤ EN) ∧ (R < EN → WY y.2.2.2.2 ex q t r.2.2.1 (dgs r.2.2.2.1) s R) ∧ (nd r.2.2.2.1 = 0 → s = r.2.2.1 → R = 0) ∧ (nd r.2.2.2.1 = 1 → R ≤ v (ix r.2.2.1 r.2.2.2.1 s)) ∧ (nd r.2.2.2.1 = 2 → ∀ m, 0 ≤ m → m < 11 → v (ix r.2.2.1 (r.2.2.2.1 / 10) m) < EN → v (ix m (r.2.2.2.1 % 10) s) < EN → R ≤ v (ix r.2.2.1 (r.2.2.2.1 / 10) m) + v (ix m (r.2.2.2.1 % 10) s))
theorem l_X10_fol2 {Post : AV → Mem → Prop} (mem : Mem) (y : Sy) (ex q : Int) (t : List Int) (k : Int) (r : Rl) (ok : okS y) (okr : okR y.1 y.2.1 r) (hk : 0 ≤ k ∧ k < 20) (hrf : RF mem k r) (hv : SndW y ex q t (mem 120)) (h2 : nd r.2.2.2.1 = 2) (C : Prop) (s : Int) (hs : 0 ≤ s ∧ s < 11) (K : ∀ R i u9 u10 u11 u12, RSf y ex q t r (mem 120) s R → V cX10_follow RX10 13 (some .boolean) (rmk 2 43) (mE Post) 169 [aR 116, aI k, aI r.2.2.2.1, aI (nd r.2.2.2.1), aI (bI C), aI s, aL R, aU, aI i, u9, u10, u11, u12] [] mem) :
    ∀ (j : Nat) (i R : Int) (u9 u10 u11 u12 : AV), i + j = 11 → 0 ≤ i → (0 ≤ R ∧ R ≤ EN) → (R < EN → WY y.2.2.2.2 ex q t r.2.2.1 (dgs r.2.2.2.1) s R) → (∀ m, 0 ≤ m → m < i → mem 120 (ix r.2.2.1 (r.2.2.2.1 / 10) m) < EN → mem 120 (ix m (r.2.2.2.1 % 10) s) < EN → R ≤ mem 120 (ix r.2.2.1 (r.2.2.2.1 / 10) m) + mem 120 (ix m (r.2.2.2.1 % 10) s)) →
    V cX10_follow RX10 13 (some .boolean) (rmk 2 43) (mE Post) 83 [aR 116, aI k, aI r.2.2.2.1, aI (nd r.2.2.2.1), aI (bI C), aI s, aL R, aU, aI i, u9, u10, u11, u12] [] mem := by
  have hEN := EN_def
  have hS := ok.1
  have hG := ok.2.1
  obtain ⟨d1, d2, d3⟩ := rl_cases okr hG.2 hS.2
  obtain ⟨-, z2, z3, z4, z5, z6, z7⟩ := (d3.resolve_left (fun h => by have := h.1; omega)).resolve_left (fun h => by have := h.1; omega)
  have ebl : blR r = r.2.2.2.1 % 10 := by unfold blR; rw [if_pos h2]
  rw [ebl] at z2 z6 z7
  obtain ⟨q0, q1⟩ := okr.2.2.1
  have hw0 := okr.2.2.2.1.1.1
  have hw9 := nd_bound 2 okr.2.2.2.1.1.1 okr.2.2.2.1.2
  have e2 := hrf.2.2.1
  intro j
  induction j with
  | zero =>
    intro i R u9 u10 u11 u12 h1 i0 hR hR2 hR3
    refine v_iload (j := 8) (q := 85) rfl dX10_follow_83 rfl ?_
    refine v_bipush (q := 87) (by decide) dX10_follow_85 rfl ?_
    refine v_icmp_ge (tgt := 169) (q := 90) dX10_follow_87 (by decide) rfl (by omega) (by omega) (fun h87 => ?_) (fun h87 => ?_)
    · exact K R i _ _ _ _ ⟨hR, hR2, fun h => by omega, fun h => by omega, fun _ m m0 m1 => hR3 m m0 (by omega)⟩
    · exact absurd h87 (by omega)
  | succ j ih =>
    intro i R u9 u10 u11 u12 h1 i0 hR hR2 hR3
    have b1 := hv.1 _ (ix_rng (f := r.2.2.1) (x := r.2.2.2.1 / 10) (s := i) (by omega) (by omega) (by omega)).1 (ix_rng (by omega) (by omega) (by omega)).2
    have b2 := hv.1 _ (ix_rng (f := i) (x := r.2.2.2.1 % 10) (s := s) (by omega) (by omega) (by omega)).1 (ix_rng (by omega) (by omega) (by omega)).2
    obtain ⟨A, hA⟩ : ∃ A, A = mem 120 (ix r.2.2.1 (r.2.2.2.1 / 10) i) := ⟨_, rfl⟩
    obtain ⟨B, hB⟩ : ∃ B, B = mem 120 (ix i (r.2.2.2.1 % 10) s) := ⟨_, rfl⟩
    rw [← hA] at b1
    rw [← hB] at b2
    refine v_iload (j := 8) (q := 85) rfl dX10_follow_83 rfl ?_
    refine v_bipush (q := 87) (by decide) dX10_follow_85 rfl ?_
    refine v_icmp_ge (tgt := 169) (q := 90) dX10_follow_87 (by decide) rfl (by omega) (by omega) (fun h87 => ?_) (fun h87 => ?_)
    · exact absurd h87 (by omega)
    · refine v_aload_n (j := 0) (q := 91) rfl dX10_follow_90 rfl ?_
      refine v_aload_n (j := 0) (q := 92) rfl dX10_follow_91 rfl ?_
      refine v_iload_n (j := 1) (q := 93) rfl dX10_follow_92 rfl ?_
      refine v_iconst (q := 94) dX10_follow_93 rfl ?_
      refine v_cVI2 (q := 97) dX10_follow_94 mlX10_67 mdX10_of (by decide) kd_116 rfl rfl ⟨Nat.le_refl 0, Nat.le_refl 0⟩ (by exact Nat.le_of_ble_eq_true rfl) rfl (c_X10_of k 2 mem (by omega) (by omega)) ?_
      rw [e2]
      rintro _ _ ⟨rfl, rfl⟩
      refine v_iload_n (j := 2) (q := 98) rfl dX10_follow_97 rfl ?_
      refine v_bipush (q := 100) (by decide) dX10_follow_98 rfl ?_
      refine v_idiv (q := 101) (by omega) (by omega) dX10_follow_100 rfl ?_
      refine v_iload (j := 8) (q := 103) rfl dX10_follow_101 rfl ?_
      refine v_cVL3 (q := 106) dX10_follow_103 mlX10_95 mdX10_way (by decide) kd_116 rfl rfl ⟨Nat.le_refl 0, Nat.le_refl 0⟩ (by exact Nat.le_of_ble_eq_true rfl) rfl (c_X10_way r.2.2.1 (r.2.2.2.1 / 10) i mem (by omega) (by omega) (by omega)) ?_
      rw [← hA]
      rintro _ _ ⟨rfl, rfl⟩
      refine v_lst9 (q := 108) rfl dX10_follow_106 (by decide) rfl ?_
      refine v_aload_n (j := 0) (q := 109) rfl dX10_follow_108 rfl ?_
      refine v_iload (j := 8) (q := 111) rfl dX10_follow_109 rfl ?_
      refine v_iload_n (j := 2) (q := 112) rfl dX10_follow_111 rfl ?_
      refine v_bipush (q := 114) (by decide) dX10_follow_112 rfl ?_
      refine v_irem (q := 115) (by omega) (by omega) dX10_follow_114 rfl ?_
      refine v_iload (j := 5) (q := 117) rfl dX10_follow_115 rfl ?_
      refine v_cVL3 (q := 120) dX10_follow_117 mlX10_95 mdX10_way (by decide) kd_116 rfl rfl ⟨Nat.le_refl 0, Nat.le_refl 0⟩ (by exact Nat.le_of_ble_eq_true rfl) rfl (c_X10_way i (r.2.2.2.1 % 10) s mem (by omega) (by omega) (by omega)) ?_
      rw [← hB]
      rintro _ _ ⟨rfl, rfl⟩
      refine v_lst11 (q := 122) rfl dX10_follow_120 (by decide) rfl ?_
      refine v_lload (j := 9) (q := 124) rfl dX10_follow_122 rfl ?_
      refine v_ldc2 (n := 4000000000000000000) (q := 127) klX10_91 rfl dX10_follow_124 rfl ?_
      refine v_lcmp_ge (tgt := 159) (q := 131) dX10_follow_127 dX10_follow_128 (by decide) rfl (by omega) (by omega) (fun h127 => ?_) (fun h127 => ?_)
      · refine v_lload (j := 6) (q := 161) rfl dX10_follow_159 rfl ?_
        refine v_lst6 (q := 163) rfl dX10_follow_161 (by decide) rfl ?_
        refine v_iinc8 (q := 166) rfl dX10_follow_163 (by decide) rfl ?_
        refine v_goto (q := 83) dX10_follow_166 (by decide) ?_
        first
          | (refine ih (i + 1) R _ _ _ _ (by omega) (by omega) hR hR2 (fun m m0 m1 l1 l2 => ?_)
             by_cases e : m = i
             · subst e
               rw [← hA] at l1 ⊢
               rw [← hB] at l2 ⊢
               omega
             · exact hR3 m m0 (by omega) l1 l2)
          | (refine ih (i + 1) (A + B) _ _ _ _ (by omega) (by omega) (by omega) (fun _ => ?_) (fun m m0 m1 l1 l2 => ?_)
             · rw [z2, hA, hB]
               exact WY.two ok hv ⟨q0, q1⟩ (by omega) (by omega) (by omega) hs (by omega) (by omega)
             · by_cases e : m = i
               · subst e
                 rw [← hA, ← hB]
                 omega
               · have := hR3 m m0 (by omega) l1 l2
                 omega)
      · refine v_lload (j := 11) (q := 133) rfl dX10_follow_131 rfl ?_
        refine v_ldc2 (n := 4000000000000000000) (q := 136) klX10_91 rfl dX10_follow_133 rfl ?_
        refine v_lcmp_ge (tgt := 159) (q := 140) dX10_follow_136 dX10_follow_137 (by decide) rfl (by omega) (by omega) (fun h136 => ?_) (fun h136 => ?_)
        · refine v_lload (j := 6) (q := 161) rfl dX10_follow_159 rfl ?_
          refine v_lst6 (q := 163) rfl dX10_follow_161 (by decide) rfl ?_
          refine v_iinc8 (q := 166) rfl dX10_follow_163 (by decide) rfl ?_
          refine v_goto (q := 83) dX10_follow_166 (by decide) ?_
          first
            | (refine ih (i + 1) R _ _ _ _ (by omega) (by omega) hR hR2 (fun m m0 m1 l1 l2 => ?_)
               by_cases e : m = i
               · subst e
                 rw [← hA] at l1 ⊢
                 rw [← hB] at l2 ⊢
                 omega
               · exact hR3 m m0 (by omega) l1 l2)
            | (refine ih (i + 1) (A + B) _ _ _ _ (by omega) (by omega) (by omega) (fun _ => ?_) (fun m m0 m1 l1 l2 => ?_)
               · rw [z2, hA, hB]
                 exact WY.two ok hv ⟨q0, q1⟩ (by omega) (by omega) (by omega) hs (by omega) (by omega)
               · by_cases e : m = i
                 · subst e
                   rw [← hA, ← hB]
                   omega
                 · have := hR3 m m0 (by omega) l1 l2
                   omega)
        · refine v_lload (j := 9) (q := 142) rfl dX10_follow_140 rfl ?_
          refine v_lload (j := 11) (q := 144) rfl dX10_follow_142 rfl ?_
          refine v_ladd (q := 145) dX10_follow_144 rfl ?_
          refine v_lload (j := 6) (q := 147) rfl dX10_follow_145 rfl ?_
          refine v_lcmp_ge (tgt := 159) (q := 151) dX10_follow_147 dX10_follow_148 (by decide) rfl (by omega) (by omega) (fun h147 => ?_) (fun h147 => ?_)
          · refine v_lload (j := 6) (q := 161) rfl dX10_follow_159 rfl ?_
            refine v_lst6 (q := 163) rfl dX10_follow_161 (by decide) rfl ?_
            refine v_iinc8 (q := 166) rfl dX10_follow_163 (by decide) rfl ?_
            refine v_goto (q := 83) dX10_follow_166 (by decide) ?_
            first
              | (refine ih (i + 1) R _ _ _ _ (by omega) (by omega) hR hR2 (fun m m0 m1 l1 l2 => ?_)
                 by_cases e : m = i
                 · subst e
                   rw [← hA] at l1 ⊢
                   rw [← hB] at l2 ⊢
                   omega
                 · exact hR3 m m0 (by omega) l1 l2)
              | (refine ih (i + 1) (A + B) _ _ _ _ (by omega) (by omega) (by omega) (fun _ => ?_) (fun m m0 m1 l1 l2 => ?_)
                 · rw [z2, hA, hB]
                   exact WY.two ok hv ⟨q0, q1⟩ (by omega) (by omega) (by omega) hs (by omega) (by omega)
                 · by_cases e : m = i
                   · subst e
                     rw [← hA, ← hB]
                     omega
                   · have := hR3 m m0 (by omega) l1 l2
                     omega)
          · refine v_lload (j := 9) (q := 153) rfl dX10_follow_151 rfl ?_
            refine v_lload (j := 11) (q := 155) rfl dX10_follow_153 rfl ?_
            refine v_ladd (q := 156) dX10_follow_155 rfl ?_
            refine v_goto (q := 161) dX10_follow_156 (by decide) ?_
            refine v_lst6 (q := 163) rfl dX10_follow_161 (by decide) rfl ?_
            refine v_iinc8 (q := 166) rfl dX10_follow_163 (by decide) rfl ?_
            refine v_goto (q := 83) dX10_follow_166 (by decide) ?_
            first
              | (refine ih (i + 1) R _ _ _ _ (by omega) (by omega) hR hR2 (fun m m0 m1 l1 l2 => ?_)
                 by_cases e : m = i
                 · subst e
                   rw [← hA] at l1 ⊢
                   rw [← hB] at l2 ⊢
                   omega
                 · exact hR3 m m0 (by omega) l1 l2)
              | (refine ih (i + 1) (A + B) _ _ _ _ (by omega) (by omega) (by omega) (fun _ => ?_) (fun m m0 m1 l1 l2 => ?_)
                 · rw [z2, hA, hB]
                   exact WY.two ok hv ⟨q0, q1⟩ (by omega) (by omega) (by omega) hs (by omega) (by omega)
                 · by_cases e : m = i
                   · subst e
                     rw [← hA, ← hB]
                     omega
                   · have := hR3 m m0 (by omega) l1 l2
                     omega)
