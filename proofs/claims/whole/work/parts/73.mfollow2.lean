/-! ===== the reference: follow, its loop over the nodes ===== -/
def rlxs (r : Rl) (v : Int → Int) (s : Int) : Prop := (nd r.2.2.2.1 = 0 → s = r.2.2.1 → v (ix r.1 r.2.1 s) ≤ cr BR r) ∧ (nd r.2.2.2.1 = 1 → v (ix r.2.2.1 r.2.2.2.1 s) + cr BR r < EN → v (ix r.1 r.2.1 s) ≤ v (ix r.2.2.1 r.2.2.2.1 s) + cr BR r) ∧ (nd r.2.2.2.1 = 2 → ∀ m, 0 ≤ m → m < 11 → v (ix r.2.2.1 (r.2.2.2.1 / 10) m) < EN → v (ix m (r.2.2.2.1 % 10) s) < EN → v (ix r.2.2.1 (r.2.2.2.1 / 10) m) + v (ix m (r.2.2.2.1 % 10) s) + cr BR r < EN → v (ix r.1 r.2.1 s) ≤ v (ix r.2.2.1 (r.2.2.2.1 / 10) m) + v (ix m (r.2.2.2.1 % 10) s) + cr BR r)
def folQ (y : Sy) (ex q : Int) (t : List Int) (r : Rl) (mem : Mem) (z : Int) (m : Mem) : Prop := ∃ (v' : Int → Int) (C : Prop), m = sm mem 120 v' ∧ bI C = z ∧ SndW y ex q t v' ∧ (∀ i, v' i ≤ mem 120 i) ∧ (C → ∃ i, 0 ≤ i ∧ i < 605 ∧ v' i < mem 120 i) ∧ (¬ C → (∀ i, v' i = mem 120 i) ∧ ∀ s, 0 ≤ s → s < 11 → rlxs r (mem 120) s)
theorem bIor1 (C : Prop) : (Int32.ofInt (bI C)) ||| (Int32.ofInt 1) = Int32.ofInt (bI True) := by
  rw [← bI_1]
  rcases bI_01 C with h | h <;> rw [h] <;> decide
theorem bIor0 (C : Prop) : (Int32.ofInt (bI C)) ||| (Int32.ofInt 0) = Int32.ofInt (bI C) := by
  rcases bI_01 C with h | h <;> rw [h] <;> decide
theorem SndW.imp {y : Sy} {ex q : Int} {t : List Int} {v : Int → Int} (hv : SndW y ex q t v) {f x s c : Int} (hf : 0 ≤ f ∧ f < y.1) (hS : y.1 ≤ 4) (hx : 1 ≤ x ∧ x ≤ 5) (hs : 0 ≤ s ∧ s < 11) (hc : 0 ≤ c ∧ c < EN) (hw : WY y.2.2.2.2 ex q t f [x] s c) : SndW y ex q t (ui v (ix f x s) c) := by
  refine ⟨fun i i0 i1 => ?_, fun f2 x2 s2 a1 a2 a3 a4 a5 a6 hl => ?_⟩
  · unfold ui
    split
    · omega
    · exact hv.1 i i0 i1
  · by_cases e : ix f2 x2 s2 = ix f x s
    · obtain ⟨e1, e2, e3⟩ := ix_inj ⟨a3, a4⟩ ⟨a5, a6⟩ hx hs e
      subst e1; subst e2; subst e3
      rw [ui_same]
      exact Or.inl ⟨hf.2, hw⟩
    · rw [ui_ne _ _ e] at hl ⊢
      exact hv.2 f2 x2 s2 a1 a2 a3 a4 a5 a6 hl
theorem WY.step {y : Sy} {ex q : Int} {t : List Int} {kk : Nat} {r : Rl} (hr : y.2.2.2.2[kk]? = some r) (hex : (kk : Int) ≠ ex) {s R : Int} (h : WY y.2.2.2.2 ex q t r.2.2.1 (dgs r.2.2.2.1) s R) : WY y.2.2.2.2 ex q t r.1 [r.2.1] s (R + cr BR r) := by
  rw [Int.add_comm]
  rcases h with ⟨a, b⟩ | ⟨a, a2, b⟩
  · exact Or.inl ⟨a, RC.step hr hex (by rw [List.append_nil]; exact b)⟩
  · exact Or.inr ⟨a, a2, RC.step hr hex (by rw [List.append_nil]; exact b)⟩
theorem l_X10_fol (mem : Mem) (y : Sy) (ex q : Int) (t : List Int) (kk : Nat) (r : Rl) (ok : okS y) (hr : y.2.2.2.2[kk]? = some r) (hex : (kk : Int) ≠ ex) (hrf : RF mem kk r) :
    ∀ (j : Nat) (s : Int) (v : Int → Int) (C : Prop) (u6 u7 u8 u9 u10 u11 u12 : AV), s + j = 11 → 0 ≤ s → SndW y ex q t v → (∀ i, v i ≤ mem 120 i) → (C → ∃ i, 0 ≤ i ∧ i < 605 ∧ v i < mem 120 i) → (¬ C → (∀ i, v i = mem 120 i) ∧ ∀ s2, 0 ≤ s2 → s2 < s → rlxs r (mem 120) s2) →
    V cX10_follow RX10 13 (some .boolean) (rmk 2 43) (mE (fun q2 m => ∃ z, q2 = aI z ∧ folQ y ex q t r mem z m)) 18 [aR 116, aI kk, aI r.2.2.2.1, aI (nd r.2.2.2.1), aI (bI C), aI s, u6, u7, u8, u9, u10, u11, u12] [] (sm mem 120 v) := by
  have hEN := EN_def
  have hS := ok.1
  have hG := ok.2.1
  have okr := ok.2.2.2.2.2 r (List.mem_of_getElem? hr)
  have hk20 : kk < 20 := by have := (List.getElem?_eq_some_iff.mp hr).1; have := ok.2.2.2.2.1; omega
  obtain ⟨d1, d2, d3⟩ := rl_cases okr hG.2 hS.2
  obtain ⟨q0, q1⟩ := okr.2.2.1
  obtain ⟨p0, p1⟩ := okr.1
  obtain ⟨x0, x1⟩ := okr.2.1
  obtain ⟨w0, w1⟩ := okr.2.2.2.2
  have hn0 := nd_nn r.2.2.2.1
  have hn2 := okr.2.2.2.1.2
  have hw9 := nd_bound 2 okr.2.2.2.1.1.1 okr.2.2.2.1.2
  have hw0 := okr.2.2.2.1.1.1
  have hcr : cr BR r = r.2.2.2.2 * 2097152 + 1 := rfl
  intro j
  induction j with
  | zero =>
    intro s v C u6 u7 u8 u9 u10 u11 u12 h1 s0 hv hle hC hnC
    refine v_iload (j := 5) (q := 20) rfl dX10_follow_18 rfl ?_
    refine v_bipush (q := 22) (by decide) dX10_follow_20 rfl ?_
    refine v_icmp_ge (tgt := 223) (q := 25) dX10_follow_22 (by decide) rfl (by omega) (by omega) (fun h22 => ?_) (fun h22 => ?_)
    · refine v_iload (j := 4) (q := 225) rfl dX10_follow_223 rfl ?_
      refine v_zret (by first | exact Or.inl rfl | exact Or.inr rfl | exact bI_01 _ | omega) dX10_follow_225 ?_
      exact ⟨_, rfl, v, C, rfl, rfl, hv, hle, hC, fun h => ⟨(hnC h).1, fun s2 a b => (hnC h).2 s2 a (by omega)⟩⟩
    · exact absurd h22 (by omega)
  | succ j ih =>
    intro s v C u6 u7 u8 u9 u10 u11 u12 h1 s0 hv hle hC hnC
    have e17 : sm mem 120 v 117 = mem 117 := sm_ne _ _ (by decide)
    have e20 : sm mem 120 v 120 = v := sm_same _ _ _
    have rf2 : RF (sm mem 120 v) kk r := by unfold RF; rw [e17]; exact hrf
    obtain ⟨f0, f1, f2, f3, f4⟩ := id rf2
    have hv2 : SndW y ex q t (sm mem 120 v 120) := by rw [e20]; exact hv
    have bx := hv.1 _ (ix_rng (f := r.1) (x := r.2.1) (s := s) (by omega) (by omega) (by omega)).1 (ix_rng (by omega) (by omega) (by omega)).2
    have K : ∀ R u8 u9 u10 u11 u12, RSf y ex q t r (sm mem 120 v 120) s R → V cX10_follow RX10 13 (some .boolean) (rmk 2 43) (mE (fun q2 m => ∃ z, q2 = aI z ∧ folQ y ex q t r mem z m)) 169 [aR 116, aI kk, aI r.2.2.2.1, aI (nd r.2.2.2.1), aI (bI C), aI s, aL R, aU, u8, u9, u10, u11, u12] [] (sm mem 120 v) := fun R u8 u9 u10 u11 u12 hR => by
      rw [e20] at hR
      obtain ⟨hR0, hR1, hR2, hR3, hR4⟩ := hR
      have same : ¬ (R < EN ∧ R + cr BR r < v (ix r.1 r.2.1 s) ∧ R + cr BR r < EN) → ∀ u6 u7 u8 u9 u10 u11 u12, V cX10_follow RX10 13 (some .boolean) (rmk 2 43) (mE (fun q2 m => ∃ z, q2 = aI z ∧ folQ y ex q t r mem z m)) 18 [aR 116, aI kk, aI r.2.2.2.1, aI (nd r.2.2.2.1), aI (bI C), aI (s + 1), u6, u7, u8, u9, u10, u11, u12] [] (sm mem 120 v) := fun hn u6 u7 u8 u9 u10 u11 u12 => by
        refine ih (s + 1) v C u6 u7 u8 u9 u10 u11 u12 (by omega) (by omega) hv hle hC (fun h => ⟨(hnC h).1, fun s2 a b => ?_⟩)
        by_cases e : s2 = s
        · subst e
          have ev : mem 120 = v := funext (fun i => ((hnC h).1 i).symm)
          rw [ev]
          refine ⟨fun n0 e0 => ?_, fun n1 l1 => ?_, fun n2 m m0 m1 l1 l2 l3 => ?_⟩
          · have := hR2 n0 e0
            omega
          · have := hR3 n1
            omega
          · have := hR4 n2 m m0 m1 l1 l2
            omega
        · exact (hnC h).2 s2 a (by omega)
      refine v_iload (j := 4) (q := 171) rfl dX10_follow_169 rfl ?_
      refine v_lload (j := 6) (q := 173) rfl dX10_follow_171 rfl ?_
      refine v_ldc2 (n := 4000000000000000000) (q := 176) klX10_91 rfl dX10_follow_173 rfl ?_
      refine v_lcmp_ge (tgt := 213) (q := 180) dX10_follow_176 dX10_follow_177 (by decide) rfl (by omega) (by omega) (fun h176 => ?_) (fun h176 => ?_)
      · refine v_iconst (q := 214) dX10_follow_213 rfl ?_
        refine v_ior (q := 215) (by first | exact bIor1 C | exact bIor0 C) dX10_follow_214 rfl ?_
        refine v_ist4 (q := 217) rfl dX10_follow_215 (by decide) rfl ?_
        refine v_iinc5 (q := 220) rfl dX10_follow_217 (by decide) rfl ?_
        refine v_goto (q := 18) dX10_follow_220 (by decide) ?_
        first
          | exact same (fun h => by have := h.1; omega) _ _ _ _ _ _ _
          | (rw [← i3 h206]
             exact same (fun h => h206 (i1.mpr h.2)) _ _ _ _ _ _ _)
          | (have hc9 := i1.mp h206
             rw [← i2 h206]
             refine ih (s + 1) _ True _ _ _ _ _ _ _ (by omega) (by omega) (hv.imp ⟨p0, p1⟩ hS.2 (by omega) (by omega) (by omega) (WY.step hr hex (hR1 (by omega)))) (fun i => ?_) (fun _ => ⟨ix r.1 r.2.1 s, (ix_rng (by omega) (by omega) (by omega)).1, (ix_rng (by omega) (by omega) (by omega)).2, ?_⟩) (fun h => absurd trivial h)
             · have := hle i
               unfold ui
               split
               · rename_i e
                 rw [e] at this ⊢
                 show R + cr BR r ≤ _
                 omega
               · exact this
             · have := hle (ix r.1 r.2.1 s)
               rw [ui_same]
               show R + cr BR r < _
               omega)
      · refine v_aload_n (j := 0) (q := 181) rfl dX10_follow_180 rfl ?_
        refine v_aload_n (j := 0) (q := 182) rfl dX10_follow_181 rfl ?_
        refine v_iload_n (j := 1) (q := 183) rfl dX10_follow_182 rfl ?_
        refine v_iconst (q := 184) dX10_follow_183 rfl ?_
        refine v_cVI2 (q := 187) dX10_follow_184 mlX10_67 mdX10_of (by decide) kd_116 rfl rfl ⟨Nat.le_refl 0, Nat.le_refl 0⟩ (by exact Nat.le_of_ble_eq_true rfl) rfl (c_X10_of kk 0 _ (by omega) (by omega)) ?_
        rw [f0]
        rintro _ _ ⟨rfl, rfl⟩
        refine v_aload_n (j := 0) (q := 188) rfl dX10_follow_187 rfl ?_
        refine v_iload_n (j := 1) (q := 189) rfl dX10_follow_188 rfl ?_
        refine v_iconst (q := 190) dX10_follow_189 rfl ?_
        refine v_cVI2 (q := 193) dX10_follow_190 mlX10_67 mdX10_of (by decide) kd_116 rfl rfl ⟨Nat.le_refl 0, Nat.le_refl 0⟩ (by exact Nat.le_of_ble_eq_true rfl) rfl (c_X10_of kk 1 _ (by omega) (by omega)) ?_
        rw [f1]
        rintro _ _ ⟨rfl, rfl⟩
        refine v_iload (j := 5) (q := 195) rfl dX10_follow_193 rfl ?_
        refine v_lload (j := 6) (q := 197) rfl dX10_follow_195 rfl ?_
        refine v_aload_n (j := 0) (q := 198) rfl dX10_follow_197 rfl ?_
        refine v_iload_n (j := 1) (q := 199) rfl dX10_follow_198 rfl ?_
        refine v_cVL1 (q := 202) dX10_follow_199 mlX10_99 mdX10_cost (by decide) kd_116 rfl rfl ⟨Nat.le_refl 0, Nat.le_refl 0⟩ (by exact Nat.le_of_ble_eq_true rfl) rfl (c_X10_cost kk _ (by omega) (by rw [f4]; omega)) ?_
        rw [f4, show r.2.2.2.2 * BR + 1 = cr BR r from rfl]
        rintro _ _ ⟨rfl, rfl⟩
        refine v_ladd (q := 203) dX10_follow_202 rfl ?_
        refine v_cVI4 (q := 206) dX10_follow_203 mlX10_103 mdX10_improve (by decide) kd_116 rfl rfl ⟨Nat.le_refl 0, Nat.le_refl 0⟩ (by exact Nat.le_of_ble_eq_true rfl) rfl (c_X10_improve r.1 r.2.1 s _ _ (by omega) (by omega) (by omega) (by show R64 (R + cr BR r); omega) (by rw [e20]; omega)) ?_
        rw [e20, sm_sm]
        rintro _ m9 ⟨C9, rfl, i1, i2, i3⟩
        have i1 : C9 ↔ R + cr BR r < v (ix r.1 r.2.1 s) ∧ R + cr BR r < EN := i1
        refine v_if_eqB (tgt := 213) (q := 209) dX10_follow_206 (by decide) rfl (fun h206 => ?_) (fun h206 => ?_)
        · refine v_iconst (q := 214) dX10_follow_213 rfl ?_
          refine v_ior (q := 215) (by first | exact bIor1 C | exact bIor0 C) dX10_follow_214 rfl ?_
          refine v_ist4 (q := 217) rfl dX10_follow_215 (by decide) rfl ?_
          refine v_iinc5 (q := 220) rfl dX10_follow_217 (by decide) rfl ?_
          refine v_goto (q := 18) dX10_follow_220 (by decide) ?_
          first
            | exact same (fun h => by have := h.1; omega) _ _ _ _ _ _ _
            | (rw [← i3 h206]
               exact same (fun h => h206 (i1.mpr h.2)) _ _ _ _ _ _ _)
            | (have hc9 := i1.mp h206
               rw [← i2 h206]
               refine ih (s + 1) _ True _ _ _ _ _ _ _ (by omega) (by omega) (hv.imp ⟨p0, p1⟩ hS.2 (by omega) (by omega) (by omega) (WY.step hr hex (hR1 (by omega)))) (fun i => ?_) (fun _ => ⟨ix r.1 r.2.1 s, (ix_rng (by omega) (by omega) (by omega)).1, (ix_rng (by omega) (by omega) (by omega)).2, ?_⟩) (fun h => absurd trivial h)
               · have := hle i
                 unfold ui
                 split
                 · rename_i e
                   rw [e] at this ⊢
                   show R + cr BR r ≤ _
                   omega
                 · exact this
               · have := hle (ix r.1 r.2.1 s)
                 rw [ui_same]
                 show R + cr BR r < _
                 omega)
        · refine v_iconst (q := 210) dX10_follow_209 rfl ?_
          refine v_goto (q := 214) dX10_follow_210 (by decide) ?_
          refine v_ior (q := 215) (by first | exact bIor1 C | exact bIor0 C) dX10_follow_214 rfl ?_
          refine v_ist4 (q := 217) rfl dX10_follow_215 (by decide) rfl ?_
          refine v_iinc5 (q := 220) rfl dX10_follow_217 (by decide) rfl ?_
          refine v_goto (q := 18) dX10_follow_220 (by decide) ?_
          first
            | exact same (fun h => by have := h.1; omega) _ _ _ _ _ _ _
            | (rw [← i3 h206]
               exact same (fun h => h206 (i1.mpr h.2)) _ _ _ _ _ _ _)
            | (have hc9 := i1.mp h206
               rw [← i2 h206]
               refine ih (s + 1) _ True _ _ _ _ _ _ _ (by omega) (by omega) (hv.imp ⟨p0, p1⟩ hS.2 (by omega) (by omega) (by omega) (WY.step hr hex (hR1 (by omega)))) (fun i => ?_) (fun _ => ⟨ix r.1 r.2.1 s, (ix_rng (by omega) (by omega) (by omega)).1, (ix_rng (by omega) (by omega) (by omega)).2, ?_⟩) (fun h => absurd trivial h)
               · have := hle i
                 unfold ui
                 split
                 · rename_i e
                   rw [e] at this ⊢
                   show R + cr BR r ≤ _
                   omega
                 · exact this
               · have := hle (ix r.1 r.2.1 s)
                 rw [ui_same]
                 show R + cr BR r < _
                 omega)
    refine v_iload (j := 5) (q := 20) rfl dX10_follow_18 rfl ?_
    refine v_bipush (q := 22) (by decide) dX10_follow_20 rfl ?_
    refine v_icmp_ge (tgt := 223) (q := 25) dX10_follow_22 (by decide) rfl (by omega) (by omega) (fun h22 => ?_) (fun h22 => ?_)
    · exact absurd h22 (by omega)
    · refine v_ldc2 (n := 4000000000000000000) (q := 28) klX10_91 rfl dX10_follow_25 rfl ?_
      refine v_lst6 (q := 30) rfl dX10_follow_28 (by decide) rfl ?_
      refine v_iload_n (j := 3) (q := 31) rfl dX10_follow_30 rfl ?_
      refine v_if_ne (tgt := 57) (q := 34) dX10_follow_31 (by decide) rfl (by omega) (fun h31 => ?_) (fun h31 => ?_)
      · refine v_iload_n (j := 3) (q := 58) rfl dX10_follow_57 rfl ?_
        refine v_iconst (q := 59) dX10_follow_58 rfl ?_
        refine v_icmp_ne (tgt := 80) (q := 62) dX10_follow_59 (by decide) rfl (by omega) (by omega) (fun h59 => ?_) (fun h59 => ?_)
        · refine v_iconst (q := 81) dX10_follow_80 rfl ?_
          refine v_ist8 (q := 83) rfl dX10_follow_81 (by decide) rfl ?_
          exact l_X10_fol2 _ y ex q t kk r ok okr (by omega) rf2 hv2 (by omega) C s ⟨s0, by omega⟩ (fun R i u9 u10 u11 u12 hR => K R _ _ _ _ _ hR) 11 0 EN _ _ _ _ (by omega) (by omega) (by omega) (fun h => absurd h (by omega)) (fun m m0 m1 => by omega)
        · obtain ⟨-, z2, z3, z4, z5⟩ := (d3.resolve_left (fun h => by have := h.1; omega)).resolve_right (fun h => by have := h.1; omega)
          refine v_aload_n (j := 0) (q := 63) rfl dX10_follow_62 rfl ?_
          refine v_aload_n (j := 0) (q := 64) rfl dX10_follow_63 rfl ?_
          refine v_iload_n (j := 1) (q := 65) rfl dX10_follow_64 rfl ?_
          refine v_iconst (q := 66) dX10_follow_65 rfl ?_
          refine v_cVI2 (q := 69) dX10_follow_66 mlX10_67 mdX10_of (by decide) kd_116 rfl rfl ⟨Nat.le_refl 0, Nat.le_refl 0⟩ (by exact Nat.le_of_ble_eq_true rfl) rfl (c_X10_of kk 2 _ (by omega) (by omega)) ?_
          rw [f2]
          rintro _ _ ⟨rfl, rfl⟩
          refine v_iload_n (j := 2) (q := 70) rfl dX10_follow_69 rfl ?_
          refine v_iload (j := 5) (q := 72) rfl dX10_follow_70 rfl ?_
          refine v_cVL3 (q := 75) dX10_follow_72 mlX10_95 mdX10_way (by decide) kd_116 rfl rfl ⟨Nat.le_refl 0, Nat.le_refl 0⟩ (by exact Nat.le_of_ble_eq_true rfl) rfl (c_X10_way r.2.2.1 r.2.2.2.1 s _ (by omega) (by omega) (by omega)) ?_
          rw [e20]
          rintro _ _ ⟨rfl, rfl⟩
          refine v_lst6 (q := 77) rfl dX10_follow_75 (by decide) rfl ?_
          refine v_goto (q := 169) dX10_follow_77 (by decide) ?_
          first
            | (refine K EN _ _ _ _ _ ⟨by omega, fun h => absurd h (by omega), fun _ h => absurd h h42, fun h => by omega, fun h => by omega⟩)
            | (refine K 0 _ _ _ _ _ ⟨by omega, fun _ => ?_, fun _ _ => rfl, fun h => by omega, fun h => by omega⟩
               rw [(d3.resolve_right (fun h => by rcases h with h | h <;> (have := h.1; omega))).2, h42]
               exact Or.inl ⟨by omega, RC.refl _ _⟩)
            | (have b2 := hv.1 _ (ix_rng (f := r.2.2.1) (x := r.2.2.2.1) (s := s) (by omega) (by omega) (by omega)).1 (ix_rng (by omega) (by omega) (by omega)).2
               refine K (v (ix r.2.2.1 r.2.2.2.1 s)) _ _ _ _ _ ⟨b2, fun hl => ?_, fun h => by omega, fun _ => by rw [e20]; exact Int.le_refl _, fun h => by omega⟩
               rw [z2]
               exact ((hv.2 r.2.2.1 r.2.2.2.1 s q0 (by omega) (by omega) (by omega) s0 (by omega) hl).resolve_right (fun h => by have := h.1; omega)).2)
      · refine v_iload (j := 5) (q := 36) rfl dX10_follow_34 rfl ?_
        refine v_aload_n (j := 0) (q := 37) rfl dX10_follow_36 rfl ?_
        refine v_iload_n (j := 1) (q := 38) rfl dX10_follow_37 rfl ?_
        refine v_iconst (q := 39) dX10_follow_38 rfl ?_
        refine v_cVI2 (q := 42) dX10_follow_39 mlX10_67 mdX10_of (by decide) kd_116 rfl rfl ⟨Nat.le_refl 0, Nat.le_refl 0⟩ (by exact Nat.le_of_ble_eq_true rfl) rfl (c_X10_of kk 2 _ (by omega) (by omega)) ?_
        rw [f2]
        rintro _ _ ⟨rfl, rfl⟩
        refine v_icmp_ne (tgt := 49) (q := 45) dX10_follow_42 (by decide) rfl (by omega) (by omega) (fun h42 => ?_) (fun h42 => ?_)
        · refine v_ldc2 (n := 4000000000000000000) (q := 52) klX10_91 rfl dX10_follow_49 rfl ?_
          refine v_lst6 (q := 54) rfl dX10_follow_52 (by decide) rfl ?_
          refine v_goto (q := 169) dX10_follow_54 (by decide) ?_
          first
            | (refine K EN _ _ _ _ _ ⟨by omega, fun h => absurd h (by omega), fun _ h => absurd h h42, fun h => by omega, fun h => by omega⟩)
            | (refine K 0 _ _ _ _ _ ⟨by omega, fun _ => ?_, fun _ _ => rfl, fun h => by omega, fun h => by omega⟩
               rw [(d3.resolve_right (fun h => by rcases h with h | h <;> (have := h.1; omega))).2, h42]
               exact Or.inl ⟨by omega, RC.refl _ _⟩)
            | (have b2 := hv.1 _ (ix_rng (f := r.2.2.1) (x := r.2.2.2.1) (s := s) (by omega) (by omega) (by omega)).1 (ix_rng (by omega) (by omega) (by omega)).2
               refine K (v (ix r.2.2.1 r.2.2.2.1 s)) _ _ _ _ _ ⟨b2, fun hl => ?_, fun h => by omega, fun _ => by rw [e20]; exact Int.le_refl _, fun h => by omega⟩
               rw [z2]
               exact ((hv.2 r.2.2.1 r.2.2.2.1 s q0 (by omega) (by omega) (by omega) s0 (by omega) hl).resolve_right (fun h => by have := h.1; omega)).2)
        · refine v_lconst0 (q := 46) dX10_follow_45 rfl ?_
          refine v_goto (q := 52) dX10_follow_46 (by decide) ?_
          refine v_lst6 (q := 54) rfl dX10_follow_52 (by decide) rfl ?_
          refine v_goto (q := 169) dX10_follow_54 (by decide) ?_
          first
            | (refine K EN _ _ _ _ _ ⟨by omega, fun h => absurd h (by omega), fun _ h => absurd h h42, fun h => by omega, fun h => by omega⟩)
            | (refine K 0 _ _ _ _ _ ⟨by omega, fun _ => ?_, fun _ _ => rfl, fun h => by omega, fun h => by omega⟩
               rw [(d3.resolve_right (fun h => by rcases h with h | h <;> (have := h.1; omega))).2, h42]
               exact Or.inl ⟨by omega, RC.refl _ _⟩)
            | (have b2 := hv.1 _ (ix_rng (f := r.2.2.1) (x := r.2.2.2.1) (s := s) (by omega) (by omega) (by omega)).1 (ix_rng (by omega) (by omega) (by omega)).2
               refine K (v (ix r.2.2.1 r.2.2.2.1 s)) _ _ _ _ _ ⟨b2, fun hl => ?_, fun h => by omega, fun _ => by rw [e20]; exact Int.le_refl _, fun h => by omega⟩
               rw [z2]
               exact ((hv.2 r.2.2.1 r.2.2.2.1 s q0 (by omega) (by omega) (by omega) s0 (by omega) hl).resolve_right (fun h => by have := h.1; omega)).2)
