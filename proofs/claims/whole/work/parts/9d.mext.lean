/-! ===== the reference: extend ===== -/
def extQ (y : Sy) (r : Rl) (mem : Mem) (z : Int) (m : Mem) : Prop := ∃ (v' : Int → Int) (C : Prop), sm mem 123 v' = m ∧ bI C = z ∧ ASnd y v' ∧ (∀ i, v' i ≤ mem 123 i) ∧ (C → ∃ i, 0 ≤ i ∧ i < 7350 ∧ v' i < mem 123 i) ∧ (¬ C → (∀ i, v' i = mem 123 i) ∧ ∀ e, 0 ≤ e → e < 35 → rlxA r (mem 123) e)
theorem ui_le {v : Int → Int} {i w : Int} (h : w < v i) : ∀ j, ui v i w j ≤ v j := fun j => by
  unfold ui
  split
  · rename_i e; rw [e]; omega
  · omega
theorem ext_les {y : Sy} {v : Int → Int} {mem m : Mem} {C : Prop} {f l s w : Int} (hv : ASnd y v) (hx : inX f l s) (ha : AD y f l s w) (hw : 0 ≤ w) (i1 : C ↔ w ≤ 1000000 ∧ w < v (ax f l s)) (i2 : C → sm mem 123 (ui v (ax f l s) w) = m) (i3 : ¬ C → sm mem 123 v = m) : ∃ v1, sm mem 123 v1 = m ∧ ASnd y v1 ∧ (∀ i, v1 i ≤ v i) ∧ (C → ∃ i, 0 ≤ i ∧ i < 7350 ∧ v1 i < v i) ∧ (¬ C → (∀ i, v1 i = v i) ∧ (w ≤ 1000000 → v (ax f l s) ≤ w)) := by
  by_cases hc : C
  · have g := i1.mp hc
    exact ⟨_, i2 hc, hv.les hx ha ⟨hw, g.1⟩, ui_le g.2, fun _ => ⟨_, (ax_rng hx).1, (ax_rng hx).2, by rw [ui_same]; exact g.2⟩, fun h => absurd hc h⟩
  · refine ⟨v, i3 hc, hv, fun _ => Int.le_refl _, fun h => absurd h hc, fun _ => ⟨fun _ => rfl, fun h9 => ?_⟩⟩
    rcases Int.lt_or_le w (v (ax f l s)) with g | g
    · exact absurd (i1.mpr ⟨h9, g⟩) hc
    · exact g
theorem l_X10_extend (mem : Mem) (y : Sy) (ok : okS y) (kk : Nat) (r : Rl) (hr : y.2.2.2.2[kk]? = some r) (hrf : RF mem kk r) (v0 : Int → Int) (hm0 : mem 123 = v0) :
    ∀ (n : Nat) (s : Int) (v : Int → Int) (C : Prop) (u6 u7 : AV), s + n = 35 → 0 ≤ s → ASnd y v → (∀ i, v i ≤ v0 i) → (C → ∃ i, 0 ≤ i ∧ i < 7350 ∧ v i < v0 i) → (¬ C → (∀ i, v i = v0 i) ∧ ∀ e, 0 ≤ e → e < s → rlxA r v0 e) →
    V cX10_extend RX10 8 (some .boolean) (rmk 2 49) (mE (fun q m => ∃ z, q = aI z ∧ extQ y r mem z m)) 20 [aR 116, aI (kk : Int), aI r.2.2.1, aI r.2.2.2.1, aI (bI C), aI s, u6, u7] [] (sm mem 123 v) := by
  have hF := FAR_def
  have okr := ok.2.2.2.2.2 r (List.mem_of_getElem? hr)
  obtain ⟨o1, o2, o3, ⟨o4, o4b⟩, o5⟩ := id okr
  obtain ⟨c1, c2, c3⟩ := rl_cases okr ok.2.1.2 ok.1.2
  have hk20 : kk < 20 := by have := (List.getElem?_eq_some_iff.mp hr).1; have := ok.2.2.2.2.1; omega
  have hS := ok.1
  have hG := ok.2.1
  obtain ⟨rf0, rf1, rf2, rf3, rf4⟩ := hrf
  have hw0 := o4.1
  have hw9 := nd_bound 2 o4.1 o4b
  intro n
  induction n with
  | zero =>
    intro s v C u6 u7 h1 h2 h3 h4 h5 h6
    refine v_iload (j := 5) (q := 22) rfl dX10_extend_20 rfl ?_
    refine v_bipush (q := 24) (by decide) dX10_extend_22 rfl ?_
    refine v_icmp_ge (tgt := 186) (q := 27) dX10_extend_24 (by decide) rfl (by omega) (by omega) (fun h24 => ?_) (fun h24 => ?_)
    · refine v_iload (j := 4) (q := 188) rfl dX10_extend_186 rfl ?_
      refine v_zret (by first | exact Or.inl rfl | exact Or.inr rfl | exact bI_01 _ | omega) dX10_extend_188 ?_
      refine ⟨_, rfl, v, C, rfl, rfl, h3, by rw [hm0]; exact h4, by rw [hm0]; exact h5, fun hc => ?_⟩
      rw [hm0]
      exact ⟨(h6 hc).1, fun e e0 e1 => (h6 hc).2 e e0 (by omega)⟩
    · exact absurd h24 (by omega)
  | succ n ih =>
    intro s v C u6 u7 h1 h2 h3 h4 h5 h6
    have e17 : sm mem 123 v 117 = mem 117 := sm_ne _ _ (by decide)
    have e23 : sm mem 123 v 123 = v := sm_same _ _ _
    have step : ∀ (v1 : Int → Int) (C1 C2 : Prop) (u6 u7 : AV), (C2 ↔ C ∨ C1) → ASnd y v1 → (∀ i, v1 i ≤ v i) → (C1 → ∃ i, 0 ≤ i ∧ i < 7350 ∧ v1 i < v i) → (¬ C1 → (∀ i, v1 i = v i) ∧ rlxA r v s) → V cX10_extend RX10 8 (some .boolean) (rmk 2 49) (mE (fun q m => ∃ z, q = aI z ∧ extQ y r mem z m)) 20 [aR 116, aI (kk : Int), aI r.2.2.1, aI r.2.2.2.1, aI (bI C2), aI (s + 1), u6, u7] [] (sm mem 123 v1) := fun v1 C1 C2 u6 u7 hC k1 k2 k3 k4 => by
      refine ih (s + 1) v1 C2 u6 u7 (by omega) (by omega) k1 (fun i => Int.le_trans (k2 i) (h4 i)) (fun hc => ?_) (fun hc => ?_)
      · rcases hC.mp hc with g | g
        · obtain ⟨i, i0, i1, i2⟩ := h5 g
          exact ⟨i, i0, i1, Int.lt_of_le_of_lt (k2 i) i2⟩
        · obtain ⟨i, i0, i1, i2⟩ := k3 g
          exact ⟨i, i0, i1, Int.lt_of_lt_of_le i2 (h4 i)⟩
      · have g1 := h6 (fun h => hc (hC.mpr (Or.inl h)))
        have g2 := k4 (fun h => hc (hC.mpr (Or.inr h)))
        have ev : v = v0 := funext g1.1
        refine ⟨fun i => by rw [g2.1 i]; exact g1.1 i, fun e e0 e1 => ?_⟩
        by_cases g : e = s
        · rw [g, ← ev]; exact g2.2
        · exact g1.2 e e0 (by omega)
    refine v_iload (j := 5) (q := 22) rfl dX10_extend_20 rfl ?_
    refine v_bipush (q := 24) (by decide) dX10_extend_22 rfl ?_
    refine v_icmp_ge (tgt := 186) (q := 27) dX10_extend_24 (by decide) rfl (by omega) (by omega) (fun h24 => ?_) (fun h24 => ?_)
    · exact absurd h24 (by omega)
    · refine v_aload_n (j := 0) (q := 28) rfl dX10_extend_27 rfl ?_
      refine v_aload_n (j := 0) (q := 29) rfl dX10_extend_28 rfl ?_
      refine v_iload_n (j := 1) (q := 30) rfl dX10_extend_29 rfl ?_
      refine v_iconst (q := 31) dX10_extend_30 rfl ?_
      refine v_cVI2 (q := 34) dX10_extend_31 mlX10_67 mdX10_of (by decide) kd_116 rfl rfl ⟨Nat.le_refl 0, Nat.le_refl 0⟩ (by exact Nat.le_of_ble_eq_true rfl) rfl (c_X10_of kk 0 _ (by omega) (by omega)) ?_
      rw [e17, rf0]
      rintro _ _ ⟨rfl, rfl⟩
      refine v_aload_n (j := 0) (q := 35) rfl dX10_extend_34 rfl ?_
      refine v_iload_n (j := 1) (q := 36) rfl dX10_extend_35 rfl ?_
      refine v_iconst (q := 37) dX10_extend_36 rfl ?_
      refine v_cVI2 (q := 40) dX10_extend_37 mlX10_67 mdX10_of (by decide) kd_116 rfl rfl ⟨Nat.le_refl 0, Nat.le_refl 0⟩ (by exact Nat.le_of_ble_eq_true rfl) rfl (c_X10_of kk 1 _ (by omega) (by omega)) ?_
      rw [e17, rf1]
      rintro _ _ ⟨rfl, rfl⟩
      refine v_iload (j := 5) (q := 42) rfl dX10_extend_40 rfl ?_
      refine v_cVI3 (q := 45) dX10_extend_42 mlX10_164 mdX10_reads (by decide) kd_116 rfl rfl ⟨Nat.le_refl 0, Nat.le_refl 0⟩ (by exact Nat.le_of_ble_eq_true rfl) rfl (c_X10_reads r.1 r.2.1 s _ (by omega) (by omega) (by omega) (by rw [e23]; exact h3.1)) ?_
      rw [e23]
      rintro R _ ⟨rfl, hR⟩
      have hR1 := hR.1
      refine v_ist6 (q := 47) rfl dX10_extend_45 (by decide) rfl ?_
      refine v_iload (j := 6) (q := 49) rfl dX10_extend_47 rfl ?_
      refine v_ldc (n := 2000000000) (q := 51) klX10_163 rfl dX10_extend_49 rfl ?_
      refine v_icmp_ge (tgt := 180) (q := 54) dX10_extend_51 (by decide) rfl (by omega) (by omega) (fun h51 => ?_) (fun h51 => ?_)
      · refine v_iinc5 (q := 183) rfl dX10_extend_180 (by decide) rfl ?_
        refine v_goto (q := 20) dX10_extend_183 (by decide) ?_
        exact step v False C _ _ ⟨Or.inl, fun h => h.resolve_right id⟩ h3 (fun _ => Int.le_refl _) (fun h => h.elim) (fun _ => ⟨fun _ => rfl, fun R2 hR2 hl => by have := hR.uniq hR2; omega⟩)
      · refine v_iload (j := 6) (q := 56) rfl dX10_extend_54 rfl ?_
        refine v_aload_n (j := 0) (q := 57) rfl dX10_extend_56 rfl ?_
        refine v_iload_n (j := 1) (q := 58) rfl dX10_extend_57 rfl ?_
        refine v_iconst (q := 59) dX10_extend_58 rfl ?_
        refine v_cVI2 (q := 62) dX10_extend_59 mlX10_67 mdX10_of (by decide) kd_116 rfl rfl ⟨Nat.le_refl 0, Nat.le_refl 0⟩ (by exact Nat.le_of_ble_eq_true rfl) rfl (c_X10_of kk 4 _ (by omega) (by omega)) ?_
        rw [e17, rf4]
        rintro _ _ ⟨rfl, rfl⟩
        refine v_iadd (q := 63) dX10_extend_62 rfl ?_
        refine v_ist7 (q := 65) rfl dX10_extend_63 (by decide) rfl ?_
        refine v_iload_n (j := 3) (q := 66) rfl dX10_extend_65 rfl ?_
        refine v_cSI1 (q := 69) dX10_extend_66 mlX10_48 mdX10_sizeOf (by decide) ⟨Nat.le_refl 0, Nat.le_refl 0⟩ (by exact Nat.le_of_ble_eq_true rfl) rfl (c_X10_sizeOf r.2.2.2.1 _ (by omega)) ?_
        rintro _ _ ⟨rfl, rfl⟩
        have hRl : R < FAR := by omega
        obtain ⟨rd, rd2⟩ := hR.snd h3 (by omega) (by omega) (by omega) hRl
        have rlx : ((nd r.2.2.2.1 = 0 → R + r.2.2.2.2 ≤ 1000000 → v (ax r.2.2.1 0 s) ≤ R + r.2.2.2.2) ∧ (nd r.2.2.2.1 = 1 → R + r.2.2.2.2 ≤ 1000000 → v (ax r.2.2.1 r.2.2.2.1 s) ≤ R + r.2.2.2.2) ∧ (nd r.2.2.2.1 = 2 → v (ax r.2.2.1 (r.2.2.2.1 / 10) (nodH r.2.2.1 (r.2.2.2.1 / 10))) ≤ 0 ∧ (R + r.2.2.2.2 ≤ 1000000 → v (ax (nodH r.2.2.1 (r.2.2.2.1 / 10)) (r.2.2.2.1 % 10) s) ≤ R + r.2.2.2.2))) → rlxA r v s := fun h R2 hR2 _ => by
          rw [← hR.uniq hR2]
          exact h
        have mk : ∀ {f l s' w}, mkA r s R f l s' w → AD y f l s' w := fun h => AD.step hr rd rd2 h
        rcases c3 with ⟨n0, d0⟩ | ⟨n1, d1, d2, d3, d4⟩ | ⟨n2, d1, d2, d3, d4, d5, d6⟩
        · rw [n0]
          refine v_lookup (off := 27) (tgt := 96) dX10_extend_69 (by omega) (by decide) rfl (by decide) ?_
          have x1 : inX r.2.2.1 0 s := ⟨by omega, by omega, by omega⟩
          refine v_iload (j := 4) (q := 98) rfl dX10_extend_96 rfl ?_
          refine v_aload_n (j := 0) (q := 99) rfl dX10_extend_98 rfl ?_
          refine v_iload_n (j := 2) (q := 100) rfl dX10_extend_99 rfl ?_
          refine v_iconst (q := 101) dX10_extend_100 rfl ?_
          refine v_iload (j := 5) (q := 103) rfl dX10_extend_101 rfl ?_
          refine v_iload (j := 7) (q := 105) rfl dX10_extend_103 rfl ?_
          refine v_cVI4 (q := 108) dX10_extend_105 mlX10_167 mdX10_lessen (by decide) kd_116 rfl rfl ⟨Nat.le_refl 0, Nat.le_refl 0⟩ (by exact Nat.le_of_ble_eq_true rfl) rfl (c_X10_lessen r.2.2.1 0 s (R + r.2.2.2.2) _ x1 (by omega) (by rw [e23]; exact h3.1)) ?_
          rw [e23, sm_sm]
          rintro _ m9 ⟨C9, rfl, i1, i2, i3⟩
          refine v_ior (q := 109) (bI_or _ _) dX10_extend_108 rfl ?_
          refine v_ist4 (q := 111) rfl dX10_extend_109 (by decide) rfl ?_
          refine v_goto (q := 180) dX10_extend_111 (by decide) ?_
          refine v_iinc5 (q := 183) rfl dX10_extend_180 (by decide) rfl ?_
          refine v_goto (q := 20) dX10_extend_183 (by decide) ?_
          by_cases hc : C9
          · have g := i1.mp hc
            rw [← i2 hc]
            exact step _ C9 (C ∨ C9) _ _ Iff.rfl (h3.les x1 (mk (Or.inl ⟨n0, rfl, rfl, rfl, rfl, g.1⟩)) (by omega)) (ui_le g.2) (fun _ => ⟨_, (ax_rng x1).1, (ax_rng x1).2, by rw [ui_same]; exact g.2⟩) (fun h => absurd hc h)
          · rw [← i3 hc]
            exact step v C9 (C ∨ C9) _ _ Iff.rfl h3 (fun _ => Int.le_refl _) (fun h => absurd h hc) (fun _ => ⟨fun _ => rfl, rlx ⟨fun _ h9 => by rcases Int.lt_or_le (R + r.2.2.2.2) (v (ax r.2.2.1 0 s)) with g | g; (exact absurd (i1.mpr ⟨h9, g⟩) hc); (exact g), fun h => by omega, fun h => by omega⟩⟩)
        · rw [n1]
          refine v_lookup (off := 45) (tgt := 114) dX10_extend_69 (by omega) (by decide) rfl (by decide) ?_
          have x1 : inX r.2.2.1 r.2.2.2.1 s := ⟨by omega, by omega, by omega⟩
          refine v_iload (j := 4) (q := 116) rfl dX10_extend_114 rfl ?_
          refine v_aload_n (j := 0) (q := 117) rfl dX10_extend_116 rfl ?_
          refine v_iload_n (j := 2) (q := 118) rfl dX10_extend_117 rfl ?_
          refine v_iload_n (j := 3) (q := 119) rfl dX10_extend_118 rfl ?_
          refine v_iload (j := 5) (q := 121) rfl dX10_extend_119 rfl ?_
          refine v_iload (j := 7) (q := 123) rfl dX10_extend_121 rfl ?_
          refine v_cVI4 (q := 126) dX10_extend_123 mlX10_167 mdX10_lessen (by decide) kd_116 rfl rfl ⟨Nat.le_refl 0, Nat.le_refl 0⟩ (by exact Nat.le_of_ble_eq_true rfl) rfl (c_X10_lessen r.2.2.1 r.2.2.2.1 s (R + r.2.2.2.2) _ x1 (by omega) (by rw [e23]; exact h3.1)) ?_
          rw [e23, sm_sm]
          rintro _ m9 ⟨C9, rfl, i1, i2, i3⟩
          refine v_ior (q := 127) (bI_or _ _) dX10_extend_126 rfl ?_
          refine v_ist4 (q := 129) rfl dX10_extend_127 (by decide) rfl ?_
          refine v_goto (q := 180) dX10_extend_129 (by decide) ?_
          refine v_iinc5 (q := 183) rfl dX10_extend_180 (by decide) rfl ?_
          refine v_goto (q := 20) dX10_extend_183 (by decide) ?_
          by_cases hc : C9
          · have g := i1.mp hc
            rw [← i2 hc]
            exact step _ C9 (C ∨ C9) _ _ Iff.rfl (h3.les x1 (mk (Or.inr (Or.inl ⟨n1, rfl, rfl, rfl, rfl, g.1⟩))) (by omega)) (ui_le g.2) (fun _ => ⟨_, (ax_rng x1).1, (ax_rng x1).2, by rw [ui_same]; exact g.2⟩) (fun h => absurd hc h)
          · rw [← i3 hc]
            exact step v C9 (C ∨ C9) _ _ Iff.rfl h3 (fun _ => Int.le_refl _) (fun h => absurd h hc) (fun _ => ⟨fun _ => rfl, rlx ⟨fun h => by omega, fun _ h9 => by rcases Int.lt_or_le (R + r.2.2.2.2) (v (ax r.2.2.1 r.2.2.2.1 s)) with g | g; (exact absurd (i1.mpr ⟨h9, g⟩) hc); (exact g), fun h => by omega⟩⟩)
        · rw [n2]
          have ebl : blR r = r.2.2.2.1 % 10 := by unfold blR; rw [if_pos n2]
          rw [ebl] at d1 d5 d6
          refine v_lookup (off := 63) (tgt := 132) dX10_extend_69 (by omega) (by decide) rfl (by decide) ?_
          obtain ⟨N, hN⟩ : ∃ N, N = nodH r.2.2.1 (r.2.2.2.1 / 10) := ⟨_, rfl⟩
          have hN2 : 0 ≤ N ∧ N < 35 := by rw [hN]; unfold nodH; omega
          have x1 : inX r.2.2.1 (r.2.2.2.1 / 10) N := ⟨by omega, by omega, hN2⟩
          have x2 : inX N (r.2.2.2.1 % 10) s := ⟨hN2, by omega, by omega⟩
          rw [← hN] at rlx
          refine v_iload (j := 4) (q := 134) rfl dX10_extend_132 rfl ?_
          refine v_aload_n (j := 0) (q := 135) rfl dX10_extend_134 rfl ?_
          refine v_iload_n (j := 2) (q := 136) rfl dX10_extend_135 rfl ?_
          refine v_iload_n (j := 3) (q := 137) rfl dX10_extend_136 rfl ?_
          refine v_bipush (q := 139) (by decide) dX10_extend_137 rfl ?_
          refine v_idiv (q := 140) (by omega) (by omega) dX10_extend_139 rfl ?_
          refine v_iload_n (j := 2) (q := 141) rfl dX10_extend_140 rfl ?_
          refine v_iload_n (j := 3) (q := 142) rfl dX10_extend_141 rfl ?_
          refine v_bipush (q := 144) (by decide) dX10_extend_142 rfl ?_
          refine v_idiv (q := 145) (by omega) (by omega) dX10_extend_144 rfl ?_
          refine v_cSI2 (q := 148) dX10_extend_145 mlX10_170 mdX10_nodeOf (by decide) ⟨Nat.le_refl 0, Nat.le_refl 0⟩ (by exact Nat.le_of_ble_eq_true rfl) rfl (c_X10_nodeOf r.2.2.1 (r.2.2.2.1 / 10) _) ?_
          rw [← hN]
          rintro _ _ ⟨rfl, rfl⟩
          refine v_iconst (q := 149) dX10_extend_148 rfl ?_
          refine v_cVI4 (q := 152) dX10_extend_149 mlX10_167 mdX10_lessen (by decide) kd_116 rfl rfl ⟨Nat.le_refl 0, Nat.le_refl 0⟩ (by exact Nat.le_of_ble_eq_true rfl) rfl (c_X10_lessen r.2.2.1 (r.2.2.2.1 / 10) N 0 _ x1 (by omega) (by rw [e23]; exact h3.1)) ?_
          rw [e23, sm_sm]
          rintro _ m9 ⟨C9, rfl, i1, i2, i3⟩
          obtain ⟨v1, hv1, s1, l1, t1, z1⟩ : ∃ v1, sm mem 123 v1 = m9 ∧ ASnd y v1 ∧ (∀ i, v1 i ≤ v i) ∧ (C9 → ∃ i, 0 ≤ i ∧ i < 7350 ∧ v1 i < v i) ∧ (¬ C9 → (∀ i, v1 i = v i) ∧ ((0 : Int) ≤ 1000000 → v (ax r.2.2.1 (r.2.2.2.1 / 10) N) ≤ 0)) := (ext_les h3 x1 (mk (Or.inr (Or.inr ⟨n2, Or.inl ⟨rfl, rfl, hN, rfl⟩⟩))) (by omega) i1 i2 i3)
          subst hv1
          have f23 : sm mem 123 v1 123 = v1 := sm_same _ _ _
          refine v_ior (q := 153) (bI_or _ _) dX10_extend_152 rfl ?_
          refine v_ist4 (q := 155) rfl dX10_extend_153 (by decide) rfl ?_
          refine v_iload (j := 4) (q := 157) rfl dX10_extend_155 rfl ?_
          refine v_aload_n (j := 0) (q := 158) rfl dX10_extend_157 rfl ?_
          refine v_iload_n (j := 2) (q := 159) rfl dX10_extend_158 rfl ?_
          refine v_iload_n (j := 3) (q := 160) rfl dX10_extend_159 rfl ?_
          refine v_bipush (q := 162) (by decide) dX10_extend_160 rfl ?_
          refine v_idiv (q := 163) (by omega) (by omega) dX10_extend_162 rfl ?_
          refine v_cSI2 (q := 166) dX10_extend_163 mlX10_170 mdX10_nodeOf (by decide) ⟨Nat.le_refl 0, Nat.le_refl 0⟩ (by exact Nat.le_of_ble_eq_true rfl) rfl (c_X10_nodeOf r.2.2.1 (r.2.2.2.1 / 10) _) ?_
          rw [← hN]
          rintro _ _ ⟨rfl, rfl⟩
          refine v_iload_n (j := 3) (q := 167) rfl dX10_extend_166 rfl ?_
          refine v_bipush (q := 169) (by decide) dX10_extend_167 rfl ?_
          refine v_irem (q := 170) (by omega) (by omega) dX10_extend_169 rfl ?_
          refine v_iload (j := 5) (q := 172) rfl dX10_extend_170 rfl ?_
          refine v_iload (j := 7) (q := 174) rfl dX10_extend_172 rfl ?_
          refine v_cVI4 (q := 177) dX10_extend_174 mlX10_167 mdX10_lessen (by decide) kd_116 rfl rfl ⟨Nat.le_refl 0, Nat.le_refl 0⟩ (by exact Nat.le_of_ble_eq_true rfl) rfl (c_X10_lessen N (r.2.2.2.1 % 10) s (R + r.2.2.2.2) _ x2 (by omega) (by rw [f23]; exact s1.1)) ?_
          rw [f23, sm_sm]
          rintro _ m9 ⟨D9, rfl, j1, j2, j3⟩
          refine v_ior (q := 178) (bI_or _ _) dX10_extend_177 rfl ?_
          refine v_ist4 (q := 180) rfl dX10_extend_178 (by decide) rfl ?_
          refine v_iinc5 (q := 183) rfl dX10_extend_180 (by decide) rfl ?_
          refine v_goto (q := 20) dX10_extend_183 (by decide) ?_
          by_cases hd : D9
          · have g := j1.mp hd
            rw [← j2 hd]
            refine step _ (C9 ∨ D9) ((C ∨ C9) ∨ D9) _ _ or_assoc (s1.les x2 (mk (Or.inr (Or.inr ⟨n2, Or.inr ⟨hN, rfl, rfl, rfl, g.1⟩⟩))) (by omega)) (fun i => Int.le_trans (ui_le g.2 i) (l1 i)) (fun _ => ⟨_, (ax_rng x2).1, (ax_rng x2).2, by rw [ui_same]; exact Int.lt_of_lt_of_le g.2 (l1 _)⟩) (fun h => absurd (Or.inr hd) h)
          · rw [← j3 hd]
            refine step v1 (C9 ∨ D9) ((C ∨ C9) ∨ D9) _ _ or_assoc s1 l1 (fun h => t1 (h.resolve_right hd)) (fun h => ?_)
            have z2 := z1 (fun h9 => h (Or.inl h9))
            refine ⟨z2.1, rlx ⟨fun h => by omega, fun h => by omega, fun _ => ⟨z2.2 (by omega), fun h9 => ?_⟩⟩⟩
            rcases Int.lt_or_le (R + r.2.2.2.2) (v1 (ax N (r.2.2.2.1 % 10) s)) with g | g
            · exact absurd (j1.mpr ⟨h9, g⟩) hd
            · rw [← z2.1]; exact g
theorem c_X10_extend (mem : Mem) (y : Sy) (ok : okS y) (kk : Nat) (r : Rl) (hr : y.2.2.2.2[kk]? = some r) (hrf : RF mem kk r) (hv : ASnd y (mem 123)) : CtrI mX10_extend [aR 116, aI (kk : Int)] mem (extQ y r mem) := by
  have hk20 : kk < 20 := by have := (List.getElem?_eq_some_iff.mp hr).1; have := ok.2.2.2.2.1; omega
  have f2 := hrf.2.2.1
  have f3 := hrf.2.2.2.1
  refine Ctr.ofV (ls := [aR 116, aI (kk : Int), aU, aU, aU, aU, aU, aU]) rfl (by decide) rfl (Nat.le_of_ble_eq_true rfl) ?_
  refine v_aload_n (j := 0) (q := 1) rfl dX10_extend_0 rfl ?_
  refine v_iload_n (j := 1) (q := 2) rfl dX10_extend_1 rfl ?_
  refine v_iconst (q := 3) dX10_extend_2 rfl ?_
  refine v_cVI2 (q := 6) dX10_extend_3 mlX10_67 mdX10_of (by decide) kd_116 rfl rfl ⟨Nat.le_refl 0, Nat.le_refl 0⟩ (by exact Nat.le_of_ble_eq_true rfl) rfl (c_X10_of kk 2 _ (by omega) (by omega)) ?_
  rw [f2]
  rintro _ _ ⟨rfl, rfl⟩
  refine v_ist2 (q := 7) rfl dX10_extend_6 (by decide) rfl ?_
  refine v_aload_n (j := 0) (q := 8) rfl dX10_extend_7 rfl ?_
  refine v_iload_n (j := 1) (q := 9) rfl dX10_extend_8 rfl ?_
  refine v_iconst (q := 10) dX10_extend_9 rfl ?_
  refine v_cVI2 (q := 13) dX10_extend_10 mlX10_67 mdX10_of (by decide) kd_116 rfl rfl ⟨Nat.le_refl 0, Nat.le_refl 0⟩ (by exact Nat.le_of_ble_eq_true rfl) rfl (c_X10_of kk 3 _ (by omega) (by omega)) ?_
  rw [f3]
  rintro _ _ ⟨rfl, rfl⟩
  refine v_ist3 (q := 14) rfl dX10_extend_13 (by decide) rfl ?_
  refine v_iconst (q := 15) dX10_extend_14 rfl ?_
  refine v_ist4 (q := 17) rfl dX10_extend_15 (by decide) rfl ?_
  refine v_iconst (q := 18) dX10_extend_17 rfl ?_
  refine v_ist5 (q := 20) rfl dX10_extend_18 (by decide) rfl ?_
  have hk := l_X10_extend mem y ok kk r hr hrf (mem 123) rfl 35 0 (mem 123) False aU aU (by omega) (by omega) hv (fun _ => Int.le_refl _) (fun h => h.elim) (fun _ => ⟨fun _ => rfl, fun e e0 e1 => by omega⟩)
  rw [sm_id mem 123 (fun _ => rfl), ← bI_0] at hk
  exact hk
