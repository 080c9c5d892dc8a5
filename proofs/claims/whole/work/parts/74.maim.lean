/-! ===== the reference: aim, its rounds ===== -/
theorem c_X10_follow (mem : Mem) (y : Sy) (ex q : Int) (t : List Int) (kk : Nat) (r : Rl) (ok : okS y) (hr : y.2.2.2.2[kk]? = some r) (hex : (kk : Int) ≠ ex) (hrf : RF mem kk r) (hv : SndW y ex q t (mem 120)) : CtrI mX10_follow [aR 116, aI (kk : Int)] mem (folQ y ex q t r mem) := by
  have okr := ok.2.2.2.2.2 r (List.mem_of_getElem? hr)
  have hk20 : kk < 20 := by have := (List.getElem?_eq_some_iff.mp hr).1; have := ok.2.2.2.2.1; omega
  have hw9 := nd_bound 2 okr.2.2.2.1.1.1 okr.2.2.2.1.2
  have hw0 := okr.2.2.2.1.1.1
  have f3 := hrf.2.2.2.1
  refine Ctr.ofV (ls := [aR 116, aI (kk : Int), aU, aU, aU, aU, aU, aU, aU, aU, aU, aU, aU]) rfl (by decide) rfl (Nat.le_of_ble_eq_true rfl) ?_
  refine v_aload_n (j := 0) (q := 1) rfl dX10_follow_0 rfl ?_
  refine v_iload_n (j := 1) (q := 2) rfl dX10_follow_1 rfl ?_
  refine v_iconst (q := 3) dX10_follow_2 rfl ?_
  refine v_cVI2 (q := 6) dX10_follow_3 mlX10_67 mdX10_of (by decide) kd_116 rfl rfl ⟨Nat.le_refl 0, Nat.le_refl 0⟩ (by exact Nat.le_of_ble_eq_true rfl) rfl (c_X10_of kk 3 _ (by omega) (by omega)) ?_
  rw [f3]
  rintro _ _ ⟨rfl, rfl⟩
  refine v_ist2 (q := 7) rfl dX10_follow_6 (by decide) rfl ?_
  refine v_iload_n (j := 2) (q := 8) rfl dX10_follow_7 rfl ?_
  refine v_cSI1 (q := 11) dX10_follow_8 mlX10_48 mdX10_sizeOf (by decide) ⟨Nat.le_refl 0, Nat.le_refl 0⟩ (by exact Nat.le_of_ble_eq_true rfl) rfl (c_X10_sizeOf r.2.2.2.1 _ (by omega)) ?_
  rintro _ _ ⟨rfl, rfl⟩
  refine v_ist3 (q := 12) rfl dX10_follow_11 (by decide) rfl ?_
  refine v_iconst (q := 13) dX10_follow_12 rfl ?_
  refine v_ist4 (q := 15) rfl dX10_follow_13 (by decide) rfl ?_
  refine v_iconst (q := 16) dX10_follow_15 rfl ?_
  refine v_ist5 (q := 18) rfl dX10_follow_16 (by decide) rfl ?_
  have hk := l_X10_fol mem y ex q t kk r ok hr hex hrf 11 0 (mem 120) False aU aU aU aU aU aU aU (by omega) (by omega) hv (fun _ => Int.le_refl _) (fun h => h.elim) (fun _ => ⟨fun _ => rfl, fun s a b => by omega⟩)
  rw [sm_id mem 120 (fun _ => rfl), ← bI_0] at hk
  exact hk
/-- the sum of the ways falls when one of them does -/
def muW (v : Int → Int) : Nat → Nat
  | 0 => 0
  | n + 1 => muW v n + (v n).toNat
theorem muW_le {v w : Int → Int} (h : ∀ i, v i ≤ w i) : ∀ n, muW v n ≤ muW w n
  | 0 => Nat.le_refl _
  | n + 1 => by
    have := muW_le h n
    have := h n
    unfold muW
    omega
theorem muW_lt {v w : Int → Int} (h : ∀ i, v i ≤ w i) (h0 : ∀ i, 0 ≤ i → i < 605 → 0 ≤ v i) {i : Int} (i0 : 0 ≤ i) (i2 : i < 605) (hi : v i < w i) : ∀ n : Nat, i < n → muW v n < muW w n
  | 0, h9 => absurd h9 (by omega)
  | n + 1, h9 => by
    have a := muW_le h n
    have b := h n
    unfold muW
    by_cases e : i = n
    · subst e
      have := h0 n i0 i2
      omega
    · have := muW_lt h h0 i0 i2 hi n (by omega)
      omega
def relW (y : Sy) (ex : Int) (v : Int → Int) (n : Nat) : Prop := ∀ k : Nat, k < n → (k : Int) ≠ ex → ∀ r, y.2.2.2.2[k]? = some r → ∀ s, 0 ≤ s → s < 11 → rlxs r v s
/-- where the reference keeps the rules -/
def RFs (m : Mem) (y : Sy) : Prop := m 117 2 = y.2.2.2.2.length ∧ ∀ k r, y.2.2.2.2[k]? = some r → RF m (k : Nat) r
theorem l_X10_pass {Post : AV → Mem → Prop} (N : Mem) (y : Sy) (ex q w : Int) (t : List Int) (ok : okS y) (hrf : RFs N y) (h8 : N 116 8 = ex) (hex : -1 ≤ ex ∧ ex < 20) (v0 : Int → Int) (sz nod : Int) (p : Int) (K : ∀ v C k', SndW y ex q t v → (∀ i, v i ≤ v0 i) → (C → ∃ i, 0 ≤ i ∧ i < 605 ∧ v i < v0 i) → (¬ C → (∀ i, v i = v0 i) ∧ relW y ex v0 y.2.2.2.2.length) → V cX10_aim RX10 8 none (rmk 3 75) (mE Post) 149 [aR 116, aI p, aI w, aI ex, aI sz, aI nod, aI (bI C), aI k'] [] (sm N 120 v)) :
    ∀ (j k : Nat) (v : Int → Int) (C : Prop), k + j = y.2.2.2.2.length → SndW y ex q t v → (∀ i, v i ≤ v0 i) → (C → ∃ i, 0 ≤ i ∧ i < 605 ∧ v i < v0 i) → (¬ C → (∀ i, v i = v0 i) ∧ relW y ex v0 k) →
    V cX10_aim RX10 8 none (rmk 3 75) (mE Post) 104 [aR 116, aI p, aI w, aI ex, aI sz, aI nod, aI (bI C), aI k] [] (sm N 120 v) := by
  have hlen := ok.2.2.2.2.1
  intro j
  induction j with
  | zero =>
    intro k v C h1 hv hle hC hnC
    have hk : k = y.2.2.2.2.length := by omega
    subst hk
    have e2 : sm N 120 v 117 2 = (y.2.2.2.2.length : Nat) := by rw [sm_ne _ _ (by decide)]; exact hrf.1
    refine v_iload (j := 7) (q := 106) rfl dX10_aim_104 rfl ?_
    refine v_aload_n (j := 0) (q := 107) rfl dX10_aim_106 rfl ?_
    refine v_getR (p' := 117) (q := 110) dX10_aim_107 fl_X10_7 kd_116 rfl (rfc_10_0 kd_116) rfl ?_
    refine v_iconst (q := 111) dX10_aim_110 rfl ?_
    refine v_iald (q := 112) dX10_aim_111 kd_117 (by omega) (by omega) rfl ?_
    rw [e2]
    refine v_icmp_ge (tgt := 149) (q := 115) dX10_aim_112 (by decide) rfl (by omega) (by omega) (fun h112 => ?_) (fun h112 => ?_)
    · exact K v C _ hv hle hC hnC
    · exact absurd h112 (by omega)
  | succ j ih =>
    intro k v C h1 hv hle hC hnC
    have hk : k < y.2.2.2.2.length := by omega
    have e2 : sm N 120 v 117 2 = (y.2.2.2.2.length : Nat) := by rw [sm_ne _ _ (by decide)]; exact hrf.1
    have e8 : sm N 120 v 116 8 = ex := by rw [sm_ne _ _ (by decide)]; exact h8
    have e20 : sm N 120 v 120 = v := sm_same _ _ _
    obtain ⟨r, hr⟩ : ∃ r, r = y.2.2.2.2[k] := ⟨_, rfl⟩
    have hr2 : y.2.2.2.2[k]? = some r := by rw [hr]; exact List.getElem?_eq_getElem hk
    have rf : RF (sm N 120 v) k r := by unfold RF; rw [sm_ne _ _ (by decide)]; exact hrf.2 k r hr2
    refine v_iload (j := 7) (q := 106) rfl dX10_aim_104 rfl ?_
    refine v_aload_n (j := 0) (q := 107) rfl dX10_aim_106 rfl ?_
    refine v_getR (p' := 117) (q := 110) dX10_aim_107 fl_X10_7 kd_116 rfl (rfc_10_0 kd_116) rfl ?_
    refine v_iconst (q := 111) dX10_aim_110 rfl ?_
    refine v_iald (q := 112) dX10_aim_111 kd_117 (by omega) (by omega) rfl ?_
    rw [e2]
    refine v_icmp_ge (tgt := 149) (q := 115) dX10_aim_112 (by decide) rfl (by omega) (by omega) (fun h112 => ?_) (fun h112 => ?_)
    · exact absurd h112 (by omega)
    · refine v_iload (j := 6) (q := 117) rfl dX10_aim_115 rfl ?_
      refine v_iload (j := 7) (q := 119) rfl dX10_aim_117 rfl ?_
      refine v_aload_n (j := 0) (q := 120) rfl dX10_aim_119 rfl ?_
      refine v_getI (j := 8) (q := 123) dX10_aim_120 fl_X10_114 kd_116 rfl rfl rfl ?_
      rw [e8]
      refine v_icmp_eq (tgt := 139) (q := 126) dX10_aim_123 (by decide) rfl (by omega) (by omega) (fun h123 => ?_) (fun h123 => ?_)
      · refine v_iconst (q := 140) dX10_aim_139 rfl ?_
        refine v_ior (q := 141) (by first | exact bIor1 C | exact bIor0 C) dX10_aim_140 rfl ?_
        refine v_ist6 (q := 143) rfl dX10_aim_141 (by decide) rfl ?_
        refine v_iinc7 (q := 146) rfl dX10_aim_143 (by decide) rfl ?_
        refine v_goto (q := 104) dX10_aim_146 (by decide) ?_
        first
          | (refine ih (k + 1) v C (by omega) hv hle hC (fun h => ⟨(hnC h).1, fun k2 hk2 hx r2 hr9 => ?_⟩)
             by_cases e : k2 = k
             · exact absurd (by rw [e]; exact h123) hx
             · exact (hnC h).2 k2 (by omega) hx r2 hr9)
          | (have g := q4 h132
             refine ih (k + 1) v' C (by omega) q1 (fun i => Int.le_trans (q2 i) (hle i)) (fun h => ?_) (fun h => ⟨fun i => by rw [g.1 i]; exact (hnC h).1 i, fun k2 hk2 hx r2 hr9 => ?_⟩)
             · obtain ⟨i, i0, i1, i2⟩ := hC h
               exact ⟨i, i0, i1, by rw [g.1 i]; exact i2⟩
             · by_cases e : k2 = k
               · subst e
                 rw [hr2] at hr9
                 cases hr9
                 have ev : v0 = v := funext (fun i => ((hnC h).1 i).symm)
                 rw [ev]
                 exact g.2
               · exact (hnC h).2 k2 (by omega) hx r2 hr9)
          | (obtain ⟨i, i0, i1, i2⟩ := q3 h132
             exact ih (k + 1) v' True (by omega) q1 (fun i => Int.le_trans (q2 i) (hle i)) (fun _ => ⟨i, i0, i1, Int.lt_of_lt_of_le i2 (hle i)⟩) (fun h => absurd trivial h))
      · refine v_aload_n (j := 0) (q := 127) rfl dX10_aim_126 rfl ?_
        refine v_iload (j := 7) (q := 129) rfl dX10_aim_127 rfl ?_
        refine v_cVI1 (q := 132) dX10_aim_129 mlX10_117 mdX10_follow (by decide) kd_116 rfl rfl ⟨Nat.le_refl 0, Nat.le_refl 0⟩ (by exact Nat.le_of_ble_eq_true rfl) rfl (c_X10_follow _ y ex q t k r ok hr2 h123 rf (by rw [e20]; exact hv)) ?_
        rintro z m ⟨v', C2, rfl, rfl, q1, q2, q3, q4⟩
        rw [sm_sm]; rw [e20] at q2 q3 q4
        refine v_if_eqB (tgt := 139) (q := 135) dX10_aim_132 (by decide) rfl (fun h132 => ?_) (fun h132 => ?_)
        · refine v_iconst (q := 140) dX10_aim_139 rfl ?_
          refine v_ior (q := 141) (by first | exact bIor1 C | exact bIor0 C) dX10_aim_140 rfl ?_
          refine v_ist6 (q := 143) rfl dX10_aim_141 (by decide) rfl ?_
          refine v_iinc7 (q := 146) rfl dX10_aim_143 (by decide) rfl ?_
          refine v_goto (q := 104) dX10_aim_146 (by decide) ?_
          first
            | (refine ih (k + 1) v C (by omega) hv hle hC (fun h => ⟨(hnC h).1, fun k2 hk2 hx r2 hr9 => ?_⟩)
               by_cases e : k2 = k
               · exact absurd (by rw [e]; exact h123) hx
               · exact (hnC h).2 k2 (by omega) hx r2 hr9)
            | (have g := q4 h132
               refine ih (k + 1) v' C (by omega) q1 (fun i => Int.le_trans (q2 i) (hle i)) (fun h => ?_) (fun h => ⟨fun i => by rw [g.1 i]; exact (hnC h).1 i, fun k2 hk2 hx r2 hr9 => ?_⟩)
               · obtain ⟨i, i0, i1, i2⟩ := hC h
                 exact ⟨i, i0, i1, by rw [g.1 i]; exact i2⟩
               · by_cases e : k2 = k
                 · subst e
                   rw [hr2] at hr9
                   cases hr9
                   have ev : v0 = v := funext (fun i => ((hnC h).1 i).symm)
                   rw [ev]
                   exact g.2
                 · exact (hnC h).2 k2 (by omega) hx r2 hr9)
            | (obtain ⟨i, i0, i1, i2⟩ := q3 h132
               exact ih (k + 1) v' True (by omega) q1 (fun i => Int.le_trans (q2 i) (hle i)) (fun _ => ⟨i, i0, i1, Int.lt_of_lt_of_le i2 (hle i)⟩) (fun h => absurd trivial h))
        · refine v_iconst (q := 136) dX10_aim_135 rfl ?_
          refine v_goto (q := 140) dX10_aim_136 (by decide) ?_
          refine v_ior (q := 141) (by first | exact bIor1 C | exact bIor0 C) dX10_aim_140 rfl ?_
          refine v_ist6 (q := 143) rfl dX10_aim_141 (by decide) rfl ?_
          refine v_iinc7 (q := 146) rfl dX10_aim_143 (by decide) rfl ?_
          refine v_goto (q := 104) dX10_aim_146 (by decide) ?_
          first
            | (refine ih (k + 1) v C (by omega) hv hle hC (fun h => ⟨(hnC h).1, fun k2 hk2 hx r2 hr9 => ?_⟩)
               by_cases e : k2 = k
               · exact absurd (by rw [e]; exact h123) hx
               · exact (hnC h).2 k2 (by omega) hx r2 hr9)
            | (have g := q4 h132
               refine ih (k + 1) v' C (by omega) q1 (fun i => Int.le_trans (q2 i) (hle i)) (fun h => ?_) (fun h => ⟨fun i => by rw [g.1 i]; exact (hnC h).1 i, fun k2 hk2 hx r2 hr9 => ?_⟩)
               · obtain ⟨i, i0, i1, i2⟩ := hC h
                 exact ⟨i, i0, i1, by rw [g.1 i]; exact i2⟩
               · by_cases e : k2 = k
                 · subst e
                   rw [hr2] at hr9
                   cases hr9
                   have ev : v0 = v := funext (fun i => ((hnC h).1 i).symm)
                   rw [ev]
                   exact g.2
                 · exact (hnC h).2 k2 (by omega) hx r2 hr9)
            | (obtain ⟨i, i0, i1, i2⟩ := q3 h132
               exact ih (k + 1) v' True (by omega) q1 (fun i => Int.le_trans (q2 i) (hle i)) (fun _ => ⟨i, i0, i1, Int.lt_of_lt_of_le i2 (hle i)⟩) (fun h => absurd trivial h))
theorem l_X10_while {Post : AV → Mem → Prop} (N : Mem) (y : Sy) (ex q w : Int) (t : List Int) (ok : okS y) (hrf : RFs N y) (h8 : N 116 8 = ex) (hex : -1 ≤ ex ∧ ex < 20) (sz nod p : Int) (vi : Int → Int) (K : ∀ v, SndW y ex q t v → (∀ i, v i ≤ vi i) → relW y ex v y.2.2.2.2.length → Post aU (sm N 120 v)) :
    ∀ (n : Nat) (v : Int → Int) (C : Prop) (u : AV), muW v 605 < n → SndW y ex q t v → (∀ i, v i ≤ vi i) → (¬ C → relW y ex v y.2.2.2.2.length) →
    V cX10_aim RX10 8 none (rmk 3 75) (mE Post) 93 [aR 116, aI p, aI w, aI ex, aI sz, aI nod, aI (bI C), u] [] (sm N 120 v) := by
  intro n
  induction n with
  | zero => exact fun v C u h => absurd h (by omega)
  | succ n ih =>
    intro v C u hn hv hle hC
    refine v_iload (j := 6) (q := 95) rfl dX10_aim_93 rfl ?_
    refine v_if_eqB (tgt := 152) (q := 98) dX10_aim_95 (by decide) rfl (fun h95 => ?_) (fun h95 => ?_)
    · refine v_vret dX10_aim_152 ?_
      exact K v hv hle (hC h95)
    · refine v_iconst (q := 99) dX10_aim_98 rfl ?_
      refine v_ist6 (q := 101) rfl dX10_aim_99 (by decide) rfl ?_
      refine v_iconst (q := 102) dX10_aim_101 rfl ?_
      refine v_ist7 (q := 104) rfl dX10_aim_102 (by decide) rfl ?_
      have hk := l_X10_pass (Post := Post) N y ex q w t ok hrf h8 hex v sz nod p (fun v2 C2 k' g1 g2 g3 g4 => ?_) y.2.2.2.2.length 0 v False (by omega) hv (fun _ => Int.le_refl _) (fun h => h.elim) (fun _ => ⟨fun _ => rfl, fun k hk => absurd hk (by omega)⟩)
      · rw [← bI_0] at hk
        exact hk
      · by_cases hc : C2
        · obtain ⟨i, i0, i1, i2⟩ := g3 hc
          have hm := muW_lt g2 (fun i a b => (g1.1 i a b).1) i0 i1 i2 605 i1
          refine v_goto (q := 93) dX10_aim_149 (by decide) ?_
          exact ih v2 C2 _ (by omega) g1 (fun i => Int.le_trans (g2 i) (hle i)) (fun h => absurd hc h)
        · have ev : v2 = v := funext (g4 hc).1
          subst ev
          refine v_goto (q := 93) dX10_aim_149 (by decide) ?_
          refine v_iload (j := 6) (q := 95) rfl dX10_aim_93 rfl ?_
          refine v_if_eqB (tgt := 152) (q := 98) dX10_aim_95 (by decide) rfl (fun h95 => ?_) (fun h95 => ?_)
          · refine v_vret dX10_aim_152 ?_
            exact K v2 hv hle (g4 hc).2
          · exact absurd h95 hc
