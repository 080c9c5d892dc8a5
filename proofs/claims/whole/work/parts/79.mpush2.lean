/-! ===== the reference: push, pushWord, start ===== -/
/-- the reference's stack, its rows of costs below -/
def BK (y : Sy) (ex q : Int) (t : List Int) (m : Mem) (sl : List Int) : Prop := m 116 11 = sl.length ∧ (∀ i : Nat, i ≤ sl.length → ∀ s, 0 ≤ s → s < 11 → TMn EN (BL y ex q t (sl.drop (sl.length - i)) s) (m 122 (11 * i + s))) ∧ ∀ i : Nat, i < sl.length → m 121 i = sl.getD (sl.length - 1 - i) 0
theorem BK.congr {y : Sy} {ex q : Int} {t sl : List Int} {m m1 : Mem} (h : BK y ex q t m sl) (h1 : m1 116 11 = m 116 11) (h2 : m1 121 = m 121) (h3 : m1 122 = m 122) : BK y ex q t m1 sl := by
  unfold BK
  rw [h1, h2, h3]
  exact h
/-- without its top -/
theorem BK.pop {y : Sy} {ex q x : Int} {t sl : List Int} {m m1 : Mem} (h : BK y ex q t m (x :: sl)) (h1 : m1 116 11 = sl.length) (h2 : m1 121 = m 121) (h3 : m1 122 = m 122) : BK y ex q t m1 sl := by
  obtain ⟨a, b, c⟩ := h
  refine ⟨h1, fun i hi s s0 s1 => ?_, fun i hi => ?_⟩
  · have := b i (by rw [List.length_cons]; omega) s s0 s1
    rw [List.length_cons, show sl.length + 1 - i = (sl.length - i) + 1 by omega, List.drop_succ_cons] at this
    rw [h3]
    exact this
  · have := c i (by rw [List.length_cons]; omega)
    rw [List.length_cons, show sl.length + 1 - 1 - i = (sl.length - 1 - i) + 1 by omega, List.getD_cons_succ] at this
    rw [h2]
    exact this
def frP (mem m : Mem) : Prop := (∀ p, p ≠ 116 → p ≠ 121 → p ≠ 122 → m p = mem p) ∧ ∀ j, j ≠ 11 → m 116 j = mem 116 j
theorem frP.refl (m : Mem) : frP m m := ⟨fun _ _ _ _ => rfl, fun _ _ => rfl⟩
theorem frP.trans {a b c : Mem} (h : frP a b) (h2 : frP b c) : frP a c := ⟨fun p h3 h4 h5 => by rw [h2.1 p h3 h4 h5, h.1 p h3 h4 h5], fun j hj => by rw [h2.2 j hj, h.2 j hj]⟩
theorem l_X10_pushOut (mem : Mem) (y : Sy) (ok : okS y) (ex q : Int) (t sl : List Int) (x : Int) (ht : t.length ≤ 6) (hq : 0 ≤ q ∧ q < y.1) (hv : WOK y ex q t (mem 120)) (hk : BK y ex q t mem sl) (hl : sl.length < 320) (hx : 1 ≤ x ∧ x ≤ 5) :
    ∀ (j : Nat) (s : Int) (F : Int → Int) (u3 u4 u5 u6 u7 u8 u9 : AV), s + j = 11 → 0 ≤ s → (∀ i : Int, i < 11 * ((sl.length : Int) + 1) → F i = mem 122 i) → (∀ m, 0 ≤ m → m < s → TMn EN (BL y ex q t (x :: sl) m) (F (11 * (sl.length + 1) + m))) → V cX10_push RX10 10 none (rmk 1 23) (mE (fun r m => r = aU ∧ frP mem m ∧ BK y ex q t m (x :: sl))) 2 [aR 116, aI x, aI s, u3, u4, u5, u6, u7, u8, u9] [] (sm mem 122 F) := by
  have hEN := EN_def
  intro j
  induction j with
  | zero =>
    intro s F u3 u4 u5 u6 u7 u8 u9 h1 h2 h3 h4
    have hs : s = 11 := by omega
    subst hs
    have e11 : sm mem 122 F 116 11 = (sl.length : Nat) := by rw [sm_ne _ _ (by decide)]; exact hk.1
    have e12 : um (sm mem 122 F) 121 (sl.length : Nat) x 116 11 = (sl.length : Nat) := by rw [um_ne _ _ _ (by decide)]; exact e11
    refine v_iload_n (j := 2) (q := 3) rfl dX10_push_2 rfl ?_
    refine v_bipush (q := 5) (by decide) dX10_push_3 rfl ?_
    refine v_icmp_ge (tgt := 116) (q := 8) dX10_push_5 (by decide) rfl (by omega) (by omega) (fun h5 => ?_) (fun h5 => ?_)
    · refine v_aload_n (j := 0) (q := 117) rfl dX10_push_116 rfl ?_
      refine v_getR (p' := 121) (q := 120) dX10_push_117 fl_X10_23 kd_116 rfl (rfc_10_9 kd_116) rfl ?_
      refine v_aload_n (j := 0) (q := 121) rfl dX10_push_120 rfl ?_
      refine v_getI (j := 11) (q := 124) dX10_push_121 fl_X10_120 kd_116 rfl rfl rfl ?_
      rw [e11]
      refine v_iload_n (j := 1) (q := 125) rfl dX10_push_124 rfl ?_
      refine v_iast (q := 126) dX10_push_125 kd_121 (by omega) (by omega) rfl ?_
      refine v_aload_n (j := 0) (q := 127) rfl dX10_push_126 rfl ?_
      refine v_dup (q := 128) rfl dX10_push_127 rfl ?_
      refine v_getI (j := 11) (q := 131) dX10_push_128 fl_X10_120 kd_116 rfl rfl rfl ?_
      rw [e12]
      refine v_iconst (q := 132) dX10_push_131 rfl ?_
      refine v_iadd (q := 133) dX10_push_132 rfl ?_
      refine v_putI (j := 11) (q := 136) dX10_push_133 fl_X10_120 kd_116 rfl rfl rfl ?_
      refine v_vret dX10_push_136 ?_
      refine ⟨rfl, ⟨fun p h5 h6 h7 => by rw [um_ne _ _ _ h5, um_ne _ _ _ h6, sm_ne _ _ h7], fun j hj => by rw [um_same, ui_ne _ _ hj, um_ne _ _ _ (by decide), sm_ne _ _ (by decide)]⟩, ?_, fun i hi m m0 m1 => ?_, fun i hi => ?_⟩
      · rw [um_same, ui_same, List.length_cons]; omega
      · rw [um_ne _ _ _ (by decide), um_ne _ _ _ (by decide), sm_same]
        rw [List.length_cons] at hi ⊢
        by_cases e : i = sl.length + 1
        · subst e
          rw [Nat.sub_self, List.drop_zero]
          have := h4 m m0 m1
          rw [show (11 : Int) * ((sl.length + 1 : Nat) : Int) + m = 11 * (sl.length + 1) + m by omega]
          exact this
        · rw [show sl.length + 1 - i = (sl.length - i) + 1 by omega, List.drop_succ_cons, h3 _ (by omega)]
          exact hk.2.1 i (by omega) m m0 m1
      · rw [um_ne _ _ _ (by decide), um_same]
        rw [List.length_cons] at hi ⊢
        by_cases e : i = sl.length
        · subst e
          rw [ui_same, show sl.length + 1 - 1 - sl.length = 0 by omega]
          rfl
        · rw [ui_ne _ _ (by omega), sm_ne _ _ (by decide), hk.2.2 i (by omega), show sl.length + 1 - 1 - i = (sl.length - 1 - i) + 1 by omega, List.getD_cons_succ]
    · exact absurd h5 (by omega)
  | succ j ih =>
    intro s F u3 u4 u5 u6 u7 u8 u9 h1 h2 h3 h4
    have e11 : sm mem 122 F 116 11 = (sl.length : Nat) := by rw [sm_ne _ _ (by decide)]; exact hk.1
    have e20 : sm mem 122 F 120 = mem 120 := sm_ne _ _ (by decide)
    have e22 : sm mem 122 F 122 = F := sm_same _ _ _
    have hrow : ∀ m, 0 ≤ m → m < 11 → TMn EN (BL y ex q t sl m) (F (11 * (sl.length : Nat) + m)) := fun m m0 m1 => by
      have := hk.2.1 sl.length (Nat.le_refl _) m m0 m1
      rw [Nat.sub_self, List.drop_zero] at this
      rw [h3 _ (by omega)]
      exact this
    refine v_iload_n (j := 2) (q := 3) rfl dX10_push_2 rfl ?_
    refine v_bipush (q := 5) (by decide) dX10_push_3 rfl ?_
    refine v_icmp_ge (tgt := 116) (q := 8) dX10_push_5 (by decide) rfl (by omega) (by omega) (fun h5 => ?_) (fun h5 => ?_)
    · exact absurd h5 (by omega)
    · refine v_ldc2 (n := 4000000000000000000) (q := 11) klX10_91 rfl dX10_push_8 rfl ?_
      refine v_lst3 (q := 12) rfl dX10_push_11 (by decide) rfl ?_
      refine v_iconst (q := 13) dX10_push_12 rfl ?_
      refine v_ist5 (q := 15) rfl dX10_push_13 (by decide) rfl ?_
      refine l_X10_pushIn (sm mem 122 F) y ok ex q t sl x s (sl.length : Nat) e11 (by omega) (by omega) hx (by rw [e20]; exact hv) (by rw [e22]; exact hrow) (fun R u5 u6 u7 u8 u9 g1 g2 g3 => ?_) 11 0 4000000000000000000 _ _ _ _ (by omega) (by omega) (by omega) (by rw [hEN]; omega) (fun h => by rw [hEN] at h; omega) (fun m m0 m1 => by omega)
      rw [e20, e22] at g2 g3
      have hT := pushT ok ht hq hv hrow ⟨h2, show s < 11 by omega⟩ hx g1 g2 g3
      have em : um (sm mem 122 F) 122 (11 * ((sl.length : Nat) + 1) + s) R = sm mem 122 (ui F (11 * ((sl.length : Nat) + 1) + s) R) := eq_sm (fun p hp => by rw [um_ne _ _ _ hp, sm_ne _ _ hp]) (fun i => by rw [um_same, sm_same])
      refine v_aload_n (j := 0) (q := 94) rfl dX10_push_93 rfl ?_
      refine v_getR (p' := 122) (q := 97) dX10_push_94 fl_X10_26 kd_116 rfl (rfc_10_10 kd_116) rfl ?_
      refine v_bipush (q := 99) (by decide) dX10_push_97 rfl ?_
      refine v_aload_n (j := 0) (q := 100) rfl dX10_push_99 rfl ?_
      refine v_getI (j := 11) (q := 103) dX10_push_100 fl_X10_120 kd_116 rfl rfl rfl ?_
      rw [e11]
      refine v_iconst (q := 104) dX10_push_103 rfl ?_
      refine v_iadd (q := 105) dX10_push_104 rfl ?_
      refine v_imul (q := 106) dX10_push_105 rfl ?_
      refine v_iload_n (j := 2) (q := 107) rfl dX10_push_106 rfl ?_
      refine v_iadd (q := 108) dX10_push_107 rfl ?_
      refine v_lload_n (j := 3) (q := 109) rfl dX10_push_108 rfl ?_
      refine v_last (q := 110) dX10_push_109 kd_122 (by omega) (by omega) rfl ?_
      refine v_iinc2 (q := 113) rfl dX10_push_110 (by decide) rfl ?_
      refine v_goto (q := 2) dX10_push_113 (by decide) ?_
      rw [em]
      refine ih (s + 1) _ _ _ _ _ _ _ _ (by omega) (by omega) (fun i hi => by rw [ui_ne _ _ (by omega)]; exact h3 i hi) (fun m m0 m1 => ?_)
      by_cases e : m = s
      · subst e
        rw [ui_same]
        exact hT
      · rw [ui_ne _ _ (by omega)]
        exact h4 m m0 (by omega)
theorem c_X10_push (x : Int) (mem : Mem) (y : Sy) (ok : okS y) (ex q : Int) (t sl : List Int) (ht : t.length ≤ 6) (hq : 0 ≤ q ∧ q < y.1) (hv : WOK y ex q t (mem 120)) (hk : BK y ex q t mem sl) (hl : sl.length < 320) (hx : 1 ≤ x ∧ x ≤ 5) : CtrV mX10_push [aR 116, aI x] mem (fun m => frP mem m ∧ BK y ex q t m (x :: sl)) := by
  refine Ctr.ofV (ls := [aR 116, aI x, aU, aU, aU, aU, aU, aU, aU, aU]) rfl (by decide) rfl (Nat.le_of_ble_eq_true rfl) ?_
  refine v_iconst (q := 1) dX10_push_0 rfl ?_
  refine v_ist2 (q := 2) rfl dX10_push_1 (by decide) rfl ?_
  have hk := l_X10_pushOut mem y ok ex q t sl x ht hq hv hk hl hx 11 0 (mem 122) aU aU aU aU aU aU aU (by omega) (by omega) (fun _ _ => rfl) (fun m m0 m1 => by omega)
  rw [sm_id mem 122 (fun _ => rfl)] at hk
  exact hk
theorem l_X10_pushWord (w : Int) (mem : Mem) (y : Sy) (ok : okS y) (ex q : Int) (t sl : List Int) (ht : t.length ≤ 6) (hq : 0 ≤ q ∧ q < y.1) (hd : ∀ d ∈ dgs w, 1 ≤ d ∧ d ≤ 5) (hl : sl.length + (dgs w).length ≤ 320) :
    ∀ (j : Nat) (r : Int) (u : List Int) (M : Mem), R32 r → nd r ≤ j → dgs w = dgs r ++ u → frP mem M → WOK y ex q t (M 120) → BK y ex q t M (u ++ sl) → V cX10_pushWord RX10 3 none (rmk 2 52) (mE (fun r m => r = aU ∧ frP mem m ∧ BK y ex q t m (dgs w ++ sl))) 2 [aR 116, aI w, aI r] [] M := by
  intro j
  induction j with
  | zero =>
    intro r u M h1 h2 hc3 h4 h5 h6
    have hr : r ≤ 0 := by
      rcases Int.lt_or_le 0 r with h | h
      · have := nd_ge h; omega
      · exact h
    rw [dgs_np hr, List.nil_append] at hc3
    refine v_iload_n (j := 2) (q := 3) rfl dX10_pushWord_2 rfl ?_
    refine v_if_le (tgt := 22) (q := 6) dX10_pushWord_3 (by decide) rfl (by omega) (fun h3 => ?_) (fun h3 => ?_)
    · refine v_vret dX10_pushWord_22 ?_
      exact ⟨rfl, h4, by rw [hc3]; exact h6⟩
    · exact absurd h3 (by omega)
  | succ j ih =>
    intro r u M h1 h2 hc3 h4 h5 h6
    refine v_iload_n (j := 2) (q := 3) rfl dX10_pushWord_2 rfl ?_
    refine v_if_le (tgt := 22) (q := 6) dX10_pushWord_3 (by decide) rfl (by omega) (fun h3 => ?_) (fun h3 => ?_)
    · refine v_vret dX10_pushWord_22 ?_
      rw [dgs_np h3, List.nil_append] at hc3
      exact ⟨rfl, h4, by rw [hc3]; exact h6⟩
    · have hr : 0 < r := by omega
      rw [nd_pos hr] at h2
      have e := dgs_pos hr
      have hm : r % 10 ∈ dgs w := by rw [hc3, e]; simp
      have hd9 := hd _ hm
      have hlen : (dgs w).length = (dgs (r / 10)).length + 1 + u.length := by rw [hc3, e]; simp; omega
      refine v_aload_n (j := 0) (q := 7) rfl dX10_pushWord_6 rfl ?_
      refine v_iload_n (j := 2) (q := 8) rfl dX10_pushWord_7 rfl ?_
      refine v_bipush (q := 10) (by decide) dX10_pushWord_8 rfl ?_
      refine v_irem (q := 11) (by omega) (by omega) dX10_pushWord_10 rfl ?_
      refine v_cVV1 (q := 14) dX10_pushWord_11 mlX10_123 mdX10_push (by decide) kd_116 rfl rfl ⟨Nat.le_refl 0, Nat.le_refl 0⟩ (by exact Nat.le_of_ble_eq_true rfl) rfl (c_X10_push (r % 10) M y ok ex q t (u ++ sl) ht hq h5 h6 (by rw [List.length_append]; omega) hd9) ?_
      rintro m1 ⟨g1, g2⟩
      refine v_iload_n (j := 2) (q := 15) rfl dX10_pushWord_14 rfl ?_
      refine v_bipush (q := 17) (by decide) dX10_pushWord_15 rfl ?_
      refine v_idiv (q := 18) (by omega) (by omega) dX10_pushWord_17 rfl ?_
      refine v_ist2 (q := 19) rfl dX10_pushWord_18 (by decide) rfl ?_
      refine v_goto (q := 2) dX10_pushWord_19 (by decide) ?_
      exact ih (r / 10) (r % 10 :: u) m1 (by omega) (by omega) (by rw [hc3, e, List.append_assoc]; rfl) (h4.trans g1) (by rw [g1.1 120 (by decide) (by decide) (by decide)]; exact h5) g2
theorem c_X10_pushWord (w : Int) (mem : Mem) (y : Sy) (ok : okS y) (ex q : Int) (t sl : List Int) (ht : t.length ≤ 6) (hq : 0 ≤ q ∧ q < y.1) (hv : WOK y ex q t (mem 120)) (hk : BK y ex q t mem sl) (hw : R32 w) (hd : ∀ d ∈ dgs w, 1 ≤ d ∧ d ≤ 5) (hl : sl.length + (dgs w).length ≤ 320) : CtrV mX10_pushWord [aR 116, aI w] mem (fun m => frP mem m ∧ BK y ex q t m (dgs w ++ sl)) := by
  refine Ctr.ofV (ls := [aR 116, aI w, aU]) rfl (by decide) rfl (Nat.le_of_ble_eq_true rfl) ?_
  refine v_iload_n (j := 1) (q := 1) rfl dX10_pushWord_0 rfl ?_
  refine v_ist2 (q := 2) rfl dX10_pushWord_1 (by decide) rfl ?_
  exact l_X10_pushWord w mem y ok ex q t sl ht hq hd hl 10 w [] mem hw (nd_10 (by omega)) (by rw [List.append_nil]) (frP.refl _) hv hk
