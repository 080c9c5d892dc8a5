/-! ===== the reference: aim ===== -/
def WOK (y : Sy) (ex q : Int) (t : List Int) (v : Int → Int) : Prop := SndW y ex q t v ∧ (∀ f x s c, 0 ≤ f → f < y.1 → 1 ≤ x → x ≤ 5 → 0 ≤ s → s < 11 → WY y.2.2.2.2 ex q t f [x] s c → c < EN → v (ix f x s) ≤ c) ∧ ∀ k : Nat, 1 ≤ k → k < t.length → v (ix (4 + k) (t.getD k 0) (5 + k)) = 0
theorem WOK_of {y : Sy} (ok : okS y) {ex q : Int} {t : List Int} {v : Int → Int} (hq : 0 ≤ q ∧ q < y.1) (ht : ∀ d ∈ t, 1 ≤ d ∧ d ≤ y.2.1) (hlt : t.length ≤ 6) (hv : SndW y ex q t v) (hrel : relW y ex v y.2.2.2.2.length) (h5 : 0 < t.length → v (ix q (t.getD 0 0) 5) ≤ 0) (hch : ∀ k : Nat, 1 ≤ k → k < t.length → v (ix (4 + k) (t.getD k 0) (5 + k)) ≤ 0) : WOK y ex q t v := by
  have hG := ok.2.1
  refine ⟨hv, fun f x s c f0 f1 x0 x1 s0 s1 hw hc => ?_, fun k k1 k2 => ?_⟩
  · rcases hw with ⟨a, n, W, r, e⟩ | ⟨a, a2, n, W, r, e⟩
    · have e : c = W * 2097152 + n := e
      rw [e] at hc ⊢
      exact complW ok hq ht hlt hv hrel h5 hch n n (Nat.le_refl _) f x s W f0 f1 s0 s1 (Or.inl ⟨a, r⟩) hc
    · have e : c = W * 2097152 + n := e
      rw [e] at hc ⊢
      exact complW ok hq ht hlt hv hrel h5 hch n n (Nat.le_refl _) f x s W f0 f1 s0 s1 (Or.inr ⟨a, a2, r⟩) hc
  · have hd : 1 ≤ t.getD k 0 ∧ t.getD k 0 ≤ y.2.1 := by
      rw [List.getD_eq_getElem?_getD, List.getElem?_eq_getElem k2]
      exact ht _ (List.getElem_mem k2)
    have a := hch k k1 k2
    have b := (hv.1 _ (ix_rng (f := 4 + k) (x := t.getD k 0) (s := 5 + k) (by omega) (by omega) (by omega)).1 (ix_rng (by omega) (by omega) (by omega)).2).1
    omega
def aimM (mem : Mem) (q ex : Int) (n : Nat) (v : Int → Int) : Mem := sm (um (um mem 116 7 (nodW q n)) 116 8 ex) 120 v
theorem c_X10_aim (q w ex : Int) (mem : Mem) (y : Sy) (ok : okS y) (hrf : RFs mem y) (hq : 0 ≤ q ∧ q < y.1) (ht : ∀ d ∈ dgs w, 1 ≤ d ∧ d ≤ y.2.1) (hlt : (dgs w).length ≤ 6) (hw : R32 w) (hex : -1 ≤ ex ∧ ex < 20) : CtrV mX10_aim [aR 116, aI q, aI w, aI ex] mem (fun m => ∃ v, aimM mem q ex (dgs w).length v = m ∧ WOK y ex q (dgs w) v) := by
  have hEN := EN_def
  have hdl := dgs_len w
  refine Ctr.ofV (ls := [aR 116, aI q, aI w, aI ex, aU, aU, aU, aU]) rfl (by decide) rfl (Nat.le_of_ble_eq_true rfl) ?_
  refine v_iconst (q := 1) dX10_aim_0 rfl ?_
  refine v_ist4 (q := 3) rfl dX10_aim_1 (by decide) rfl ?_
  have hk := l_X10_fillW (Post := (fun r m => r = aU ∧ ∃ v, aimM mem q ex (dgs w).length v = m ∧ WOK y ex q (dgs w) v)) mem q w ex aU aU aU (fun v hv => ?_) 605 0 (mem 120) (by omega) (by omega) (fun i i0 i1 => by omega)
  · rw [sm_id mem 120 (fun _ => rfl)] at hk
    exact hk
  · have s0 : SndW y ex q (dgs w) v := ⟨fun i i0 i1 => by rw [hv i i0 i1]; omega, fun f x s a1 a2 a3 a4 a5 a6 hl => by
      rw [hv _ (ix_rng ⟨a1, a2⟩ ⟨a3, a4⟩ ⟨a5, a6⟩).1 (ix_rng ⟨a1, a2⟩ ⟨a3, a4⟩ ⟨a5, a6⟩).2] at hl
      exact absurd hl (Int.lt_irrefl _)⟩
    refine v_iload_n (j := 2) (q := 28) rfl dX10_aim_27 rfl ?_
    refine v_cSI1 (q := 31) dX10_aim_28 mlX10_48 mdX10_sizeOf (by decide) ⟨Nat.le_refl 0, Nat.le_refl 0⟩ (by exact Nat.le_of_ble_eq_true rfl) rfl (c_X10_sizeOf w _ hw) ?_
    rw [← hdl]
    rintro _ _ ⟨rfl, rfl⟩
    refine v_ist4 (q := 33) rfl dX10_aim_31 (by decide) rfl ?_
    refine v_iload_n (j := 1) (q := 34) rfl dX10_aim_33 rfl ?_
    refine v_ist5 (q := 36) rfl dX10_aim_34 (by decide) rfl ?_
    refine v_iconst (q := 37) dX10_aim_36 rfl ?_
    refine v_ist6 (q := 39) rfl dX10_aim_37 (by decide) rfl ?_
    refine l_X10_chain (Post := (fun r m => r = aU ∧ ∃ v, aimM mem q ex (dgs w).length v = m ∧ WOK y ex q (dgs w) v)) mem y ex q w ok hq ht hlt hw aU (fun v2 u7 g1 g2 g3 => ?_) (dgs w).length 0 v _ (by omega) s0 (fun h => absurd h (by omega)) (fun i i1 i2 => absurd i2 (by omega))
    have em : um (um (sm mem 120 v2) 116 7 (nodW q (dgs w).length)) 116 8 ex = aimM mem q ex (dgs w).length v2 := by
      refine eq_sm (fun p hp => ?_) (fun i => ?_)
      · by_cases e : p = 116
        · rw [e, um_same, um_same, um_same, um_same, sm_ne _ _ (by decide)]
        · rw [um_ne _ _ _ e, um_ne _ _ _ e, um_ne _ _ _ e, um_ne _ _ _ e, sm_ne _ _ hp]
      · rw [um_ne _ _ _ (by decide), um_ne _ _ _ (by decide), sm_same]
    refine v_aload_n (j := 0) (q := 80) rfl dX10_aim_79 rfl ?_
    refine v_iload (j := 5) (q := 82) rfl dX10_aim_80 rfl ?_
    refine v_putI (j := 7) (q := 85) dX10_aim_82 fl_X10_111 kd_116 rfl rfl rfl ?_
    refine v_aload_n (j := 0) (q := 86) rfl dX10_aim_85 rfl ?_
    refine v_iload_n (j := 3) (q := 87) rfl dX10_aim_86 rfl ?_
    refine v_putI (j := 8) (q := 90) dX10_aim_87 fl_X10_114 kd_116 rfl rfl rfl ?_
    refine v_iconst (q := 91) dX10_aim_90 rfl ?_
    refine v_ist6 (q := 93) rfl dX10_aim_91 (by decide) rfl ?_
    rw [em]
    have hk := l_X10_while (Post := (fun r m => r = aU ∧ ∃ v, aimM mem q ex (dgs w).length v = m ∧ WOK y ex q (dgs w) v)) (um (um mem 116 7 (nodW q (dgs w).length)) 116 8 ex) y ex q w (dgs w) ok ⟨by rw [um_ne _ _ _ (by decide), um_ne _ _ _ (by decide)]; exact hrf.1, fun k r hr => by unfold RF; rw [um_ne _ _ _ (by decide), um_ne _ _ _ (by decide)]; exact hrf.2 k r hr⟩ (by rw [um_same, ui_same]) hex ((dgs w).length : Nat) (nodW q (dgs w).length) q v2 (fun v3 k1 k2 k3 => ⟨rfl, v3, rfl, WOK_of ok hq ht hlt k1 k3 (fun h => Int.le_trans (k2 _) (g2 h)) (fun k a b => Int.le_trans (k2 _) (g3 k a b))⟩) (muW v2 605 + 1) v2 True u7 (by omega) g1 (fun _ => Int.le_refl _) (fun h => absurd trivial h)
    rw [← bI_1] at hk
    exact hk
