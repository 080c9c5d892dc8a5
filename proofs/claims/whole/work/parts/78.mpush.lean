/-! ===== the reference: push ===== -/
/-- from a node with this stack to the aim -/
def BL (y : Sy) (ex q : Int) (t sl : List Int) (f c : Int) : Prop := (f < y.1 ∧ RC BR y.2.2.2.2 ex f sl q t c) ∨ (5 ≤ f ∧ f - 4 ≤ t.length ∧ sl = t.drop (f - 4).toNat ∧ c = 0)
theorem BL.nn {y : Sy} (ok : okS y) {ex q : Int} {t sl : List Int} {f c : Int} (h : BL y ex q t sl f c) : 0 ≤ c := by
  rcases h with h | h
  · exact RC.nn (okRs.w (S := y.1) (G := y.2.1) ok.2.2.2.2.2) (by unfold BR; omega) h.2
  · have := h.2.2.2; omega
theorem pushT {y : Sy} (ok : okS y) {ex q : Int} {t sl : List Int} {v b : Int → Int} (hlt : t.length ≤ 6) (hq : 0 ≤ q ∧ q < y.1) (hv : WOK y ex q t v) (hb : ∀ m, 0 ≤ m → m < 11 → TMn EN (BL y ex q t sl m) (b m)) {f x R : Int} (hf : 0 ≤ f ∧ f < 11) (hx : 1 ≤ x ∧ x ≤ 5) (h1 : R ≤ EN) (h2 : R < EN → ∃ m, 0 ≤ m ∧ m < 11 ∧ v (ix f x m) < EN ∧ b m < EN ∧ R = v (ix f x m) + b m) (h3 : ∀ m, 0 ≤ m → m < 11 → v (ix f x m) < EN → b m < EN → R ≤ v (ix f x m) + b m) : TMn EN (BL y ex q t (x :: sl) f) R := by
  have hS := ok.1
  have hEN := EN_def
  have hw := okRs.w (S := y.1) (G := y.2.1) ok.2.2.2.2.2
  refine ⟨h1, fun hl => ?_, fun c hc hl => ?_⟩
  · obtain ⟨m, m0, m1, a1, a2, rfl⟩ := h2 hl
    have hbm := (hb m m0 m1).2.1 a2
    rcases hv.1.2 f x m hf.1 hf.2 hx.1 hx.2 m0 m1 a1 with ⟨f1, w⟩ | ⟨f5, g1, g2, g3, g4⟩
    · refine Or.inl ⟨f1, ?_⟩
      rcases w with ⟨m5, r⟩ | ⟨m5, ml, r⟩
      · have hbm := hbm.resolve_right (fun h => by have := h.1; omega)
        exact (r.app sl).trans hbm.2
      · obtain ⟨-, k1, k2, k3⟩ := hbm.resolve_left (fun h => by have := h.1; omega)
        have := r.app sl
        rw [k2] at this
        rw [List.take_append_drop] at this
        rw [k3, Int.add_zero, k2]
        exact this
    · obtain ⟨-, k1, k2, k3⟩ := hbm.resolve_left (fun h => by have := h.1; omega)
      refine Or.inr ⟨f5, by omega, ?_, by omega⟩
      rw [drop_s (l := t) (n := (f - 4).toNat) (by omega), ← g2, k2, show (m - 4).toNat = (f - 4).toNat + 1 by omega]
  · have fin : ∀ m c1 c2, 0 ≤ m → m < 11 → v (ix f x m) ≤ c1 → b m ≤ c2 → 0 ≤ c1 → 0 ≤ c2 → c = c1 + c2 → R ≤ c := fun m c1 c2 m0 m1 l1 l2 l3 l4 l5 => by
      have := h3 m m0 m1 (by omega) (by omega)
      omega
    rcases hc with ⟨f1, r⟩ | ⟨f5, g1, g2, g3⟩
    · have c0 := RC.nn hw (by unfold BR; omega) r
      rcases (show RC BR y.2.2.2.2 ex f ([x] ++ sl) q t c from r).split with ⟨t', e1, e2⟩ | ⟨m, c1, c2, e1, e2, e3⟩
      · by_cases et : t' = []
        · subst et
          have l1 := hv.2.1 f x q c hf.1 f1 hx.1 hx.2 hq.1 (by omega) (Or.inl ⟨by omega, e2⟩) hl
          have l2 := (hb q hq.1 (by omega)).2.2 0 (Or.inl ⟨hq.2, by rw [e1]; exact RC.refl _ _⟩) (by omega)
          exact fin q c 0 hq.1 (by omega) l1 l2 c0 (by omega) (by omega)
        · have hn : t'.length ≠ 0 := fun e => et (List.length_eq_zero_iff.mp e)
          have hl2 : t.length = t'.length + sl.length := by rw [e1, List.length_append]
          have tk : t.take t'.length = t' := by rw [e1]; exact List.take_left
          have dr : t.drop t'.length = sl := by rw [e1]; exact List.drop_left
          have l1 := hv.2.1 f x (4 + t'.length) c hf.1 f1 hx.1 hx.2 (by omega) (by omega) (Or.inr ⟨by omega, by omega, by rw [show ((4 : Int) + t'.length - 4).toNat = t'.length by omega, tk]; exact e2⟩) hl
          have l2 := (hb (4 + t'.length) (by omega) (by omega)).2.2 0 (Or.inr ⟨by omega, by omega, by rw [show ((4 : Int) + t'.length - 4).toNat = t'.length by omega, dr], rfl⟩) (by omega)
          exact fin _ c 0 (by omega) (by omega) l1 l2 c0 (by omega) (by omega)
      · have hm := RC.state (S := y.1) (G := y.2.1) ok.2.2.2.2.2 e1 ⟨hf.1, f1⟩
        have c10 := RC.nn hw (by unfold BR; omega) e1
        have c20 := RC.nn hw (by unfold BR; omega) e2
        have l1 := hv.2.1 f x m c1 hf.1 f1 hx.1 hx.2 hm.1 (by omega) (Or.inl ⟨by omega, e1⟩) (by omega)
        have l2 := (hb m hm.1 (by omega)).2.2 c2 (Or.inl ⟨hm.2, e2⟩) (by omega)
        exact fin m c1 c2 hm.1 (by omega) l1 l2 c10 c20 e3
    · have hlt2 : (f - 4).toNat < t.length := by
        have := congrArg List.length g2
        rw [List.length_cons, List.length_drop] at this
        omega
      rw [drop_s (l := t) (n := (f - 4).toNat) hlt2] at g2
      obtain ⟨z1, z2⟩ := List.cons.inj g2
      have l1 := hv.2.2 (f - 4).toNat (by omega) hlt2
      rw [← z1, show (4 : Int) + ((f - 4).toNat : Int) = f by omega, show (5 : Int) + ((f - 4).toNat : Int) = f + 1 by omega] at l1
      have l2 := (hb (f + 1) (by omega) (by omega)).2.2 0 (Or.inr ⟨by omega, by omega, by rw [z2, show (f + 1 - 4).toNat = (f - 4).toNat + 1 by omega], rfl⟩) (by omega)
      exact fin (f + 1) 0 0 (by omega) (by omega) (by omega) l2 (by omega) (by omega) (by omega)
theorem BL.T {y : Sy} (ok : okS y) {ex q : Int} {t sl : List Int} {f z : Int} (h : TMn EN (BL y ex q t sl f) z) : 0 ≤ z ∧ z ≤ EN := by
  have hEN := EN_def
  refine ⟨?_, h.1⟩
  rcases Int.lt_or_le z EN with hl | hl
  · exact BL.nn ok (h.2.1 hl)
  · omega
theorem l_X10_pushIn {Post : AV → Mem → Prop} (mem : Mem) (y : Sy) (ok : okS y) (ex q : Int) (t sl : List Int) (x s h : Int) (hh : mem 116 11 = h) (h0 : 0 ≤ h ∧ h < 320) (hs : 0 ≤ s ∧ s < 11) (hx : 1 ≤ x ∧ x ≤ 5) (hv : WOK y ex q t (mem 120)) (hb : ∀ m, 0 ≤ m → m < 11 → TMn EN (BL y ex q t sl m) (mem 122 (11 * h + m)))
    (K : ∀ R u5 u6 u7 u8 u9, R ≤ EN → (R < EN → ∃ m, 0 ≤ m ∧ m < 11 ∧ mem 120 (ix s x m) < EN ∧ mem 122 (11 * h + m) < EN ∧ R = mem 120 (ix s x m) + mem 122 (11 * h + m)) → (∀ m, 0 ≤ m → m < 11 → mem 120 (ix s x m) < EN → mem 122 (11 * h + m) < EN → R ≤ mem 120 (ix s x m) + mem 122 (11 * h + m)) → V cX10_push RX10 10 none (rmk 1 23) (mE Post) 93 [aR 116, aI x, aI s, aL R, aU, u5, u6, u7, u8, u9] [] mem) :
    ∀ (j : Nat) (i R : Int) (u6 u7 u8 u9 : AV), i + j = 11 → 0 ≤ i → 0 ≤ R → R ≤ EN → (R < EN → ∃ m, 0 ≤ m ∧ m < i ∧ mem 120 (ix s x m) < EN ∧ mem 122 (11 * h + m) < EN ∧ R = mem 120 (ix s x m) + mem 122 (11 * h + m)) → (∀ m, 0 ≤ m → m < i → mem 120 (ix s x m) < EN → mem 122 (11 * h + m) < EN → R ≤ mem 120 (ix s x m) + mem 122 (11 * h + m)) → V cX10_push RX10 10 none (rmk 1 23) (mE Post) 15 [aR 116, aI x, aI s, aL R, aU, aI i, u6, u7, u8, u9] [] mem := by
  have hEN := EN_def
  intro j
  induction j with
  | zero =>
    intro i R u6 u7 u8 u9 h1 h2 h3 h4 h5 h6
    have hi : i = 11 := by omega
    subst hi
    refine v_iload (j := 5) (q := 17) rfl dX10_push_15 rfl ?_
    refine v_bipush (q := 19) (by decide) dX10_push_17 rfl ?_
    refine v_icmp_ge (tgt := 93) (q := 22) dX10_push_19 (by decide) rfl (by omega) (by omega) (fun h19 => ?_) (fun h19 => ?_)
    · exact K R _ _ _ _ _ h4 h5 h6
    · exact absurd h19 (by omega)
  | succ j ih =>
    intro i R u6 u7 u8 u9 h1 h2 h3 h4 h5 h6
    have r1 := ix_rng (f := s) (x := x) (s := i) hs hx (by omega)
    have v1 := hv.1.1 _ r1.1 r1.2
    have v2 := BL.T ok (hb i h2 (by omega))
    obtain ⟨a, ha⟩ : ∃ a, mem 120 (ix s x i) = a := ⟨_, rfl⟩
    obtain ⟨b, hb2⟩ : ∃ b, mem 122 (11 * h + i) = b := ⟨_, rfl⟩
    rw [ha] at v1
    rw [hb2] at v2
    have fin : ∀ R' u6 u7 u8 u9, 0 ≤ R' → R' ≤ R → (a < EN → b < EN → R' ≤ a + b) → (R' = R ∨ (R' = a + b ∧ a < EN ∧ b < EN)) → V cX10_push RX10 10 none (rmk 1 23) (mE Post) 15 [aR 116, aI x, aI s, aL R', aU, aI (i + 1), u6, u7, u8, u9] [] mem := fun R' u6 u7 u8 u9 g1 g2 g3 g4 => by
      refine ih (i + 1) R' u6 u7 u8 u9 (by omega) (by omega) g1 (by omega) (fun hl => ?_) (fun m m0 m1 l1 l2 => ?_)
      · rcases g4 with g4 | ⟨g4, g5, g6⟩
        · obtain ⟨m, m0, m1, m2⟩ := h5 (by omega)
          exact ⟨m, m0, by omega, by rw [g4]; exact m2⟩
        · exact ⟨i, h2, by omega, by rw [ha]; exact g5, by rw [hb2]; exact g6, by rw [ha, hb2]; exact g4⟩
      · by_cases e : m = i
        · subst e
          rw [ha] at l1 ⊢
          rw [hb2] at l2 ⊢
          exact g3 l1 l2
        · have := h6 m m0 (by omega) l1 l2
          omega
    refine v_iload (j := 5) (q := 17) rfl dX10_push_15 rfl ?_
    refine v_bipush (q := 19) (by decide) dX10_push_17 rfl ?_
    refine v_icmp_ge (tgt := 93) (q := 22) dX10_push_19 (by decide) rfl (by omega) (by omega) (fun h19 => ?_) (fun h19 => ?_)
    · exact absurd h19 (by omega)
    · refine v_aload_n (j := 0) (q := 23) rfl dX10_push_22 rfl ?_
      refine v_iload_n (j := 2) (q := 24) rfl dX10_push_23 rfl ?_
      refine v_iload_n (j := 1) (q := 25) rfl dX10_push_24 rfl ?_
      refine v_iload (j := 5) (q := 27) rfl dX10_push_25 rfl ?_
      refine v_cVL3 (q := 30) dX10_push_27 mlX10_95 mdX10_way (by decide) kd_116 rfl rfl ⟨Nat.le_refl 0, Nat.le_refl 0⟩ (by exact Nat.le_of_ble_eq_true rfl) rfl (c_X10_way s x i mem hs hx (by omega)) ?_
      rintro _ _ ⟨rfl, rfl⟩
      rw [ha]
      refine v_lst6 (q := 32) rfl dX10_push_30 (by decide) rfl ?_
      refine v_aload_n (j := 0) (q := 33) rfl dX10_push_32 rfl ?_
      refine v_getR (p' := 122) (q := 36) dX10_push_33 fl_X10_26 kd_116 rfl (rfc_10_10 kd_116) rfl ?_
      refine v_bipush (q := 38) (by decide) dX10_push_36 rfl ?_
      refine v_aload_n (j := 0) (q := 39) rfl dX10_push_38 rfl ?_
      refine v_getI (j := 11) (q := 42) dX10_push_39 fl_X10_120 kd_116 rfl rfl rfl ?_
      rw [hh]
      refine v_imul (q := 43) dX10_push_42 rfl ?_
      refine v_iload (j := 5) (q := 45) rfl dX10_push_43 rfl ?_
      refine v_iadd (q := 46) dX10_push_45 rfl ?_
      refine v_lald (q := 47) dX10_push_46 kd_122 (by omega) (by omega) rfl ?_
      rw [hb2]
      refine v_lst8 (q := 49) rfl dX10_push_47 (by decide) rfl ?_
      refine v_lload (j := 6) (q := 51) rfl dX10_push_49 rfl ?_
      refine v_ldc2 (n := 4000000000000000000) (q := 54) klX10_91 rfl dX10_push_51 rfl ?_
      refine v_lcmp_ge (tgt := 85) (q := 58) dX10_push_54 dX10_push_55 (by decide) rfl (by omega) (by omega) (fun h54 => ?_) (fun h54 => ?_)
      · refine v_lload_n (j := 3) (q := 86) rfl dX10_push_85 rfl ?_
        refine v_lst3 (q := 87) rfl dX10_push_86 (by decide) rfl ?_
        refine v_iinc5 (q := 90) rfl dX10_push_87 (by decide) rfl ?_
        refine v_goto (q := 15) dX10_push_90 (by decide) ?_
        first
          | exact fin R _ _ _ _ h3 (Int.le_refl _) (fun g1 g2 => by omega) (Or.inl rfl)
          | exact fin (a + b) _ _ _ _ (by omega) (by omega) (fun g1 g2 => by omega) (Or.inr ⟨rfl, by omega, by omega⟩)
      · refine v_lload (j := 8) (q := 60) rfl dX10_push_58 rfl ?_
        refine v_ldc2 (n := 4000000000000000000) (q := 63) klX10_91 rfl dX10_push_60 rfl ?_
        refine v_lcmp_ge (tgt := 85) (q := 67) dX10_push_63 dX10_push_64 (by decide) rfl (by omega) (by omega) (fun h63 => ?_) (fun h63 => ?_)
        · refine v_lload_n (j := 3) (q := 86) rfl dX10_push_85 rfl ?_
          refine v_lst3 (q := 87) rfl dX10_push_86 (by decide) rfl ?_
          refine v_iinc5 (q := 90) rfl dX10_push_87 (by decide) rfl ?_
          refine v_goto (q := 15) dX10_push_90 (by decide) ?_
          first
            | exact fin R _ _ _ _ h3 (Int.le_refl _) (fun g1 g2 => by omega) (Or.inl rfl)
            | exact fin (a + b) _ _ _ _ (by omega) (by omega) (fun g1 g2 => by omega) (Or.inr ⟨rfl, by omega, by omega⟩)
        · refine v_lload (j := 6) (q := 69) rfl dX10_push_67 rfl ?_
          refine v_lload (j := 8) (q := 71) rfl dX10_push_69 rfl ?_
          refine v_ladd (q := 72) dX10_push_71 rfl ?_
          refine v_lload_n (j := 3) (q := 73) rfl dX10_push_72 rfl ?_
          refine v_lcmp_ge (tgt := 85) (q := 77) dX10_push_73 dX10_push_74 (by decide) rfl (by omega) (by omega) (fun h73 => ?_) (fun h73 => ?_)
          · refine v_lload_n (j := 3) (q := 86) rfl dX10_push_85 rfl ?_
            refine v_lst3 (q := 87) rfl dX10_push_86 (by decide) rfl ?_
            refine v_iinc5 (q := 90) rfl dX10_push_87 (by decide) rfl ?_
            refine v_goto (q := 15) dX10_push_90 (by decide) ?_
            first
              | exact fin R _ _ _ _ h3 (Int.le_refl _) (fun g1 g2 => by omega) (Or.inl rfl)
              | exact fin (a + b) _ _ _ _ (by omega) (by omega) (fun g1 g2 => by omega) (Or.inr ⟨rfl, by omega, by omega⟩)
          · refine v_lload (j := 6) (q := 79) rfl dX10_push_77 rfl ?_
            refine v_lload (j := 8) (q := 81) rfl dX10_push_79 rfl ?_
            refine v_ladd (q := 82) dX10_push_81 rfl ?_
            refine v_goto (q := 86) dX10_push_82 (by decide) ?_
            refine v_lst3 (q := 87) rfl dX10_push_86 (by decide) rfl ?_
            refine v_iinc5 (q := 90) rfl dX10_push_87 (by decide) rfl ?_
            refine v_goto (q := 15) dX10_push_90 (by decide) ?_
            first
              | exact fin R _ _ _ _ h3 (Int.le_refl _) (fun g1 g2 => by omega) (Or.inl rfl)
              | exact fin (a + b) _ _ _ _ (by omega) (by omega) (fun g1 g2 => by omega) (Or.inr ⟨rfl, by omega, by omega⟩)
