/-! ===== Search.put ===== -/
theorem suf_cons {x : Int} {s t : List Int} : (x :: s) <:+ t ↔ s <:+ t ∧ s.length < t.length ∧ t.getD (t.length - 1 - s.length) 0 = x := by
  constructor
  · rintro ⟨t', rfl⟩
    refine ⟨⟨t' ++ [x], by rw [List.append_assoc]; rfl⟩, by rw [List.length_append, List.length_cons]; omega, ?_⟩
    rw [List.length_append, List.length_cons, show t'.length + (s.length + 1) - 1 - s.length = t'.length by omega, List.getD_eq_getElem?_getD, List.getElem?_append_right (Nat.le_refl _), Nat.sub_self]
    rfl
  · rintro ⟨⟨t', rfl⟩, h1, h2⟩
    rw [List.length_append] at h1 h2
    rcases List.eq_nil_or_concat t' with rfl | ⟨l, b, rfl⟩
    · rw [List.length_nil] at h1; omega
    · rw [List.concat_eq_append] at h2 ⊢
      rw [List.length_append, List.length_singleton, show l.length + 1 + s.length - 1 - s.length = l.length by omega, List.append_assoc, List.getD_eq_getElem?_getD, List.getElem?_append_right (Nat.le_refl _), Nat.sub_self] at h2
      have h3 : b = x := h2
      exact ⟨l, by rw [h3, List.append_assoc]; rfl⟩
def putQ (y : Sy) (ex q : Int) (t : List Int) (c : Nat) (s : List Int) (x : Int) (mem m : Mem) : Prop := (∀ p, p ≠ c → p ≠ c + 9 → p ≠ c + 10 → p ≠ c + 11 → m p = mem p) ∧ (∀ j, j ≠ 1 → m c j = mem c j) ∧ m c 1 = s.length + 1 ∧ SOK y ex q t m c (x :: s)
theorem put_fin {y : Sy} {ex q : Int} {t : List Int} {c : Nat} {s : List Int} {x : Int} {mem : Mem} (hS : y.1 ≤ 4) (hs : SOK y ex q t mem c s) {w : Int → Int} (hw : ∀ i : Int, i < (s.length + 1) * 4 → w i = mem (c + 10) i) (hw2 : ∀ p, 0 ≤ p → p < y.1 → TMn NO (RC BB y.2.2.2.2 ex p (x :: s) q t) (w ((s.length + 1) * 4 + p))) {b : Int} (hb : bI ((x :: s) <:+ t) = b) : putQ y ex q t c s x mem (um (um (um (sm mem (c + 10) w) (c + 11) (s.length + 1) b) (c + 9) s.length x) c 1 (s.length + 1)) := by
  have e : ((x :: s).length : Int) = s.length + 1 := by rw [List.length_cons]; omega
  refine ⟨fun p h1 h2 h3 h4 => ?_, fun j hj => ?_, ?_, ⟨⟨?_, fun p p0 p1 => ?_⟩, ?_, hs.congr hS (fun i hi => ?_) (fun i hi => ?_) (fun i hi => ?_)⟩⟩
  · rw [um_ne _ _ _ h1, um_ne _ _ _ h2, um_ne _ _ _ h4, sm_ne _ _ h3]
  · rw [um_same, ui_ne _ _ hj, um_ne _ _ _ (by omega), um_ne _ _ _ (by omega), sm_ne _ _ (by omega)]
  · rw [um_same, ui_same]
  · rw [e, um_ne _ _ _ (by omega), um_ne _ _ _ (by omega), um_same, ui_same]; exact hb.symm
  · rw [e, um_ne _ _ _ (by omega), um_ne _ _ _ (by omega), um_ne _ _ _ (by omega), sm_same]; exact hw2 p p0 p1
  · rw [um_ne _ _ _ (by omega), um_same, ui_same]
  · rw [um_ne _ _ _ (by omega), um_same, ui_ne _ _ (by omega), um_ne _ _ _ (by omega), sm_ne _ _ (by omega)]
  · rw [um_ne _ _ _ (by omega), um_ne _ _ _ (by omega), um_same, ui_ne _ _ (by omega), sm_ne _ _ (by omega)]
  · rw [um_ne _ _ _ (by omega), um_ne _ _ _ (by omega), um_ne _ _ _ (by omega), sm_same]; exact hw i hi
theorem l_X3_put (c : Nat) (mem : Mem) (y : Sy) (ex q : Int) (t s : List Int) (x : Int) (h0 : SQ0 y ex q t c) (hq : SQ y ex q t mem c) (hs : SOK y ex q t mem c s) (hh : mem c 1 = s.length) (hcap : s.length < capS c) (hx : 1 ≤ x ∧ x ≤ y.2.1) :
    ∀ (j : Nat) (i : Int) (w : Int → Int), i + j = y.1 → 0 ≤ i → (∀ k : Int, k < (s.length + 1) * 4 → w k = mem (c + 10) k) → (∀ p, 0 ≤ p → p < i → TMn NO (RC BB y.2.2.2.2 ex p (x :: s) q t) (w ((s.length + 1) * 4 + p))) →
    V cX3_put RX3 3 none (rmk 2 52) (mE (fun r m => r = aU ∧ putQ y ex q t c s x mem m)) 14 [aR c, aI x, aI i] [] (sm mem (c + 10) w) := by
  obtain ⟨ok, hc, hex, hq2, ht, hlt⟩ := id h0
  obtain ⟨hpl, hS0, hpr, g3, g4, g9, ha⟩ := id hq
  have hNO := NO_def
  have hS := ok.1
  have hG := ok.2.1
  have hcp : capS c ≤ 310 := by unfold capS; split <;> omega
  have hc2 := hc.ge
  have h01 := bI_01 (s <:+ t)
  intro j
  induction j with
  | zero =>
    intro i w h1 i0 hw1 hw2
    have hp := hpl.congr (m1 := sm mem (c + 10) w) (fun q q1 q2 => sm_ne _ _ (by omega))
    have e29 := hp.1
    have m1 : sm mem (c + 10) w c 1 = s.length := by rw [sm_ne _ _ (by omega)]; exact hh
    have m4 : sm mem (c + 10) w c 4 = t.length := by rw [sm_ne _ _ (by omega)]; exact g4
    have m11 : sm mem (c + 10) w (c + 11) s.length = bI (s <:+ t) := by rw [sm_ne _ _ (by omega)]; exact hs.lv.1
    have ma : s.length < t.length → sm mem (c + 10) w (c + 1) ((t.length : Int) - 1 - s.length) = t.getD (t.length - 1 - s.length) 0 := fun hl => by
      rw [sm_ne _ _ (by omega), show (t.length : Int) - 1 - s.length = ((t.length - 1 - s.length : Nat) : Int) by omega]
      exact ha.1 _ (by omega)
    have mg : ∀ k : Nat, -10 ≤ t.getD k 0 ∧ t.getD k 0 ≤ 10 := fun k => by
      rw [List.getD_eq_getElem?_getD]
      rcases hk : t[k]? with _ | d
      · exact ⟨by show (-10 : Int) ≤ 0; omega, by show (0 : Int) ≤ 10; omega⟩
      · have := ht d (List.mem_of_getElem? hk)
        exact ⟨by show (-10 : Int) ≤ d; omega, by show d ≤ 10; omega⟩
    have mgk := mg (t.length - 1 - s.length)
    have o1 : ∀ z, um (sm mem (c + 10) w) (c + 11) ((s.length : Int) + 1) z c 1 = s.length := fun z => by rw [um_ne _ _ _ (by omega)]; exact m1
    have o2 : ∀ z, um (um (sm mem (c + 10) w) (c + 11) ((s.length : Int) + 1) z) (c + 9) s.length x c 1 = s.length := fun z => by rw [um_ne _ _ _ (by omega)]; exact o1 z
    refine v_iload_n (j := 2) (q := 15) rfl dX3_put_14 rfl ?_
    refine v_aload_n (j := 0) (q := 16) rfl dX3_put_15 rfl ?_
    refine v_getR (p' := 29) (q := 19) dX3_put_16 fl_X3_40 (sr0 hc) rfl (rfc_3_7 (sr0 hc)) rfl ?_
    refine v_getI (j := 0) (q := 22) dX3_put_19 fl_X3_128 kd_29 rfl rfl rfl ?_
    rw [e29]
    refine v_icmp_ge (tgt := 52) (q := 25) dX3_put_22 (by decide) rfl (by omega) (by omega) (fun h22 => ?_) (fun h22 => ?_)
    · refine v_aload_n (j := 0) (q := 53) rfl dX3_put_52 rfl ?_
      refine v_getR (p' := c + 11) (q := 56) dX3_put_53 fl_X3_58 (sr0 hc) rfl (rfc_3_12 (sr0 hc)) rfl ?_
      refine v_aload_n (j := 0) (q := 57) rfl dX3_put_56 rfl ?_
      refine v_getI (j := 1) (q := 60) dX3_put_57 fl_X3_17 (sr0 hc) rfl rfl rfl ?_
      rw [m1]
      refine v_iconst (q := 61) dX3_put_60 rfl ?_
      refine v_iadd (q := 62) dX3_put_61 rfl ?_
      refine v_aload_n (j := 0) (q := 63) rfl dX3_put_62 rfl ?_
      refine v_getR (p' := c + 11) (q := 66) dX3_put_63 fl_X3_58 (sr0 hc) rfl (rfc_3_12 (sr0 hc)) rfl ?_
      refine v_aload_n (j := 0) (q := 67) rfl dX3_put_66 rfl ?_
      refine v_getI (j := 1) (q := 70) dX3_put_67 fl_X3_17 (sr0 hc) rfl rfl rfl ?_
      rw [m1]
      refine v_zald (q := 71) dX3_put_70 (sr11 hc) (by omega) (by omega) rfl ?_
      rw [m11]
      refine v_if_eq (tgt := 109) (q := 74) dX3_put_71 (by decide) rfl (by omega) (fun h71 => ?_) (fun h71 => ?_)
      · refine v_iconst (q := 110) dX3_put_109 rfl ?_
        refine v_zast (q := 111) (by first | exact Or.inl rfl | exact Or.inr rfl | exact bI_01 _ | omega) dX3_put_110 (sr11 hc) (by omega) (by omega) rfl ?_
        refine v_aload_n (j := 0) (q := 112) rfl dX3_put_111 rfl ?_
        refine v_getR (p' := c + 9) (q := 115) dX3_put_112 fl_X3_51 (sr0 hc) rfl (rfc_3_10 (sr0 hc)) rfl ?_
        refine v_aload_n (j := 0) (q := 116) rfl dX3_put_115 rfl ?_
        refine v_getI (j := 1) (q := 119) dX3_put_116 fl_X3_17 (sr0 hc) rfl rfl rfl ?_
        rw [o1]
        refine v_iload_n (j := 1) (q := 120) rfl dX3_put_119 rfl ?_
        refine v_iast (q := 121) dX3_put_120 (sr9 hc) (by omega) (by omega) rfl ?_
        refine v_aload_n (j := 0) (q := 122) rfl dX3_put_121 rfl ?_
        refine v_dup (q := 123) rfl dX3_put_122 rfl ?_
        refine v_getI (j := 1) (q := 126) dX3_put_123 fl_X3_17 (sr0 hc) rfl rfl rfl ?_
        rw [o2]
        refine v_iconst (q := 127) dX3_put_126 rfl ?_
        refine v_iadd (q := 128) dX3_put_127 rfl ?_
        refine v_putI (j := 1) (q := 131) dX3_put_128 fl_X3_17 (sr0 hc) rfl rfl rfl ?_
        refine v_vret dX3_put_131 ?_
        refine ⟨rfl, put_fin hS.2 hs hw1 (fun p p0 p1 => hw2 p p0 (by omega)) ?_⟩
        first
          | exact bI_f (fun h => by rw [bI_t (suf_cons.mp h).1] at h71; omega)
          | exact bI_f (fun h => by have := (suf_cons.mp h).2.1; omega)
          | exact bI_f (fun h => by have := (suf_cons.mp h).2.2; omega)
          | exact bI_t (suf_cons.mpr ⟨Classical.byContradiction (fun h => h71 (bI_f h)), by omega, by omega⟩)
      · refine v_aload_n (j := 0) (q := 75) rfl dX3_put_74 rfl ?_
        refine v_getI (j := 1) (q := 78) dX3_put_75 fl_X3_17 (sr0 hc) rfl rfl rfl ?_
        refine v_aload_n (j := 0) (q := 79) rfl dX3_put_78 rfl ?_
        refine v_getI (j := 4) (q := 82) dX3_put_79 fl_X3_28 (sr0 hc) rfl rfl rfl ?_
        rw [m1, m4]
        refine v_icmp_ge (tgt := 109) (q := 85) dX3_put_82 (by decide) rfl (by omega) (by omega) (fun h82 => ?_) (fun h82 => ?_)
        · refine v_iconst (q := 110) dX3_put_109 rfl ?_
          refine v_zast (q := 111) (by first | exact Or.inl rfl | exact Or.inr rfl | exact bI_01 _ | omega) dX3_put_110 (sr11 hc) (by omega) (by omega) rfl ?_
          refine v_aload_n (j := 0) (q := 112) rfl dX3_put_111 rfl ?_
          refine v_getR (p' := c + 9) (q := 115) dX3_put_112 fl_X3_51 (sr0 hc) rfl (rfc_3_10 (sr0 hc)) rfl ?_
          refine v_aload_n (j := 0) (q := 116) rfl dX3_put_115 rfl ?_
          refine v_getI (j := 1) (q := 119) dX3_put_116 fl_X3_17 (sr0 hc) rfl rfl rfl ?_
          rw [o1]
          refine v_iload_n (j := 1) (q := 120) rfl dX3_put_119 rfl ?_
          refine v_iast (q := 121) dX3_put_120 (sr9 hc) (by omega) (by omega) rfl ?_
          refine v_aload_n (j := 0) (q := 122) rfl dX3_put_121 rfl ?_
          refine v_dup (q := 123) rfl dX3_put_122 rfl ?_
          refine v_getI (j := 1) (q := 126) dX3_put_123 fl_X3_17 (sr0 hc) rfl rfl rfl ?_
          rw [o2]
          refine v_iconst (q := 127) dX3_put_126 rfl ?_
          refine v_iadd (q := 128) dX3_put_127 rfl ?_
          refine v_putI (j := 1) (q := 131) dX3_put_128 fl_X3_17 (sr0 hc) rfl rfl rfl ?_
          refine v_vret dX3_put_131 ?_
          refine ⟨rfl, put_fin hS.2 hs hw1 (fun p p0 p1 => hw2 p p0 (by omega)) ?_⟩
          first
            | exact bI_f (fun h => by rw [bI_t (suf_cons.mp h).1] at h71; omega)
            | exact bI_f (fun h => by have := (suf_cons.mp h).2.1; omega)
            | exact bI_f (fun h => by have := (suf_cons.mp h).2.2; omega)
            | exact bI_t (suf_cons.mpr ⟨Classical.byContradiction (fun h => h71 (bI_f h)), by omega, by omega⟩)
        · have ma9 := ma (by omega)
          refine v_aload_n (j := 0) (q := 86) rfl dX3_put_85 rfl ?_
          refine v_getR (p' := c + 1) (q := 89) dX3_put_86 fl_X3_31 (sr0 hc) rfl (rfc_3_5 (sr0 hc)) rfl ?_
          refine v_aload_n (j := 0) (q := 90) rfl dX3_put_89 rfl ?_
          refine v_getI (j := 4) (q := 93) dX3_put_90 fl_X3_28 (sr0 hc) rfl rfl rfl ?_
          refine v_iconst (q := 94) dX3_put_93 rfl ?_
          refine v_isub (q := 95) dX3_put_94 rfl ?_
          refine v_aload_n (j := 0) (q := 96) rfl dX3_put_95 rfl ?_
          refine v_getI (j := 1) (q := 99) dX3_put_96 fl_X3_17 (sr0 hc) rfl rfl rfl ?_
          refine v_isub (q := 100) dX3_put_99 rfl ?_
          rw [m1, m4]
          refine v_iald (q := 101) dX3_put_100 (sr1 hc) (by omega) (by omega) rfl ?_
          rw [ma9]
          refine v_iload_n (j := 1) (q := 102) rfl dX3_put_101 rfl ?_
          refine v_icmp_ne (tgt := 109) (q := 105) dX3_put_102 (by decide) rfl (by omega) (by omega) (fun h102 => ?_) (fun h102 => ?_)
          · refine v_iconst (q := 110) dX3_put_109 rfl ?_
            refine v_zast (q := 111) (by first | exact Or.inl rfl | exact Or.inr rfl | exact bI_01 _ | omega) dX3_put_110 (sr11 hc) (by omega) (by omega) rfl ?_
            refine v_aload_n (j := 0) (q := 112) rfl dX3_put_111 rfl ?_
            refine v_getR (p' := c + 9) (q := 115) dX3_put_112 fl_X3_51 (sr0 hc) rfl (rfc_3_10 (sr0 hc)) rfl ?_
            refine v_aload_n (j := 0) (q := 116) rfl dX3_put_115 rfl ?_
            refine v_getI (j := 1) (q := 119) dX3_put_116 fl_X3_17 (sr0 hc) rfl rfl rfl ?_
            rw [o1]
            refine v_iload_n (j := 1) (q := 120) rfl dX3_put_119 rfl ?_
            refine v_iast (q := 121) dX3_put_120 (sr9 hc) (by omega) (by omega) rfl ?_
            refine v_aload_n (j := 0) (q := 122) rfl dX3_put_121 rfl ?_
            refine v_dup (q := 123) rfl dX3_put_122 rfl ?_
            refine v_getI (j := 1) (q := 126) dX3_put_123 fl_X3_17 (sr0 hc) rfl rfl rfl ?_
            rw [o2]
            refine v_iconst (q := 127) dX3_put_126 rfl ?_
            refine v_iadd (q := 128) dX3_put_127 rfl ?_
            refine v_putI (j := 1) (q := 131) dX3_put_128 fl_X3_17 (sr0 hc) rfl rfl rfl ?_
            refine v_vret dX3_put_131 ?_
            refine ⟨rfl, put_fin hS.2 hs hw1 (fun p p0 p1 => hw2 p p0 (by omega)) ?_⟩
            first
              | exact bI_f (fun h => by rw [bI_t (suf_cons.mp h).1] at h71; omega)
              | exact bI_f (fun h => by have := (suf_cons.mp h).2.1; omega)
              | exact bI_f (fun h => by have := (suf_cons.mp h).2.2; omega)
              | exact bI_t (suf_cons.mpr ⟨Classical.byContradiction (fun h => h71 (bI_f h)), by omega, by omega⟩)
          · refine v_iconst (q := 106) dX3_put_105 rfl ?_
            refine v_goto (q := 110) dX3_put_106 (by decide) ?_
            refine v_zast (q := 111) (by first | exact Or.inl rfl | exact Or.inr rfl | exact bI_01 _ | omega) dX3_put_110 (sr11 hc) (by omega) (by omega) rfl ?_
            refine v_aload_n (j := 0) (q := 112) rfl dX3_put_111 rfl ?_
            refine v_getR (p' := c + 9) (q := 115) dX3_put_112 fl_X3_51 (sr0 hc) rfl (rfc_3_10 (sr0 hc)) rfl ?_
            refine v_aload_n (j := 0) (q := 116) rfl dX3_put_115 rfl ?_
            refine v_getI (j := 1) (q := 119) dX3_put_116 fl_X3_17 (sr0 hc) rfl rfl rfl ?_
            rw [o1]
            refine v_iload_n (j := 1) (q := 120) rfl dX3_put_119 rfl ?_
            refine v_iast (q := 121) dX3_put_120 (sr9 hc) (by omega) (by omega) rfl ?_
            refine v_aload_n (j := 0) (q := 122) rfl dX3_put_121 rfl ?_
            refine v_dup (q := 123) rfl dX3_put_122 rfl ?_
            refine v_getI (j := 1) (q := 126) dX3_put_123 fl_X3_17 (sr0 hc) rfl rfl rfl ?_
            rw [o2]
            refine v_iconst (q := 127) dX3_put_126 rfl ?_
            refine v_iadd (q := 128) dX3_put_127 rfl ?_
            refine v_putI (j := 1) (q := 131) dX3_put_128 fl_X3_17 (sr0 hc) rfl rfl rfl ?_
            refine v_vret dX3_put_131 ?_
            refine ⟨rfl, put_fin hS.2 hs hw1 (fun p p0 p1 => hw2 p p0 (by omega)) ?_⟩
            first
              | exact bI_f (fun h => by rw [bI_t (suf_cons.mp h).1] at h71; omega)
              | exact bI_f (fun h => by have := (suf_cons.mp h).2.1; omega)
              | exact bI_f (fun h => by have := (suf_cons.mp h).2.2; omega)
              | exact bI_t (suf_cons.mpr ⟨Classical.byContradiction (fun h => h71 (bI_f h)), by omega, by omega⟩)
    · exact absurd h22 (by omega)
  | succ j ih =>
    intro i w h1 i0 hw1 hw2
    have hp := hpl.congr (m1 := sm mem (c + 10) w) (fun q q1 q2 => sm_ne _ _ (by omega))
    have e29 := hp.1
    have m1 : sm mem (c + 10) w c 1 = s.length := by rw [sm_ne _ _ (by omega)]; exact hh
    have hq9 : SQ y ex q t (sm mem (c + 10) w) c := hq.congr hc hlt (fun p hp => sm_ne _ _ (by omega)) (fun j _ => by rw [sm_ne _ _ (by omega)])
    have hs9 : SOK y ex q t (sm mem (c + 10) w) c s := hs.congr hS.2 (fun k _ => by rw [sm_ne _ _ (by omega)]) (fun k _ => by rw [sm_ne _ _ (by omega)]) (fun k hk => by rw [sm_same]; exact hw1 k hk)
    refine v_iload_n (j := 2) (q := 15) rfl dX3_put_14 rfl ?_
    refine v_aload_n (j := 0) (q := 16) rfl dX3_put_15 rfl ?_
    refine v_getR (p' := 29) (q := 19) dX3_put_16 fl_X3_40 (sr0 hc) rfl (rfc_3_7 (sr0 hc)) rfl ?_
    refine v_getI (j := 0) (q := 22) dX3_put_19 fl_X3_128 kd_29 rfl rfl rfl ?_
    rw [e29]
    refine v_icmp_ge (tgt := 52) (q := 25) dX3_put_22 (by decide) rfl (by omega) (by omega) (fun h22 => ?_) (fun h22 => ?_)
    · exact absurd h22 (by omega)
    · refine v_aload_n (j := 0) (q := 26) rfl dX3_put_25 rfl ?_
      refine v_getR (p' := c + 10) (q := 29) dX3_put_26 fl_X3_54 (sr0 hc) rfl (rfc_3_11 (sr0 hc)) rfl ?_
      refine v_aload_n (j := 0) (q := 30) rfl dX3_put_29 rfl ?_
      refine v_getI (j := 1) (q := 33) dX3_put_30 fl_X3_17 (sr0 hc) rfl rfl rfl ?_
      rw [m1]
      refine v_iconst (q := 34) dX3_put_33 rfl ?_
      refine v_iadd (q := 35) dX3_put_34 rfl ?_
      refine v_iconst (q := 36) dX3_put_35 rfl ?_
      refine v_imul (q := 37) dX3_put_36 rfl ?_
      refine v_iload_n (j := 2) (q := 38) rfl dX3_put_37 rfl ?_
      refine v_iadd (q := 39) dX3_put_38 rfl ?_
      refine v_aload_n (j := 0) (q := 40) rfl dX3_put_39 rfl ?_
      refine v_iload_n (j := 2) (q := 41) rfl dX3_put_40 rfl ?_
      refine v_iload_n (j := 1) (q := 42) rfl dX3_put_41 rfl ?_
      refine v_cVL2 (q := 45) dX3_put_42 mlX3_131 mdX3_costWithTop (by decide) (sr0 hc) rfl rfl ⟨Nat.le_refl 0, Nat.le_refl 0⟩ (by exact Nat.le_of_ble_eq_true rfl) rfl (c_X3_costWithTop c _ y ex q t s i x h0 hq9 hs9 m1 (by omega) (by omega) hx) ?_
      rintro z _ ⟨rfl, hz⟩
      refine v_last (q := 46) dX3_put_45 (sr10 hc) (by omega) (by omega) rfl ?_
      refine v_iinc2 (q := 49) rfl dX3_put_46 (by decide) rfl ?_
      refine v_goto (q := 14) dX3_put_49 (by decide) ?_
      have em : um (sm mem (c + 10) w) (c + 10) (((s.length : Int) + 1) * 4 + i) z = sm mem (c + 10) (ui w (((s.length : Int) + 1) * 4 + i) z) := eq_sm (fun p hp => by rw [um_ne _ _ _ hp, sm_ne _ _ hp]) (fun k => by rw [um_same, sm_same])
      rw [em]
      refine ih (i + 1) _ (by omega) (by omega) (fun k hk => ?_) (fun p p0 p1 => ?_)
      · rw [ui_ne _ _ (by omega)]; exact hw1 k hk
      · by_cases e : p = i
        · rw [e, ui_same]; exact hz
        · rw [ui_ne _ _ (by omega)]; exact hw2 p p0 (by omega)
theorem c_X3_put (c : Nat) (mem : Mem) (y : Sy) (ex q : Int) (t s : List Int) (x : Int) (h0 : SQ0 y ex q t c) (hq : SQ y ex q t mem c) (hs : SOK y ex q t mem c s) (hh : mem c 1 = s.length) (hcap : s.length < capS c) (hx : 1 ≤ x ∧ x ≤ y.2.1) : CtrV mX3_put [aR c, aI x] mem (putQ y ex q t c s x mem) := by
  have hcp : capS c ≤ 310 := by unfold capS; split <;> omega
  have g9 := hq.2.2.2.2.2.1
  refine Ctr.ofV (ls := [aR c, aI x, aU]) rfl (by decide) rfl (Nat.le_of_ble_eq_true rfl) ?_
  refine v_aload_n (j := 0) (q := 1) rfl dX3_put_0 rfl ?_
  refine v_getI (j := 1) (q := 4) dX3_put_1 fl_X3_17 (sr0 h0.2.1) rfl rfl rfl ?_
  refine v_aload_n (j := 0) (q := 5) rfl dX3_put_4 rfl ?_
  refine v_getI (j := 9) (q := 8) dX3_put_5 fl_X3_48 (sr0 h0.2.1) rfl rfl rfl ?_
  rw [hh, g9]
  refine v_icmp_lt (tgt := 12) (q := 11) dX3_put_8 (by decide) rfl (by omega) (by omega) (fun h8 => ?_) (fun h8 => ?_)
  · refine v_iconst (q := 13) dX3_put_12 rfl ?_
    refine v_ist2 (q := 14) rfl dX3_put_13 (by decide) rfl ?_
    have hk := l_X3_put c mem y ex q t s x h0 hq hs hh hcap hx y.1.toNat 0 (mem (c + 10)) (by have := h0.1.1; omega) (by omega) (fun _ _ => rfl) (fun p p0 p1 => by omega)
    rw [sm_id mem _ (fun _ => rfl)] at hk
    exact hk
  · exact absurd h8 (by omega)
