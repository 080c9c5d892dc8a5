/-! ===== Search.costFrom ===== -/
def fromQ (y : Sy) (ex q : Int) (t : List Int) (c : Nat) (p : Int) (l : List Int) (mem : Mem) (z : Int) (m : Mem) : Prop := (∀ p, p ≠ c → p ≠ c + 9 → p ≠ c + 10 → p ≠ c + 11 → m p = mem p) ∧ (∀ j, j ≠ 0 → j ≠ 1 → m c j = mem c j) ∧ m c 0 = z ∧ m c 1 = l.length ∧ SOK y ex q t m c l ∧ TMn NO (RC BB y.2.2.2.2 ex p l q t) z
theorem l_X3_from1 {Post : AV → Mem → Prop} (c w : Nat) (N : Mem) (y : Sy) (ex q : Int) (t : List Int) (p : Int) (h0 : SQ0 y ex q t c) (hq : SQ y ex q t N c) (hw : isWd w) (K : ∀ v, (∀ p, 0 ≤ p → p < 4 → TMn NO (RC BB y.2.2.2.2 ex p [] q t) (v p)) → V cX3_costFrom RX3 4 (some .long) (rmk 3 74) (mE Post) 53 [aR c, aI p, aR w, aI 4] [] (sm N (c + 10) v)) :
    ∀ (j : Nat) (i : Int) (v : Int → Int), i + j = 4 → 0 ≤ i → (∀ p, 0 ≤ p → p < i → TMn NO (RC BB y.2.2.2.2 ex p [] q t) (v p)) → V cX3_costFrom RX3 4 (some .long) (rmk 3 74) (mE Post) 14 [aR c, aI p, aR w, aI i] [] (sm N (c + 10) v) := by
  obtain ⟨ok, hc, hex, hq2, ht, hlt⟩ := id h0
  obtain ⟨hpl, hS0, hpr, g3, g4, g9, ha⟩ := id hq
  have hNO := NO_def
  have hS := ok.1
  have hcp : 6 ≤ capS c := by unfold capS; split <;> omega
  intro j
  induction j with
  | zero =>
    intro i v h1 i0 hv
    have hi : i = 4 := by omega
    subst hi
    refine v_iload_n (j := 3) (q := 15) rfl dX3_costFrom_14 rfl ?_
    refine v_iconst (q := 16) dX3_costFrom_15 rfl ?_
    refine v_icmp_ge (tgt := 53) (q := 19) dX3_costFrom_16 (by decide) rfl (by omega) (by omega) (fun h16 => ?_) (fun h16 => ?_)
    · exact K v hv
    · exact absurd h16 (by omega)
  | succ j ih =>
    intro i v h1 i0 hv
    have m4 : sm N (c + 10) v c 4 = t.length := by rw [sm_ne _ _ (by omega)]; exact g4
    have m3 : sm N (c + 10) v c 3 = q := by rw [sm_ne _ _ (by omega)]; exact g3
    have fin : ∀ z, TMn NO (RC BB y.2.2.2.2 ex i [] q t) z → V cX3_costFrom RX3 4 (some .long) (rmk 3 74) (mE Post) 14 [aR c, aI p, aR w, aI (i + 1)] [] (um (sm N (c + 10) v) (c + 10) i z) := fun z hz => by
      have em : um (sm N (c + 10) v) (c + 10) i z = sm N (c + 10) (ui v i z) := eq_sm (fun p hp => by rw [um_ne _ _ _ hp, sm_ne _ _ hp]) (fun k => by rw [um_same, sm_same])
      rw [em]
      refine ih (i + 1) _ (by omega) (by omega) (fun p p0 p1 => ?_)
      by_cases e : p = i
      · rw [e, ui_same]; exact hz
      · rw [ui_ne _ _ (by omega)]; exact hv p p0 (by omega)
    have finN : ¬ (t = [] ∧ i = q) → V cX3_costFrom RX3 4 (some .long) (rmk 3 74) (mE Post) 14 [aR c, aI p, aR w, aI (i + 1)] [] (um (sm N (c + 10) v) (c + 10) i NO) := fun hn => fin NO ⟨by omega, fun h => absurd h (by omega), fun c0 h => by
      obtain ⟨-, e1, e2⟩ := h.empty
      exact absurd ⟨e2, e1⟩ hn⟩
    refine v_iload_n (j := 3) (q := 15) rfl dX3_costFrom_14 rfl ?_
    refine v_iconst (q := 16) dX3_costFrom_15 rfl ?_
    refine v_icmp_ge (tgt := 53) (q := 19) dX3_costFrom_16 (by decide) rfl (by omega) (by omega) (fun h16 => ?_) (fun h16 => ?_)
    · exact absurd h16 (by omega)
    · refine v_aload_n (j := 0) (q := 20) rfl dX3_costFrom_19 rfl ?_
      refine v_getR (p' := c + 10) (q := 23) dX3_costFrom_20 fl_X3_54 (sr0 hc) rfl (rfc_3_11 (sr0 hc)) rfl ?_
      refine v_iload_n (j := 3) (q := 24) rfl dX3_costFrom_23 rfl ?_
      refine v_aload_n (j := 0) (q := 25) rfl dX3_costFrom_24 rfl ?_
      refine v_getI (j := 4) (q := 28) dX3_costFrom_25 fl_X3_28 (sr0 hc) rfl rfl rfl ?_
      rw [m4]
      refine v_if_ne (tgt := 43) (q := 31) dX3_costFrom_28 (by decide) rfl (by omega) (fun h28 => ?_) (fun h28 => ?_)
      · refine v_ldc2 (n := 16777232777216) (q := 46) klX3_9 rfl dX3_costFrom_43 rfl ?_
        refine v_last (q := 47) dX3_costFrom_46 (sr10 hc) (by omega) (by omega) rfl ?_
        refine v_iinc3 (q := 50) rfl dX3_costFrom_47 (by decide) rfl ?_
        refine v_goto (q := 14) dX3_costFrom_50 (by decide) ?_
        first
          | exact finN (fun h => h28 (by rw [h.1]; rfl))
          | exact finN (fun h => h36 h.2)
          | (refine fin 0 ⟨by omega, fun _ => ?_, fun c0 h _ => by rw [h.empty.1]; omega⟩
             have e1 : t = [] := List.length_eq_zero_iff.mp (by omega)
             rw [e1, h36]
             exact RC.refl _ _)
      · refine v_iload_n (j := 3) (q := 32) rfl dX3_costFrom_31 rfl ?_
        refine v_aload_n (j := 0) (q := 33) rfl dX3_costFrom_32 rfl ?_
        refine v_getI (j := 3) (q := 36) dX3_costFrom_33 fl_X3_25 (sr0 hc) rfl rfl rfl ?_
        rw [m3]
        refine v_icmp_ne (tgt := 43) (q := 39) dX3_costFrom_36 (by decide) rfl (by omega) (by omega) (fun h36 => ?_) (fun h36 => ?_)
        · refine v_ldc2 (n := 16777232777216) (q := 46) klX3_9 rfl dX3_costFrom_43 rfl ?_
          refine v_last (q := 47) dX3_costFrom_46 (sr10 hc) (by omega) (by omega) rfl ?_
          refine v_iinc3 (q := 50) rfl dX3_costFrom_47 (by decide) rfl ?_
          refine v_goto (q := 14) dX3_costFrom_50 (by decide) ?_
          first
            | exact finN (fun h => h28 (by rw [h.1]; rfl))
            | exact finN (fun h => h36 h.2)
            | (refine fin 0 ⟨by omega, fun _ => ?_, fun c0 h _ => by rw [h.empty.1]; omega⟩
               have e1 : t = [] := List.length_eq_zero_iff.mp (by omega)
               rw [e1, h36]
               exact RC.refl _ _)
        · refine v_lconst0 (q := 40) dX3_costFrom_39 rfl ?_
          refine v_goto (q := 46) dX3_costFrom_40 (by decide) ?_
          refine v_last (q := 47) dX3_costFrom_46 (sr10 hc) (by omega) (by omega) rfl ?_
          refine v_iinc3 (q := 50) rfl dX3_costFrom_47 (by decide) rfl ?_
          refine v_goto (q := 14) dX3_costFrom_50 (by decide) ?_
          first
            | exact finN (fun h => h28 (by rw [h.1]; rfl))
            | exact finN (fun h => h36 h.2)
            | (refine fin 0 ⟨by omega, fun _ => ?_, fun c0 h _ => by rw [h.empty.1]; omega⟩
               have e1 : t = [] := List.length_eq_zero_iff.mp (by omega)
               rw [e1, h36]
               exact RC.refl _ _)
theorem drop_s {l : List Int} {n : Nat} (h : n < l.length) : l.drop n = l.getD n 0 :: l.drop (n + 1) := by
  rw [List.drop_eq_getElem_cons h, List.getD_eq_getElem?_getD, List.getElem?_eq_getElem h]
  rfl
theorem l_X3_from2 (c w : Nat) (mem : Mem) (y : Sy) (ex q : Int) (t l : List Int) (p : Int) (h0 : SQ0 y ex q t c) (hw : isWd w) (hl : ∀ d ∈ l, 1 ≤ d ∧ d ≤ y.2.1) (hcap : l.length ≤ capS c) (hl6 : l.length ≤ 6) (hwd : WdIs mem w l) (hp : 0 ≤ p ∧ p < y.1) :
    ∀ (n : Nat) (M : Mem), n ≤ l.length → SQ y ex q t M c → (∀ p, p ≠ c → p ≠ c + 9 → p ≠ c + 10 → p ≠ c + 11 → M p = mem p) → (∀ j, j ≠ 0 → j ≠ 1 → M c j = mem c j) → M c 1 = (l.drop n).length → SOK y ex q t M c (l.drop n) →
    V cX3_costFrom RX3 4 (some .long) (rmk 3 74) (mE (fun r m => ∃ z, r = aL z ∧ fromQ y ex q t c p l mem z m)) 60 [aR c, aI p, aR w, aI ((n : Int) - 1)] [] M := by
  obtain ⟨ok, hc, hex, hq2, ht, hlt⟩ := id h0
  have hNO := NO_def
  have hS := ok.1
  have hc2 := hc.ge
  have hcp : capS c ≤ 310 := by unfold capS; split <;> omega
  have hw2 : w + 1 < 42 := by
    unfold isWd at hw
    simp at hw
    omega
  intro n
  induction n with
  | zero =>
    intro M hn hq f1 f2 f3 hs
    rw [List.drop_zero] at f3 hs
    have hv := hs.lv.2 p hp.1 hp.2
    obtain ⟨z, hz⟩ : ∃ z, z = M (c + 10) (l.length * 4 + p) := ⟨_, rfl⟩
    rw [← hz] at hv
    have e0 : um M c 0 z c 0 = z := by rw [um_same, ui_same]
    refine v_iload_n (j := 3) (q := 61) rfl dX3_costFrom_60 rfl ?_
    refine v_if_lt (tgt := 80) (q := 64) dX3_costFrom_61 (by decide) rfl (by omega) (fun h61 => ?_) (fun h61 => ?_)
    · refine v_aload_n (j := 0) (q := 81) rfl dX3_costFrom_80 rfl ?_
      refine v_aload_n (j := 0) (q := 82) rfl dX3_costFrom_81 rfl ?_
      refine v_getR (p' := c + 10) (q := 85) dX3_costFrom_82 fl_X3_54 (sr0 hc) rfl (rfc_3_11 (sr0 hc)) rfl ?_
      refine v_aload_n (j := 0) (q := 86) rfl dX3_costFrom_85 rfl ?_
      refine v_getI (j := 1) (q := 89) dX3_costFrom_86 fl_X3_17 (sr0 hc) rfl rfl rfl ?_
      rw [f3]
      refine v_iconst (q := 90) dX3_costFrom_89 rfl ?_
      refine v_imul (q := 91) dX3_costFrom_90 rfl ?_
      refine v_iload_n (j := 1) (q := 92) rfl dX3_costFrom_91 rfl ?_
      refine v_iadd (q := 93) dX3_costFrom_92 rfl ?_
      refine v_lald (q := 94) dX3_costFrom_93 (sr10 hc) (by omega) (by omega) rfl ?_
      rw [← hz]
      refine v_putL (j := 0) (q := 97) dX3_costFrom_94 fl_X3_11 (sr0 hc) rfl rfl rfl ?_
      refine v_aload_n (j := 0) (q := 98) rfl dX3_costFrom_97 rfl ?_
      refine v_getL (j := 0) (q := 101) dX3_costFrom_98 fl_X3_11 (sr0 hc) rfl rfl rfl ?_
      rw [e0]
      refine v_lret dX3_costFrom_101 ?_
      refine ⟨z, rfl, fun p9 h1 h2 h3 h4 => by rw [um_ne _ _ _ h1]; exact f1 p9 h1 h2 h3 h4, fun j hj hj1 => by rw [um_same, ui_ne _ _ hj]; exact f2 j hj hj1, e0, by rw [um_same, ui_ne _ _ (by omega)]; exact f3, hs.congr hS.2 (fun i _ => by rw [um_ne _ _ _ (by omega)]) (fun i _ => by rw [um_ne _ _ _ (by omega)]) (fun i _ => by rw [um_ne _ _ _ (by omega)]), hv⟩
    · exact absurd h61 (by omega)
  | succ n ih =>
    intro M hn hq f1 f2 f3 hs
    have e1 : M (w + 1) (((n + 1 : Nat) : Int) - 1) = l.getD n 0 := by
      rw [f1 _ (by omega) (by omega) (by omega) (by omega), show ((n + 1 : Nat) : Int) - 1 = (n : Int) by omega]
      exact hwd.2 n (by omega)
    have e2 := drop_s (l := l) (n := n) (by omega)
    have hx : 1 ≤ l.getD n 0 ∧ l.getD n 0 ≤ y.2.1 := by
      rw [List.getD_eq_getElem?_getD, List.getElem?_eq_getElem (by omega)]
      exact hl _ (List.getElem_mem (by omega))
    have e3 : (l.drop (n + 1)).length = l.length - (n + 1) := List.length_drop
    refine v_iload_n (j := 3) (q := 61) rfl dX3_costFrom_60 rfl ?_
    refine v_if_lt (tgt := 80) (q := 64) dX3_costFrom_61 (by decide) rfl (by omega) (fun h61 => ?_) (fun h61 => ?_)
    · exact absurd h61 (by omega)
    · refine v_aload_n (j := 0) (q := 65) rfl dX3_costFrom_64 rfl ?_
      refine v_aload_n (j := 2) (q := 66) rfl dX3_costFrom_65 rfl ?_
      refine v_getR (p' := w + 1) (q := 69) dX3_costFrom_66 fl_X3_67 (wd1 hw) rfl (rfc_8_1 (wd1 hw)) rfl ?_
      refine v_iload_n (j := 3) (q := 70) rfl dX3_costFrom_69 rfl ?_
      refine v_iald (q := 71) dX3_costFrom_70 (wd2 hw) (by omega) (by omega) rfl ?_
      rw [e1]
      refine v_cVV1 (q := 74) dX3_costFrom_71 mlX3_125 mdX3_put (by decide) (sr0 hc) rfl rfl ⟨Nat.le_refl 0, Nat.le_refl 0⟩ (by exact Nat.le_of_ble_eq_true rfl) rfl (c_X3_put c M y ex q t (l.drop (n + 1)) (l.getD n 0) h0 hq hs f3 (by omega) hx) ?_
      rintro m ⟨b1, b2, b3, b4⟩
      refine v_iinc3 (q := 77) rfl dX3_costFrom_74 (by decide) rfl ?_
      refine v_goto (q := 60) dX3_costFrom_77 (by decide) ?_
      have hk := ih m (by omega) (hq.congr hc hlt (fun p hp => b1 p (by omega) (by omega) (by omega) (by omega)) (fun j hj => b2 j (by omega))) (fun p h1 h2 h3 h4 => by rw [b1 p h1 h2 h3 h4]; exact f1 p h1 h2 h3 h4) (fun j j0 j1 => by rw [b2 j j1]; exact f2 j j0 j1) (by rw [b3, e2, List.length_cons]; omega) (by rw [e2]; exact b4)
      rw [show ((n + 1 : Nat) : Int) - 1 + -1 = (n : Int) - 1 by omega]
      exact hk
theorem c_X3_costFrom (c w : Nat) (mem : Mem) (y : Sy) (ex q : Int) (t l : List Int) (p : Int) (h0 : SQ0 y ex q t c) (hq : SQ y ex q t mem c) (hw : isWd w) (hl : ∀ d ∈ l, 1 ≤ d ∧ d ≤ y.2.1) (hl6 : l.length ≤ 6) (hwd : WdIs mem w l) (hp : 0 ≤ p ∧ p < y.1) : CtrL mX3_costFrom [aR c, aI p, aR w] mem (fromQ y ex q t c p l mem) := by
  obtain ⟨ok, hc, hex, hq2, ht, hlt⟩ := id h0
  have hcap : l.length ≤ capS c := by unfold capS; split <;> omega
  have hS := ok.1
  have hc2 := hc.ge
  have hw2 : w + 1 < 42 := by
    unfold isWd at hw
    simp at hw
    omega
  obtain ⟨N, hN⟩ : ∃ N, N = um (um mem c 1 0) (c + 11) 0 1 := ⟨_, rfl⟩
  have n1 : ∀ p, p ≠ c → p ≠ c + 11 → N p = mem p := fun p h1 h2 => by rw [hN, um_ne _ _ _ h2, um_ne _ _ _ h1]
  have n2 : ∀ j, j ≠ 1 → N c j = mem c j := fun j hj => by rw [hN, um_ne _ _ _ (by omega), um_same, ui_ne _ _ hj]
  have n3 : N c 1 = 0 := by rw [hN, um_ne _ _ _ (by omega), um_same, ui_same]
  have n4 : N (c + 11) 0 = 1 := by rw [hN, um_same, ui_same]
  have hqN : SQ y ex q t N c := hq.congr hc hlt (fun p hp => n1 p (by omega) (by omega)) (fun j hj => n2 j (by omega))
  refine Ctr.ofV (ls := [aR c, aI p, aR w, aU]) rfl (by decide) rfl (Nat.le_of_ble_eq_true rfl) ?_
  refine v_aload_n (j := 0) (q := 1) rfl dX3_costFrom_0 rfl ?_
  refine v_iconst (q := 2) dX3_costFrom_1 rfl ?_
  refine v_putI (j := 1) (q := 5) dX3_costFrom_2 fl_X3_17 (sr0 hc) rfl rfl rfl ?_
  refine v_aload_n (j := 0) (q := 6) rfl dX3_costFrom_5 rfl ?_
  refine v_getR (p' := c + 11) (q := 9) dX3_costFrom_6 fl_X3_58 (sr0 hc) rfl (rfc_3_12 (sr0 hc)) rfl ?_
  refine v_iconst (q := 10) dX3_costFrom_9 rfl ?_
  refine v_iconst (q := 11) dX3_costFrom_10 rfl ?_
  refine v_zast (q := 12) (by first | exact Or.inl rfl | exact Or.inr rfl | exact bI_01 _ | omega) dX3_costFrom_11 (sr11 hc) (by omega) (by omega) rfl ?_
  refine v_iconst (q := 13) dX3_costFrom_12 rfl ?_
  refine v_ist3 (q := 14) rfl dX3_costFrom_13 (by decide) rfl ?_
  rw [← hN]
  have hk := l_X3_from1 (Post := (fun r m => ∃ z, r = aL z ∧ fromQ y ex q t c p l mem z m)) c w N y ex q t p h0 hqN hw (fun v hv => ?_) 4 0 (N (c + 10)) (by omega) (by omega) (fun p p0 p1 => by omega)
  · rw [sm_id N _ (fun _ => rfl)] at hk
    exact hk
  · have m0 : sm N (c + 10) v w 0 = l.length := by rw [sm_ne _ _ (by omega), n1 _ (by omega) (by omega)]; exact hwd.1
    refine v_aload_n (j := 2) (q := 54) rfl dX3_costFrom_53 rfl ?_
    refine v_getI (j := 0) (q := 57) dX3_costFrom_54 fl_X3_62 (wd1 hw) rfl rfl rfl ?_
    rw [m0]
    refine v_iconst (q := 58) dX3_costFrom_57 rfl ?_
    refine v_isub (q := 59) dX3_costFrom_58 rfl ?_
    refine v_ist3 (q := 60) rfl dX3_costFrom_59 (by decide) rfl ?_
    refine l_X3_from2 c w mem y ex q t l p h0 hw hl hcap hl6 hwd hp l.length _ (Nat.le_refl _) (hqN.congr hc hlt (fun p hp => sm_ne _ _ (by omega)) (fun j hj => by rw [sm_ne _ _ (by omega)])) (fun p h1 h2 h3 h4 => by rw [sm_ne _ _ h3, n1 p h1 h4]) (fun j j0 j1 => by rw [sm_ne _ _ (by omega), n2 j j1]) ?_ ?_
    · rw [sm_ne _ _ (by omega), n3, List.drop_length]; rfl
    · rw [List.drop_length]
      refine ⟨?_, fun p p0 p1 => ?_⟩
      · rw [sm_ne _ _ (by omega)]
        exact n4.trans (bI_t (List.nil_suffix)).symm
      · rw [sm_same]
        have := hv p p0 (by omega)
        rwa [show ((([] : List Int).length : Int) * 4 + p) = p by rw [List.length_nil]; omega]
