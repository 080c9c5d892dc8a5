/-! ===== the reference: tolerance ===== -/
def setW (y : Sy) (k : Nat) (r : Rl) (w : Int) : Sy := (y.1, y.2.1, y.2.2.1, y.2.2.2.1, y.2.2.2.2.set k (r.1, r.2.1, r.2.2.1, r.2.2.2.1, w))
theorem SM.setw {f : Int → Int} {y : Sy} (h : SM f 0 y) {k : Nat} {r : Rl} (hr : y.2.2.2.2[k]? = some r) {w : Int} (hw : 1 ≤ w ∧ w ≤ 20) : SM (ui f (5 + 5 * k + 4) w) 0 (setW y k r w) := by
  obtain ⟨f0, f1, f2, f3, f4, f5, a1, a2, a3, a4, a5, hc⟩ := h.facts
  have hk : k < y.2.2.2.2.length := (List.getElem?_eq_some_iff.mp hr).1
  have hrg : ∀ i, 5 ≤ i → i < 105 → R32 (f i) := fun i i0 i1 => by have := h.2.2.2 i i0 i1; rw [Int.zero_add] at this; exact this
  have es : ∀ f : Int → Int, ∀ n, rls (fun j => f (5 + j)) 0 n = rls f 5 n := fun f n => rls_ext (fun i _ _ => by show f (5 + (0 + i)) = f (5 + i); rw [Int.zero_add])
  have e9 := rls_setw (f := fun j => f (5 + j)) (g := fun j => ui f (5 + 5 * k + 4) w (5 + j)) (n := (f 2).toNat) (k := k) (w := w) (by omega) (fun j hj => ui_ne _ _ (by omega)) (by show ui f (5 + 5 * k + 4) w (5 + (5 * (k : Int) + 4)) = w; rw [show (5 : Int) + (5 * (k : Int) + 4) = 5 + 5 * k + 4 by omega, ui_same])
  rw [es, es] at e9
  have hr9 : r = rl5 f (5 + 5 * k) := by
    have := rls_at f 5 (n := (f 2).toNat) (k := k) (by omega)
    rw [← a5, hr] at this
    exact Option.some.inj this
  have okr := h.2.2.1.2.2.2.2.2 r (List.mem_of_getElem? hr)
  have e8 : rls (ui f (5 + 5 * k + 4) w) 5 (f 2).toNat = y.2.2.2.2.set k (r.1, r.2.1, r.2.2.1, r.2.2.2.1, w) := by
    rw [e9, a5, hr9]
    show (rls f 5 (f 2).toNat).set k (f (5 + 5 * (k : Int)), f (5 + (5 * (k : Int) + 1)), f (5 + (5 * (k : Int) + 2)), f (5 + (5 * (k : Int) + 3)), w) = (rls f 5 (f 2).toNat).set k (f (5 + 5 * k), f (5 + 5 * k + 1), f (5 + 5 * k + 2), f (5 + 5 * k + 3), w)
    rw [Int.add_assoc, Int.add_assoc, Int.add_assoc]
  refine h.rules (ui_ne _ _ (by omega)) (ui_ne _ _ (by omega)) (ui_ne _ _ (by omega)) (ui_ne _ _ (by omega)) (by rw [ui_ne _ _ (by omega)]; exact f4) (by rw [ui_ne _ _ (show (2 : Int) ≠ 5 + 5 * k + 4 by omega), e8]) (fun r9 h9 => ?_) (fun i i0 i1 => ?_)
  · rcases List.mem_or_eq_of_mem_set h9 with h9 | rfl
    · exact h.2.2.1.2.2.2.2.2 r9 h9
    · exact ⟨okr.1, okr.2.1, okr.2.2.1, okr.2.2.2.1, hw⟩
  · unfold ui
    split
    · omega
    · exact hrg i i0 i1
theorem set_at {rs : List Rl} {i j : Nat} {r r' r2 : Rl} (hr : rs[i]? = some r) (h : (rs.set i r')[j]? = some r2) : (j = i ∧ r2 = r') ∨ (j ≠ i ∧ rs[j]? = some r2) := by
  by_cases e : j = i
  · subst e
    rw [List.getElem?_set_self ((List.getElem?_eq_some_iff.mp hr).1)] at h
    exact Or.inl ⟨rfl, (Option.some.inj h).symm⟩
  · rw [List.getElem?_set_ne (Ne.symm e)] at h
    exact Or.inr ⟨e, h⟩
theorem setRun {rs : List Rl} {i : Nat} {r : Rl} (hr : rs[i]? = some r) {k : Int} (hk : 0 ≤ k) : ∀ {n : Nat} {p : Int} {s : List Int} {q : Int} {t : List Int} {W : Int}, Run (rs.set i (r.1, r.2.1, r.2.2.1, r.2.2.2.1, r.2.2.2.2 + k)) (-6) n p s q t W → ∃ W0 c, Run rs (-6) n p s q t W0 ∧ W = W0 + c ∧ 0 ≤ c ∧ (k ≤ c ∨ (c = 0 ∧ Run rs i n p s q t W0))
  | 0, _, _, _, _, W, ⟨a, b, c⟩ => ⟨0, 0, ⟨a, b, rfl⟩, by omega, by omega, Or.inr ⟨rfl, a, b, rfl⟩⟩
  | n + 1, p, s, q, t, W, ⟨j, r2, s', h1, h2, h3, h4, h5⟩ => by
    obtain ⟨W0, c, g1, g2, g3, g4⟩ := setRun hr hk h5
    rcases set_at hr h1 with ⟨e1, e2⟩ | ⟨e1, e2⟩
    · subst e2
      have g2 : W - (r.2.2.2.2 + k) = W0 + c := g2
      refine ⟨W0 + r.2.2.2.2, c + k, ⟨i, r, s', hr, by omega, h3, h4, ?_⟩, by omega, by omega, Or.inl (by omega)⟩
      rw [show W0 + r.2.2.2.2 - r.2.2.2.2 = W0 by omega]
      exact g1
    · refine ⟨W0 + r2.2.2.2.2, c, ⟨j, r2, s', e2, h2, h3, h4, ?_⟩, by omega, g3, g4.imp id (fun ⟨x1, x2⟩ => ⟨x1, j, r2, s', e2, by omega, h3, h4, ?_⟩)⟩
      · rw [show W0 + r2.2.2.2.2 - r2.2.2.2.2 = W0 by omega]
        exact g1
      · rw [show W0 + r2.2.2.2.2 - r2.2.2.2.2 = W0 by omega]
        exact x2
theorem setRun2 {rs : List Rl} {i : Nat} {r' : Rl} : ∀ {n : Nat} {p : Int} {s : List Int} {q : Int} {t : List Int} {W : Int}, Run rs i n p s q t W → Run (rs.set i r') (-6) n p s q t W
  | 0, _, _, _, _, _, h => h
  | n + 1, _, _, _, _, _, ⟨j, r2, s', h1, h2, h3, h4, h5⟩ => ⟨j, r2, s', by rw [List.getElem?_set_ne (fun e => h2 (by rw [e]))]; exact h1, by omega, h3, h4, setRun2 h5⟩
theorem lm_cases {y : Sy} (ok : okS y) (ex p : Int) (s : List Int) (q : Int) (t : List Int) : (∃ a, lm y.2.2.2.2 ex p s q t = some a) ∨ (lm y.2.2.2.2 ex p s q t = none ∧ ∀ W n, RW y.2.2.2.2 ex p s q t W n → 1000000 < W) := by
  have hw := okRs.w (S := y.1) (G := y.2.1) ok.2.2.2.2.2
  have hEN := EN_def
  obtain ⟨z, hz⟩ : ∃ z, TMn EN (RC BR y.2.2.2.2 ex p s q t) z := TMn.ex (fun c hc => RC.nn hw (by unfold BR; omega) hc) (by omega)
  obtain ⟨a, b, c⟩ := lm_R ok hz
  by_cases h : z < 2097154097152
  · exact Or.inl ⟨_, (b h).1⟩
  · refine Or.inr ⟨c (by omega), fun W n hr => ?_⟩
    have hl := hr.le hw
    rcases Int.lt_or_le 1000000 W with h9 | h9
    · exact h9
    · have := hz.2.2 (W * 2097152 + n) (RC_RW.mpr ⟨W, n, hr, rfl⟩) (by omega)
      omega
/-- with a rule that weighs more: the distance stays just where it is that without the rule -/
theorem tolW {y : Sy} (ok : okS y) {i : Nat} {r : Rl} (hr : y.2.2.2.2[i]? = some r) {k : Int} (hk : 0 ≤ k) (hk2 : r.2.2.2.2 + k ≤ 20) {p : Int} {s : List Int} {q : Int} {t : List Int} {D n : Int} (hl : lm y.2.2.2.2 (-6) p s q t = some (D, n)) : wv (lm (setW y i r (r.2.2.2.2 + k)).2.2.2.2 (-6) p s q t) = D ↔ k = 0 ∨ wv (lm y.2.2.2.2 i p s q t) = D := by
  have hw := okRs.w (S := y.1) (G := y.2.1) ok.2.2.2.2.2
  have okr := ok.2.2.2.2.2 r (List.mem_of_getElem? hr)
  have ok' : okS (setW y i r (r.2.2.2.2 + k)) := by
    refine ⟨ok.1, ok.2.1, ok.2.2.1, ok.2.2.2.1, ?_, fun r9 h9 => ?_⟩
    · show (y.2.2.2.2.set i _).length ≤ 20
      rw [List.length_set]
      exact ok.2.2.2.2.1
    · rcases List.mem_or_eq_of_mem_set h9 with h9 | rfl
      · exact ok.2.2.2.2.2 r9 h9
      · exact ⟨okr.1, okr.2.1, okr.2.2.1, okr.2.2.2.1, by have := okr.2.2.2.2; show 1 ≤ r.2.2.2.2 + k ∧ r.2.2.2.2 + k ≤ 20; omega⟩
  obtain ⟨g1, g2, g3⟩ := lm_some.mp hl
  have g0 := g1.le hw
  have g2 : D ≤ 1000000 := g2
  have low : ∀ W m, RW (setW y i r (r.2.2.2.2 + k)).2.2.2.2 (-6) p s q t W m → D ≤ W := fun W m ⟨N, e, hR⟩ => by
    obtain ⟨W0, c, x1, x2, x3, -⟩ := setRun hr hk hR
    have := g3 W0 m ⟨N, e, x1⟩
    have this : D < W0 ∨ (D = W0 ∧ n ≤ m) := this
    omega
  constructor
  · intro h
    rcases lm_cases ok' (-6) p s q t with ⟨a, ha⟩ | ⟨ha, -⟩
    · rw [ha] at h
      have h : a.1 = D := h
      obtain ⟨⟨N, e, hR⟩, -, -⟩ := lm_some.mp ha
      obtain ⟨W0, c, x1, x2, x3, x4⟩ := setRun hr hk hR
      have x5 := g3 W0 a.2 ⟨N, e, x1⟩
      have x5 : D < W0 ∨ (D = W0 ∧ n ≤ a.2) := x5
      rcases x4 with x4 | ⟨x4, x6⟩
      · exact Or.inl (by omega)
      · refine Or.inr ?_
        rcases lm_cases ok i p s q t with ⟨b, hb⟩ | ⟨-, hb⟩
        · rw [hb]
          show b.1 = D
          obtain ⟨⟨N2, e2, hR2⟩, -, z3⟩ := lm_some.mp hb
          have z4 := z3 W0 a.2 ⟨N, e, x6⟩
          have z5 := g3 b.1 b.2 ⟨N2, e2, hR2.mono⟩
          have z5 : D < b.1 ∨ (D = b.1 ∧ n ≤ b.2) := z5
          omega
        · have := hb W0 a.2 ⟨N, e, x6⟩
          omega
    · rw [ha] at h
      have h : -6 = D := h
      omega
  · rintro (h | h)
    · subst h
      have e : (setW y i r (r.2.2.2.2 + 0)).2.2.2.2 = y.2.2.2.2 := by
        show y.2.2.2.2.set i (r.1, r.2.1, r.2.2.1, r.2.2.2.1, r.2.2.2.2 + 0) = y.2.2.2.2
        rw [Int.add_zero]
        apply List.ext_getElem?
        intro j
        by_cases e : j = i
        · subst e
          rw [List.getElem?_set_self ((List.getElem?_eq_some_iff.mp hr).1), hr]
        · rw [List.getElem?_set_ne (Ne.symm e)]
      rw [e, hl]
      rfl
    · rcases lm_cases ok i p s q t with ⟨b, hb⟩ | ⟨hb, -⟩
      · rw [hb] at h
        have h : b.1 = D := h
        obtain ⟨⟨N2, e2, hR2⟩, -, -⟩ := lm_some.mp hb
        have r2 : RW (setW y i r (r.2.2.2.2 + k)).2.2.2.2 (-6) p s q t b.1 b.2 := ⟨N2, e2, setRun2 hR2⟩
        rcases lm_cases ok' (-6) p s q t with ⟨a, ha⟩ | ⟨-, ha⟩
        · rw [ha]
          show a.1 = D
          obtain ⟨z1, -, z3⟩ := lm_some.mp ha
          have := low _ _ z1
          have := z3 _ _ r2
          omega
        · have := ha _ _ r2
          omega
      · rw [hb] at h
        have h : -6 = D := h
        omega
theorem l_X10_tol {LO : (Int → Int) → Sy → Prop} (mem : Mem) (A : AS) (h : RJ LO mem A) (p w D : Int) (hw : R32 w) (ha : askd A.1 p w) (hD : R32 D) (k : Nat) (r : Rl) (hr : A.1.2.2.2.2[k]? = some r) (res T : Int) (hT : T = res) (hres : 0 ≤ res) (h1 : wv (lmS (setW A.1 k r (r.2.2.2.2 + res)) (-6) p (dgs w)) = D) :
    ∀ (j : Nat) (M : Mem) (v : Int), r.2.2.2.2 + (res + j) ≤ 20 → (∀ i, res < i → i ≤ res + j → wv (lmS (setW A.1 k r (r.2.2.2.2 + i)) (-6) p (dgs w)) ≠ D) → frR (um mem 117 (5 + 5 * k + 4) v) M →
    V cX10_tolerance RX10 8 (some .int) (rmk 6 152) (mE (fun q m => ∃ z, q = aI z ∧ T = z ∧ RK LO mem A m)) 56 [aR 116, aI k, aI p, aI w, aI D, aI r.2.2.2.2, aI (res + j), aI (bI False)] [] M := by
  have ok := h.1.1.2.2.1
  have okr := ok.2.2.2.2.2 r (List.mem_of_getElem? hr)
  have hk20 : k < 20 := by have := (List.getElem?_eq_some_iff.mp hr).1; have := ok.2.2.2.2.1; omega
  have rf := h.1.1.RFs.2 k r hr
  have hwt := okr.2.2.2.2
  have one : ∀ (i : Int) (M : Mem) (v : Int), 0 ≤ i → r.2.2.2.2 + i ≤ 20 → frR (um mem 117 (5 + 5 * k + 4) v) M → frR (um mem 117 (5 + 5 * k + 4) (r.2.2.2.2 + i)) (um M 117 (5 + 5 * k + 4) (r.2.2.2.2 + i)) ∧ SM (um M 117 (5 + 5 * k + 4) (r.2.2.2.2 + i) 117) 0 (setW A.1 k r (r.2.2.2.2 + i)) := fun i M v i0 i1 hf => by
    have e17 : M 117 = ui (mem 117) (5 + 5 * k + 4) v := by rw [hf.1 117 (by omega) (by decide), um_same]
    have e : ui (M 117) (5 + 5 * k + 4) (r.2.2.2.2 + i) = ui (mem 117) (5 + 5 * k + 4) (r.2.2.2.2 + i) := by
      rw [e17]
      funext x
      unfold ui
      split
      · rfl
      · rfl
    refine ⟨⟨fun q h2 h3 => ?_, fun q h2 h3 h4 => ?_⟩, by rw [um_same, e]; exact h.1.1.setw hr (by omega)⟩
    · by_cases e2 : q = 117
      · rw [e2, um_same, um_same, e]
      · rw [um_ne _ _ _ e2, um_ne _ _ _ e2, hf.1 q h2 h3, um_ne _ _ _ e2]
    · rw [um_ne _ _ _ (by decide), um_ne _ _ _ (by decide), hf.2 q h2 h3 h4, um_ne _ _ _ (by decide)]
  intro j
  induction j with
  | zero =>
    intro M v h2 h3 h4
    have e0 : res + ((0 : Nat) : Int) = res := by omega
    rw [e0] at h2 ⊢
    obtain ⟨o1, o2⟩ := one res M v hres h2 h4
    have h1b : wv (lmS (setW A.1 k r (r.2.2.2.2 + res)) (-1) p (dgs w)) = D := by unfold lmS at h1 ⊢; rw [lm_ex]; exact h1
    refine v_iload (j := 7) (q := 58) rfl dX10_tolerance_56 rfl ?_
    refine v_if_neB (tgt := 115) (q := 61) dX10_tolerance_58 (by decide) rfl (fun h58 => ?_) (fun h58 => ?_)
    · exact h58.elim
    · refine v_aload_n (j := 0) (q := 62) rfl dX10_tolerance_61 rfl ?_
      refine v_getR (p' := 117) (q := 65) dX10_tolerance_62 fl_X10_7 kd_116 rfl (rfc_10_0 kd_116) rfl ?_
      refine v_iconst (q := 66) dX10_tolerance_65 rfl ?_
      refine v_iconst (q := 67) dX10_tolerance_66 rfl ?_
      refine v_iload_n (j := 1) (q := 68) rfl dX10_tolerance_67 rfl ?_
      refine v_imul (q := 69) dX10_tolerance_68 rfl ?_
      refine v_iadd (q := 70) dX10_tolerance_69 rfl ?_
      refine v_iconst (q := 71) dX10_tolerance_70 rfl ?_
      refine v_iadd (q := 72) dX10_tolerance_71 rfl ?_
      refine v_iload (j := 5) (q := 74) rfl dX10_tolerance_72 rfl ?_
      refine v_iload (j := 6) (q := 76) rfl dX10_tolerance_74 rfl ?_
      refine v_iadd (q := 77) dX10_tolerance_76 rfl ?_
      refine v_iast (q := 78) dX10_tolerance_77 kd_117 (by omega) (by omega) rfl ?_
      refine v_aload_n (j := 0) (q := 79) rfl dX10_tolerance_78 rfl ?_
      refine v_iload_n (j := 2) (q := 80) rfl dX10_tolerance_79 rfl ?_
      refine v_iload_n (j := 3) (q := 81) rfl dX10_tolerance_80 rfl ?_
      refine v_iconst (q := 82) dX10_tolerance_81 rfl ?_
      refine v_cVI3 (q := 85) dX10_tolerance_82 mlX10_147 mdX10_distanceTo (by decide) kd_116 rfl rfl ⟨Nat.le_refl 0, Nat.le_refl 0⟩ (by exact Nat.le_of_ble_eq_true rfl) rfl (c_X10_distanceTo p w (-1) _ _ o2 ha hw (by omega)) ?_
      rw [h1b]
      rintro _ m1 ⟨g1, rfl⟩
      refine v_iload (j := 4) (q := 87) rfl dX10_tolerance_85 rfl ?_
      refine v_icmp_ne (tgt := 94) (q := 90) dX10_tolerance_87 (by decide) rfl (by omega) (by omega) (fun h87 => ?_) (fun h87 => ?_)
      · exact absurd h87 (by omega)
      · refine v_iconst (q := 91) dX10_tolerance_90 rfl ?_
        refine v_goto (q := 95) dX10_tolerance_91 (by decide) ?_
        refine v_ist7 (q := 97) rfl dX10_tolerance_95 (by decide) rfl ?_
        refine v_iload (j := 6) (q := 99) rfl dX10_tolerance_97 rfl ?_
        refine v_iload (j := 7) (q := 101) rfl dX10_tolerance_99 rfl ?_
        refine v_if_eq (tgt := 108) (q := 104) dX10_tolerance_101 (by decide) rfl (by omega) (fun h101 => ?_) (fun h101 => ?_)
        · exact absurd h101 (by omega)
        · refine v_iconst (q := 105) dX10_tolerance_104 rfl ?_
          refine v_goto (q := 109) dX10_tolerance_105 (by decide) ?_
          refine v_isub (q := 110) dX10_tolerance_109 rfl ?_
          refine v_ist6 (q := 112) rfl dX10_tolerance_110 (by decide) rfl ?_
          refine v_goto (q := 56) dX10_tolerance_112 (by decide) ?_
          rw [Int.sub_zero]
          refine v_iload (j := 7) (q := 58) rfl dX10_tolerance_56 rfl ?_
          refine v_if_ne (tgt := 115) (q := 61) dX10_tolerance_58 (by decide) rfl (by omega) (fun h58 => ?_) (fun h58 => ?_)
          · refine v_aload_n (j := 0) (q := 116) rfl dX10_tolerance_115 rfl ?_
            refine v_getR (p' := 117) (q := 119) dX10_tolerance_116 fl_X10_7 kd_116 rfl (rfc_10_0 kd_116) rfl ?_
            refine v_iconst (q := 120) dX10_tolerance_119 rfl ?_
            refine v_iconst (q := 121) dX10_tolerance_120 rfl ?_
            refine v_iload_n (j := 1) (q := 122) rfl dX10_tolerance_121 rfl ?_
            refine v_imul (q := 123) dX10_tolerance_122 rfl ?_
            refine v_iadd (q := 124) dX10_tolerance_123 rfl ?_
            refine v_iconst (q := 125) dX10_tolerance_124 rfl ?_
            refine v_iadd (q := 126) dX10_tolerance_125 rfl ?_
            refine v_iload (j := 5) (q := 128) rfl dX10_tolerance_126 rfl ?_
            refine v_iast (q := 129) dX10_tolerance_128 kd_117 (by omega) (by omega) rfl ?_
            refine v_iload (j := 6) (q := 131) rfl dX10_tolerance_129 rfl ?_
            refine v_iret dX10_tolerance_131 ?_
            refine ⟨_, rfl, hT, RK.of h ?_⟩
            have f1 := o1.trans g1
            have e17 : m1 117 = ui (mem 117) (5 + 5 * k + 4) (r.2.2.2.2 + res) := by rw [f1.1 117 (by omega) (by decide), um_same]
            refine ⟨fun q h2 h3 => ?_, fun q h2 h3 h4 => ?_⟩
            · by_cases e2 : q = 117
              · rw [e2, um_same, e17]
                funext x
                unfold ui
                by_cases e3 : x = 5 + 5 * k + 4
                · rw [if_pos e3, e3]; exact rf.2.2.2.2.symm
                · rw [if_neg e3, if_neg e3]
              · rw [um_ne _ _ _ e2, f1.1 q h2 h3, um_ne _ _ _ e2]
            · rw [um_ne _ _ _ (by decide), f1.2 q h2 h3 h4, um_ne _ _ _ (by decide)]
          · exact absurd h58 (by omega)
  | succ j ih =>
    intro M v h2 h3 h4
    obtain ⟨o1, o2⟩ := one (res + ((j + 1 : Nat) : Int)) M v (by omega) h2 h4
    have hne := h3 (res + ((j + 1 : Nat) : Int)) (by omega) (by omega)
    have h1b : wv (lmS (setW A.1 k r (r.2.2.2.2 + (res + ((j + 1 : Nat) : Int)))) (-1) p (dgs w)) ≠ D := by unfold lmS at hne ⊢; rw [lm_ex]; exact hne
    have hwr := wv_rng o2.2.2.1 (ex := -1) (p := (setW A.1 k r (r.2.2.2.2 + (res + ((j + 1 : Nat) : Int)))).2.2.1) (s := dgs (setW A.1 k r (r.2.2.2.2 + (res + ((j + 1 : Nat) : Int)))).2.2.2.1) (q := p) (t := dgs w)
    obtain ⟨d2, hd2⟩ : ∃ d2, d2 = wv (lmS (setW A.1 k r (r.2.2.2.2 + (res + ((j + 1 : Nat) : Int)))) (-1) p (dgs w)) := ⟨_, rfl⟩
    have hwr2 : -6 ≤ d2 ∧ d2 ≤ 1000000 := by rw [hd2]; exact hwr
    rw [← hd2] at h1b
    refine v_iload (j := 7) (q := 58) rfl dX10_tolerance_56 rfl ?_
    refine v_if_neB (tgt := 115) (q := 61) dX10_tolerance_58 (by decide) rfl (fun h58 => ?_) (fun h58 => ?_)
    · exact h58.elim
    · refine v_aload_n (j := 0) (q := 62) rfl dX10_tolerance_61 rfl ?_
      refine v_getR (p' := 117) (q := 65) dX10_tolerance_62 fl_X10_7 kd_116 rfl (rfc_10_0 kd_116) rfl ?_
      refine v_iconst (q := 66) dX10_tolerance_65 rfl ?_
      refine v_iconst (q := 67) dX10_tolerance_66 rfl ?_
      refine v_iload_n (j := 1) (q := 68) rfl dX10_tolerance_67 rfl ?_
      refine v_imul (q := 69) dX10_tolerance_68 rfl ?_
      refine v_iadd (q := 70) dX10_tolerance_69 rfl ?_
      refine v_iconst (q := 71) dX10_tolerance_70 rfl ?_
      refine v_iadd (q := 72) dX10_tolerance_71 rfl ?_
      refine v_iload (j := 5) (q := 74) rfl dX10_tolerance_72 rfl ?_
      refine v_iload (j := 6) (q := 76) rfl dX10_tolerance_74 rfl ?_
      refine v_iadd (q := 77) dX10_tolerance_76 rfl ?_
      refine v_iast (q := 78) dX10_tolerance_77 kd_117 (by omega) (by omega) rfl ?_
      refine v_aload_n (j := 0) (q := 79) rfl dX10_tolerance_78 rfl ?_
      refine v_iload_n (j := 2) (q := 80) rfl dX10_tolerance_79 rfl ?_
      refine v_iload_n (j := 3) (q := 81) rfl dX10_tolerance_80 rfl ?_
      refine v_iconst (q := 82) dX10_tolerance_81 rfl ?_
      refine v_cVI3 (q := 85) dX10_tolerance_82 mlX10_147 mdX10_distanceTo (by decide) kd_116 rfl rfl ⟨Nat.le_refl 0, Nat.le_refl 0⟩ (by exact Nat.le_of_ble_eq_true rfl) rfl (c_X10_distanceTo p w (-1) _ _ o2 ha hw (by omega)) ?_
      rw [← hd2]
      rintro _ m1 ⟨g1, rfl⟩
      refine v_iload (j := 4) (q := 87) rfl dX10_tolerance_85 rfl ?_
      refine v_icmp_ne (tgt := 94) (q := 90) dX10_tolerance_87 (by decide) rfl (by omega) (by omega) (fun h87 => ?_) (fun h87 => ?_)
      · refine v_iconst (q := 95) dX10_tolerance_94 rfl ?_
        refine v_ist7 (q := 97) rfl dX10_tolerance_95 (by decide) rfl ?_
        refine v_iload (j := 6) (q := 99) rfl dX10_tolerance_97 rfl ?_
        refine v_iload (j := 7) (q := 101) rfl dX10_tolerance_99 rfl ?_
        refine v_if_eq (tgt := 108) (q := 104) dX10_tolerance_101 (by decide) rfl (by omega) (fun h101 => ?_) (fun h101 => ?_)
        · refine v_iconst (q := 109) dX10_tolerance_108 rfl ?_
          refine v_isub (q := 110) dX10_tolerance_109 rfl ?_
          refine v_ist6 (q := 112) rfl dX10_tolerance_110 (by decide) rfl ?_
          refine v_goto (q := 56) dX10_tolerance_112 (by decide) ?_
          have hk := ih m1 _ (by omega) (fun i i0 i1 => h3 i i0 (by omega)) (o1.trans g1)
          rw [← bI_0] at hk
          rw [show res + ((j + 1 : Nat) : Int) - 1 = res + j by omega]
          exact hk
        · exact absurd h101 (by omega)
      · exact absurd h87 (by omega)
theorem c_X10_tolerance {LO : (Int → Int) → Sy → Prop} (r p w : Int) (mem : Mem) (A : AS) (h : RJ LO mem A) (hr : R32 r) (hp : R32 p) (hw : R32 w) : CtrI mX10_tolerance [aR 116, aI r, aI p, aI w] mem (fun z m => sTol A.1 r p w = z ∧ RK LO mem A m) := by
  have ok := h.1.1.2.2.1
  have f := h.1.1.facts
  have e1 := f.2.2.2.2.2.2.2.2.2.2.2
  have hwr : R32 (wv (lmS A.1 (-1) p (dgs w))) := (by have := wv_rng ok (ex := -1) (p := A.1.2.2.1) (s := dgs A.1.2.2.2.1) (q := p) (t := dgs w); unfold lmS; omega)
  have hex : wv (lmS A.1 (-6) p (dgs w)) = wv (lmS A.1 (-1) p (dgs w)) := by unfold lmS; rw [lm_ex]
  refine Ctr.ofV (ls := [aR 116, aI r, aI p, aI w, aU, aU, aU, aU]) rfl (by decide) rfl (Nat.le_of_ble_eq_true rfl) ?_
  refine v_aload_n (j := 0) (q := 1) rfl dX10_tolerance_0 rfl ?_
  refine v_iload_n (j := 1) (q := 2) rfl dX10_tolerance_1 rfl ?_
  refine v_cVI1 (q := 5) dX10_tolerance_2 mlX10_85 mdX10_isRule (by decide) kd_116 rfl rfl ⟨Nat.le_refl 0, Nat.le_refl 0⟩ (by exact Nat.le_of_ble_eq_true rfl) rfl (c_X10_isRule r mem hr (by omega)) ?_
  rw [← e1]
  rintro _ _ ⟨rfl, rfl⟩
  refine v_if_eqB (tgt := 17) (q := 8) dX10_tolerance_5 (by decide) rfl (fun h5 => ?_) (fun h5 => ?_)
  · refine v_iconst (q := 18) dX10_tolerance_17 rfl ?_
    refine v_iret dX10_tolerance_18 ?_
    first
      | exact ⟨_, rfl, by unfold sTol; rw [if_neg (fun hk => h5 hk.1)], RK.of h (frR.refl _)⟩
      | exact ⟨_, rfl, by unfold sTol; rw [if_neg (fun hk => h14 hk.2)], RK.of h (frR.refl _)⟩
  · refine v_aload_n (j := 0) (q := 9) rfl dX10_tolerance_8 rfl ?_
    refine v_iload_n (j := 2) (q := 10) rfl dX10_tolerance_9 rfl ?_
    refine v_iload_n (j := 3) (q := 11) rfl dX10_tolerance_10 rfl ?_
    refine v_cVI2 (q := 14) dX10_tolerance_11 mlX10_143 mdX10_isAsked (by decide) kd_116 rfl rfl ⟨Nat.le_refl 0, Nat.le_refl 0⟩ (by exact Nat.le_of_ble_eq_true rfl) rfl (c_X10_isAsked p w mem A.1 h.1.1 hp hw) ?_
    rintro _ _ ⟨rfl, rfl⟩
    refine v_if_neB (tgt := 19) (q := 17) dX10_tolerance_14 (by decide) rfl (fun h14 => ?_) (fun h14 => ?_)
    · refine v_aload_n (j := 0) (q := 20) rfl dX10_tolerance_19 rfl ?_
      refine v_iload_n (j := 2) (q := 21) rfl dX10_tolerance_20 rfl ?_
      refine v_iload_n (j := 3) (q := 22) rfl dX10_tolerance_21 rfl ?_
      refine v_iconst (q := 23) dX10_tolerance_22 rfl ?_
      refine v_cVI3 (q := 26) dX10_tolerance_23 mlX10_147 mdX10_distanceTo (by decide) kd_116 rfl rfl ⟨Nat.le_refl 0, Nat.le_refl 0⟩ (by exact Nat.le_of_ble_eq_true rfl) rfl (c_X10_distanceTo p w (-1) mem A.1 h.1.1 h14 hw (by omega)) ?_
      rintro _ m1 ⟨g1, rfl⟩
      have e17 : m1 117 = mem 117 := g1.1 117 (by omega) (by decide)
      refine v_ist4 (q := 28) rfl dX10_tolerance_26 (by decide) rfl ?_
      refine v_iload (j := 4) (q := 30) rfl dX10_tolerance_28 rfl ?_
      refine v_bipush (q := 32) (by decide) dX10_tolerance_30 rfl ?_
      refine v_icmp_ne (tgt := 38) (q := 35) dX10_tolerance_32 (by decide) rfl (by omega) (by omega) (fun h32 => ?_) (fun h32 => ?_)
      · refine v_aload_n (j := 0) (q := 39) rfl dX10_tolerance_38 rfl ?_
        refine v_iload_n (j := 1) (q := 40) rfl dX10_tolerance_39 rfl ?_
        refine v_iconst (q := 41) dX10_tolerance_40 rfl ?_
        refine v_cVI2 (q := 44) dX10_tolerance_41 mlX10_67 mdX10_of (by decide) kd_116 rfl rfl ⟨Nat.le_refl 0, Nat.le_refl 0⟩ (by exact Nat.le_of_ble_eq_true rfl) rfl (c_X10_of r 4 m1 (by omega) (by omega)) ?_
        rintro _ _ ⟨rfl, rfl⟩
        rw [e17]
        refine v_ist5 (q := 46) rfl dX10_tolerance_44 (by decide) rfl ?_
        refine v_bipush (q := 48) (by decide) dX10_tolerance_46 rfl ?_
        refine v_iload (j := 5) (q := 50) rfl dX10_tolerance_48 rfl ?_
        refine v_isub (q := 51) dX10_tolerance_50 rfl ?_
        refine v_ist6 (q := 53) rfl dX10_tolerance_51 (by decide) rfl ?_
        refine v_iconst (q := 54) dX10_tolerance_53 rfl ?_
        refine v_ist7 (q := 56) rfl dX10_tolerance_54 (by decide) rfl ?_
        obtain ⟨k, rfl⟩ : ∃ k : Nat, (k : Int) = r := ⟨r.toNat, by omega⟩
        have hkl : k < A.1.2.2.2.2.length := by omega
        obtain ⟨rl, hrl⟩ : ∃ rl, rl = A.1.2.2.2.2[k] := ⟨_, rfl⟩
        have hr2 : A.1.2.2.2.2[k]? = some rl := by rw [hrl]; exact List.getElem?_eq_getElem hkl
        have rf := h.1.1.RFs.2 k rl hr2
        have okr := ok.2.2.2.2.2 rl (List.mem_of_getElem? hr2)
        have hwt := okr.2.2.2.2
        have e4 : mem 117 (5 + 5 * (k : Int) + 4) = rl.2.2.2.2 := rf.2.2.2.2
        have hnn : ¬ lmS A.1 (-6) p (dgs w) = none := fun e => h32 (by rw [← hex, e]; rfl)
        obtain ⟨a, hla⟩ : ∃ a, lmS A.1 (-6) p (dgs w) = some a := by
          match e : lmS A.1 (-6) p (dgs w) with
          | none => exact absurd e hnn
          | some a => exact ⟨a, rfl⟩
        have hD : wv (lmS A.1 (-1) p (dgs w)) = a.1 := by rw [← hex, hla]; rfl
        have key : ∀ i, 0 ≤ i → rl.2.2.2.2 + i ≤ 20 → (wv (lmS (setW A.1 k rl (rl.2.2.2.2 + i)) (-6) p (dgs w)) = a.1 ↔ i = 0 ∨ wv (lmS A.1 k p (dgs w)) = a.1) := fun i i0 i1 => tolW ok hr2 i0 i1 (show lm A.1.2.2.2.2 (-6) A.1.2.2.1 (dgs A.1.2.2.2.1) p (dgs w) = some (a.1, a.2) from hla)
        have sT : ∀ res, res = (if wv (lmS A.1 k p (dgs w)) = wv (lmS A.1 (-6) p (dgs w)) then 20 - rl.2.2.2.2 else 0) → sTol A.1 k p w = res := fun res hres => by
          unfold sTol
          rw [if_pos ⟨h5, h14⟩, if_neg hnn, hres, show A.1.2.2.2.2.getD (k : Int).toNat (0, 0, 0, 0, 0) = rl by rw [List.getD_eq_getElem?_getD, show (k : Int).toNat = k by omega, hr2]; rfl]
        have hDr : R32 a.1 := by rw [← hD]; exact hwr
        rw [e4, hD]
        have f0 : frR (um mem 117 (5 + 5 * k + 4) rl.2.2.2.2) m1 := by
          rw [← rf.2.2.2.2, um_id]
          exact g1
        by_cases hsp : wv (lmS A.1 k p (dgs w)) = a.1
        · have hk2 := l_X10_tol mem A h p w a.1 hw h14 hDr k rl hr2 (20 - rl.2.2.2.2) (sTol A.1 k p w) (sT _ (by rw [if_pos (by rw [hsp, hla]; rfl)])) (by omega) ((key _ (by omega) (by omega)).mpr (Or.inr hsp)) 0 m1 rl.2.2.2.2 (by omega) (fun i i0 i1 => by omega) f0
          rw [← bI_0, show 20 - rl.2.2.2.2 + ((0 : Nat) : Int) = 20 - rl.2.2.2.2 by omega] at hk2
          exact hk2
        · have hk2 := l_X10_tol mem A h p w a.1 hw h14 hDr k rl hr2 0 (sTol A.1 k p w) (sT 0 (by rw [if_neg (by rw [hex, hD]; exact hsp)])) (by omega) ((key _ (by omega) (by omega)).mpr (Or.inl rfl)) (20 - rl.2.2.2.2).toNat m1 rl.2.2.2.2 (by omega) (fun i i0 i1 => fun e => by
            rcases (key i (by omega) (by omega)).mp e with e2 | e2
            · omega
            · exact hsp e2) f0
          rw [← bI_0, show (0 : Int) + ((20 - rl.2.2.2.2).toNat : Int) = 20 - rl.2.2.2.2 by omega] at hk2
          exact hk2
      · refine v_bipush (q := 37) (by decide) dX10_tolerance_35 rfl ?_
        refine v_iret dX10_tolerance_37 ?_
        exact ⟨_, rfl, by unfold sTol; rw [if_pos ⟨h5, h14⟩, if_pos (show lmS A.1 (-6) p (dgs w) = none from wv_none ok (show wv (lmS A.1 (-6) p (dgs w)) = -6 by rw [hex]; exact h32))], RK.of h g1⟩
    · refine v_iconst (q := 18) dX10_tolerance_17 rfl ?_
      refine v_iret dX10_tolerance_18 ?_
      first
        | exact ⟨_, rfl, by unfold sTol; rw [if_neg (fun hk => h5 hk.1)], RK.of h (frR.refl _)⟩
        | exact ⟨_, rfl, by unfold sTol; rw [if_neg (fun hk => h14 hk.2)], RK.of h (frR.refl _)⟩
