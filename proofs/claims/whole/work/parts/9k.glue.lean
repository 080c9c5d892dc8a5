/-! ===== the class and the reference side by side ===== -/
def KR (m : Mem) (A : AS) : Prop := KI MO m A ∧ RJ LOK m A
theorem CA_frC {mem m : Mem} {y y' : Sy} (h : CA MO mem y) (hf : frC mem m) : CA MO m y' := by
  obtain ⟨a, b, c, d, e, f, g⟩ := h
  obtain ⟨f1, f2, f3, f4⟩ := hf
  exact ⟨Or.inl f1, Or.inl (by rw [f2, ui_same]), Or.inl f3, by rw [f2, ui_ne _ _ (by omega)]; exact d, by rw [f4 54 (by omega)]; exact e, by rw [f4 66 (by omega)]; exact f, g.congr (f4 27 (by omega)) (f4 28 (by omega))⟩
theorem CQ.KI {mem m : Mem} {A : AS} {zA : Int × AS} {z : Int} (h : KI MO mem A) (hq : CQ mem A zA z m) : KI MO m zA.2 ∧ ∀ q, 116 ≤ q → m q = mem q := by
  obtain ⟨-, s, hf | ⟨e, hf⟩⟩ := hq
  · exact ⟨⟨s, CA_frC h.2 hf⟩, fun q hq => hf.2.2.2 q (by omega)⟩
  · refine ⟨⟨s, ?_⟩, fun q hq => hf q (by omega)⟩
    rw [e]
    exact h.2.congr MO_c (fun p hp => hf p (by omega)) (by rw [hf 54 (by omega)]) (by rw [hf 66 (by omega)])
theorem RJ.congr {mem m : Mem} {A : AS} (h : RJ LOK mem A) (h1 : ∀ q, 116 ≤ q → m q = mem q) : RJ LOK m A := by
  obtain ⟨⟨a, b, c⟩, d⟩ := h
  refine ⟨⟨by rw [h1 117 (by omega)]; exact a, by rw [h1 118 (by omega), h1 116 (by omega)]; exact b, ?_⟩, by rw [h1 116 (by omega), h1 123 (by omega)]; exact d⟩
  unfold TX
  rw [h1 116 (by omega), h1 119 (by omega)]
  exact c
theorem KI.congr9 {mem m : Mem} {A : AS} (h : KI MO mem A) (h1 : ∀ q, q < 116 → m q = mem q) : KI MO m A :=
  ⟨h.1.congr (fun q a b _ _ => h1 q (by omega)), h.2.congr MO_c (fun p hp => h1 p (by omega)) (by rw [h1 54 (by omega)]) (by rw [h1 66 (by omega)])⟩
theorem RQ.RJ {mem m : Mem} {A : AS} {zA : Int × AS} {z : Int} (h : RJ LOK mem A) (hq : RQ mem A zA z m) : RJ LOK m zA.2 ∧ ∀ q, q < 116 → m q = mem q := by
  obtain ⟨-, r, f, hf⟩ := hq
  refine ⟨⟨r, ?_⟩, f⟩
  rcases hf with hf | ⟨e, f1, f2⟩
  · exact Or.inl hf
  · rw [f1, f2, e]
    exact h.2
/-- behind a call of the class: its answer, and what is kept for the reference -/
theorem KR.cq {mem m : Mem} {A : AS} {zA : Int × AS} {z : Int} (h : KR mem A) (hq : CQ mem A zA z m) : zA.1 = z ∧ KI MO m zA.2 ∧ RJ LOK m A := ⟨hq.1, (CQ.KI h.1 hq).1, h.2.congr (CQ.KI h.1 hq).2⟩
theorem KR.rq {mem m : Mem} {A : AS} {zA : Int × AS} {z : Int} (h1 : KI MO mem zA.2) (h2 : RJ LOK mem A) (hq : RQ mem A zA z m) : zA.1 = z ∧ KR m zA.2 := ⟨hq.1, h1.congr9 (RQ.RJ h2 hq).2, (RQ.RJ h2 hq).1⟩
theorem KR.kq {mem m : Mem} {A : AS} (h : KR mem A) (hq : KQ MO mem A m) : KI MO m A ∧ RJ LOK m A := ⟨⟨hq.1, hq.2.1⟩, h.2.congr hq.2.2⟩
theorem KR.rk {mem m : Mem} {A : AS} (h1 : KI MO mem A) (hq : RK LOK mem A m) : KR m A := ⟨h1.congr9 hq.2, hq.1⟩
/-- a witness has one answer -/
theorem sWit.det {y : Sy} {p w k what z z2 : Int} (h : sWit y p w k what z) (h2 : sWit y p w k what z2) : z = z2 := by
  rcases h with ⟨a, b⟩ | ⟨a, h⟩
  · rcases h2 with ⟨a2, b2⟩ | ⟨a2, -⟩
    · omega
    · exact absurd a2 a
  · rcases h2 with ⟨a2, -⟩ | ⟨-, h2⟩
    · exact absurd a a2
    · rcases h with ⟨c, d⟩ | ⟨c, h⟩
      · rcases h2 with ⟨c2, d2⟩ | ⟨c2, -⟩
        · omega
        · exact absurd c2 c
      · rcases h2 with ⟨c2, -⟩ | ⟨-, h2⟩
        · exact absurd c c2
        · rcases h with ⟨e, f⟩ | ⟨W, n, e, h⟩
          · rcases h2 with ⟨e2, f2⟩ | ⟨W2, n2, e2, -⟩
            · omega
            · rw [e] at e2; cases e2
          · rcases h2 with ⟨e2, f2⟩ | ⟨W2, n2, e2, h2⟩
            · rw [e] at e2; cases e2
            · rw [e] at e2
              have e3 := Option.some.inj e2
              have e4 : W = W2 := congrArg Prod.fst e3
              have e5 : n = n2 := congrArg Prod.snd e3
              subst e4; subst e5
              rcases h with ⟨g, i⟩ | ⟨g, a1, j1, b1, w1, w2, w3⟩
              · rcases h2 with ⟨g2, i2⟩ | ⟨g2, -⟩
                · omega
                · omega
              · rcases h2 with ⟨g2, -⟩ | ⟨-, a3, j3, b3, x1, x2, x3⟩
                · omega
                · have q1 := w1.det x1
                  subst q1
                  have q2 := (w2.det x2).1
                  rw [w3, x3, q2]
theorem n64_iff (r : UInt64) : vf_n64 r ↔ FP.Core.dIsNaN r = false := by
  have h0 := FP.Core.isNaN_bits r
  have h1 : vf_n64 r ↔ r.toNat % 2 ^ 63 ≤ 9218868437227405312 := by
    unfold vf_n64
    rw [UInt64.le_iff_toNat_le, UInt64.toNat_and]
    have e1 : (0x7fffffffffffffff : UInt64).toNat = 2 ^ 63 - 1 := by decide
    have e2 : (0x7ff0000000000000 : UInt64).toNat = 9218868437227405312 := by decide
    rw [e1, e2, Nat.and_two_pow_sub_one_eq_mod]
  rw [h1]
  cases h : FP.Core.dIsNaN r
  · rw [h] at h0
    refine ⟨fun _ => rfl, fun _ => Nat.not_lt.mp (fun h9 => absurd (h0.mpr h9) (by decide))⟩
  · rw [h] at h0
    exact ⟨fun h9 => absurd (h0.mp rfl) (Nat.not_lt.mpr h9), fun h9 => absurd h9 (by decide)⟩
theorem nn_f2d {a : UInt32} (h : vf_n32 a) : vf_n64 (FP.f2d a) := by
  rw [n64_iff]
  have := FP.f2d_nan a
  rw [n32_iff] at h
  exact this.trans h
theorem dcmp_same {a : UInt64} (h : vf_n64 a) : Op.cmpValue (FP.dcmp a a) .l = Int32.ofInt 0 := by
  rw [n64_iff] at h
  have e : FP.dcmp a a = some .eq := FP.Core.dcmp_self ((FP.Core.notNaN_iff a).mp h)
  rw [e]
  rfl
/-- the mean is no NaN -/
theorem sMean_nn {y : Sy} (ok : okS y) (p w : Int) : vf_n32 (sMean y p w) := by
  have hw := okRs.w (S := y.1) (G := y.2.1) ok.2.2.2.2.2
  unfold sMean
  split
  · split
    · rename_i a ha
      split
      · unfold vf_n32; decide +kernel
      · rename_i h0
        obtain ⟨h1, h2, -⟩ := lm_some.mp ha
        have l := h1.le hw
        exact nn_div (by omega)
    · unfold vf_n32; decide +kernel
  · unfold vf_n32; decide +kernel
