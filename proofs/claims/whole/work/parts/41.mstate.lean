/-! ===== The state of the reference ===== -/
def syM (f : Int → Int) (o : Int) : Sy := (f o, f (o + 1), f (o + 3), f (o + 4), rls f (o + 5) (f (o + 2)).toNat)
def SM (f : Int → Int) (o : Int) (y : Sy) : Prop := y = syM f o ∧ (0 ≤ f (o + 2) ∧ f (o + 2) ≤ 20) ∧ okS y ∧ ∀ i, 5 ≤ i → i < 105 → R32 (f (o + i))
theorem SM.congr {f g : Int → Int} {o u : Int} {y : Sy} (h : SM f o y) (e : ∀ i, 0 ≤ i → i < 105 → g (u + i) = f (o + i)) : SM g u y := by
  obtain ⟨a, c, ok, r⟩ := h
  have e0 := e 0 (by omega) (by omega)
  rw [Int.add_zero, Int.add_zero] at e0
  refine ⟨?_, by rw [e 2 (by omega) (by omega)]; exact c, ok, fun i i0 i1 => by rw [e i (by omega) i1]; exact r i i0 i1⟩
  rw [a]
  unfold syM
  rw [e0, e 1 (by omega) (by omega), e 2 (by omega) (by omega), e 3 (by omega) (by omega), e 4 (by omega) (by omega)]
  congr 4
  apply rls_ext
  intro i i0 i1
  rw [Int.add_assoc, Int.add_assoc]
  exact (e (5 + i) (by omega) (by omega)).symm
def HM (f : Int → Int) (n : Int) (hs : List Sy) : Prop := n = hs.length ∧ hs.length ≤ 8 ∧ ∀ i : Nat, (h : i < hs.length) → SM f (105 * (i : Int)) hs[i]
def TX (m : Mem) (t : List Int) : Prop := m 116 5 = t.length ∧ t.length ≤ 200 ∧ (∀ i : Nat, i < t.length → m 119 i = t.getD i 0) ∧ ∀ c ∈ t, 32 ≤ c ∧ c ≤ 126
def RI (m : Mem) (A : AS) : Prop := SM (m 117) 0 A.1 ∧ HM (m 118) (m 116 2) A.2.1 ∧ TX m A.2.2
/-- behind a call of the reference -/
def RQ (mem : Mem) (A : AS) (zA : Int × AS) (z : Int) (m : Mem) : Prop := zA.1 = z ∧ RI m zA.2 ∧ (∀ q, q < 116 → m q = mem q) ∧ (m 116 3 = 0 ∨ (zA.2.1 = A.1 ∧ m 116 3 = mem 116 3 ∧ m 123 = mem 123))
theorem SM.facts {f : Int → Int} {y : Sy} (h : SM f 0 y) : (1 ≤ f 0 ∧ f 0 ≤ 4) ∧ (1 ≤ f 1 ∧ f 1 ≤ 5) ∧ (0 ≤ f 3 ∧ f 3 < f 0) ∧ (isW (f 4) (f 1) ∧ 1 ≤ nd (f 4) ∧ nd (f 4) ≤ 4) ∧ (0 ≤ f 2 ∧ f 2 ≤ 20) ∧ (0 ≤ f 4 ∧ f 4 ≤ 9999) ∧ y.1 = f 0 ∧ y.2.1 = f 1 ∧ y.2.2.1 = f 3 ∧ y.2.2.2.1 = f 4 ∧ y.2.2.2.2 = rls f 5 (f 2).toNat ∧ (y.2.2.2.2.length : Int) = f 2 := by
  obtain ⟨rfl, c, ok, r⟩ := h
  have h3 := nd_bound 4 ok.2.2.2.1.1.1 ok.2.2.2.1.2.2
  have h4 : (10 : Int) ^ 4 = 10000 := by decide
  have h5 := ok.2.2.2.1.1.1
  rw [h4] at h3
  refine ⟨ok.1, ok.2.1, ok.2.2.1, ok.2.2.2.1, c, ⟨h5, by change f 4 < 10000 at h3; omega⟩, rfl, rfl, rfl, rfl, rfl, ?_⟩
  show ((rls f 5 (f 2).toNat).length : Int) = f 2
  rw [rls_len]
  have c2 : 0 ≤ f 2 ∧ f 2 ≤ 20 := c
  omega
theorem HM.push {f g w : Int → Int} {n : Int} {hs : List Sy} {y : Sy} (h : HM f n hs) (hy : SM w 0 y) (hn : n < 8) (hg : g = cpF f w (105 * n)) : HM g (n + 1) (hpush hs y) := by
  obtain ⟨a, b, c⟩ := h
  subst hg
  unfold hpush
  rw [if_pos (by omega)]
  refine ⟨by rw [List.length_append]; simp; omega, by rw [List.length_append]; simp; omega, fun i hi => ?_⟩
  by_cases hi2 : i < hs.length
  · rw [List.getElem_append_left hi2]
    exact (c i hi2).congr (fun j j0 j1 => by unfold cpF; rw [if_neg (by omega)])
  · have hi3 : i = hs.length := by simp at hi; omega
    subst hi3
    rw [List.getElem_append_right (Nat.le_refl _)]
    simp only [Nat.sub_self, List.getElem_cons_zero]
    exact hy.congr (fun j j0 j1 => by unfold cpF; rw [if_pos (by omega)]; congr 1; omega)
theorem HM.shift {f w : Int → Int} {hs : List Sy} {y : Sy} (h : HM f 8 hs) (hy : SM w 0 y) : HM (cpF (shF f) w 735) 8 (hpush hs y) := by
  obtain ⟨a, b, c⟩ := h
  unfold hpush
  rw [if_neg (by omega)]
  have hl : (hs.drop 1).length = 7 := by simp; omega
  refine ⟨by rw [List.length_append, hl]; rfl, by rw [List.length_append, hl]; simp, fun i hi => ?_⟩
  by_cases hi2 : i < 7
  · rw [List.getElem_append_left (by omega), List.getElem_drop]
    exact (c (1 + i) (by omega)).congr (fun j j0 j1 => by
      unfold cpF shF
      rw [if_neg (by omega), if_pos (by omega)]
      congr 1
      omega)
  · have hi3 : i = 7 := by simp at hi; omega
    subst hi3
    rw [List.getElem_append_right (by omega)]
    simp only [hl, Nat.sub_self, List.getElem_cons_zero]
    exact hy.congr (fun j j0 j1 => by unfold cpF; rw [if_pos (by omega)]; congr 1; omega)
theorem RI.keep {m : Mem} {A : AS} (h : RI m A) : (∀ q, q ≠ 116 → q ≠ 118 → kpM m q = m q) ∧ kpM m 116 3 = 0 ∧ (∀ j, j ≠ 2 → j ≠ 3 → kpM m 116 j = m 116 j) ∧ HM (kpM m 118) (kpM m 116 2) (hpush A.2.1 A.1) ∧ 0 ≤ m 116 2 ∧ m 116 2 ≤ 8 := by
  obtain ⟨h1, h2, h3⟩ := h
  have b : 0 ≤ m 116 2 ∧ m 116 2 ≤ 8 := by have := h2.1; have := h2.2.1; omega
  unfold kpM
  by_cases h8 : m 116 2 = 8
  · rw [if_pos h8]
    refine ⟨fun q q1 q2 => by rw [um_ne _ _ _ q1, sm_ne _ _ q2, um_ne _ _ _ q1, sm_ne _ _ q2, um_ne _ _ _ q1], ?_, fun j j1 j2 => ?_, ?_, b.1, b.2⟩
    · rw [um_same, ui_ne _ _ (by omega), sm_ne _ _ (by decide), um_same, ui_ne _ _ (by omega), sm_ne _ _ (by decide), um_same, ui_same]
    · rw [um_same, ui_ne _ _ j1, sm_ne _ _ (by decide), um_same, ui_ne _ _ j1, sm_ne _ _ (by decide), um_same, ui_ne _ _ j2]
    · rw [um_ne _ _ _ (by decide), sm_same, um_same, ui_same]
      rw [h8] at h2
      exact h2.shift h1
  · rw [if_neg h8]
    refine ⟨fun q q1 q2 => by rw [um_ne _ _ _ q1, sm_ne _ _ q2, um_ne _ _ _ q1], ?_, fun j j1 j2 => ?_, ?_, b.1, b.2⟩
    · rw [um_same, ui_ne _ _ (by omega), sm_ne _ _ (by decide), um_same, ui_same]
    · rw [um_same, ui_ne _ _ j1, sm_ne _ _ (by decide), um_same, ui_ne _ _ j2]
    · rw [um_ne _ _ _ (by decide), sm_same, um_same, ui_same]
      exact h2.push h1 (by omega) rfl
/-- behind a kept change that touches w alone -/
theorem RQ_change {mem m : Mem} {A : AS} {y : Sy} {z : Int} (h : RI mem A) (k0 : ∀ r, r ≠ 117 → m r = kpM mem r) (hS : SM (m 117) 0 y) : RQ mem A (z, (y, hpush A.2.1 A.1, A.2.2)) z m := by
  obtain ⟨r1, r2, r3, r4, -⟩ := h.keep
  refine ⟨rfl, ⟨hS, by rw [k0 118 (by decide), k0 116 (by decide)]; exact r4, ?_⟩, fun q hq => by rw [k0 q (by omega), r1 q (by omega) (by omega)], Or.inl (by rw [k0 116 (by decide)]; exact r2)⟩
  have h3 := h.2.2
  unfold TX at h3 ⊢
  rw [k0 116 (by decide), k0 119 (by decide), r3 5 (by omega) (by omega), r1 119 (by decide) (by decide)]
  exact h3
theorem RQ_same {mem : Mem} {A : AS} {z : Int} (h : RI mem A) : RQ mem A (z, A) z mem := ⟨rfl, h, fun _ _ => rfl, Or.inr ⟨rfl, rfl, rfl⟩⟩
theorem c_X10_begin (s g : Int) (mem : Mem) (A : AS) (h : RI mem A) (hs : R32 s) (hg : R32 g) : CtrI mX10_begin [aR 116, aI s, aI g] mem (RQ mem A (sBegin A s g)) := by
  obtain ⟨r1, r2, r3, r4, r5, r6⟩ := h.keep
  have f := h.1.facts
  have k7 := r1 117 (by decide) (by decide)
  refine Ctr.ofV (ls := [aR 116, aI s, aI g, aU]) rfl (by decide) rfl (Nat.le_of_ble_eq_true rfl) ?_
  refine v_iload_n (j := 1) (q := 1) rfl dX10_begin_0 rfl ?_
  refine v_iconst (q := 2) dX10_begin_1 rfl ?_
  refine v_iconst (q := 3) dX10_begin_2 rfl ?_
  refine v_cSI3 (q := 6) dX10_begin_3 mlX10_44 mdX10_isIn (by decide) ⟨Nat.le_refl 0, Nat.le_refl 0⟩ (by exact Nat.le_of_ble_eq_true rfl) rfl (c_X10_isIn _ _ _ mem hs (by omega) (by omega)) ?_
  rintro _ _ ⟨rfl, rfl⟩
  refine v_if_eqB (tgt := 18) (q := 9) dX10_begin_6 (by decide) rfl (fun h6 => ?_) (fun h6 => ?_)
  · refine v_bipush (q := 20) (by decide) dX10_begin_18 rfl ?_
    refine v_iret dX10_begin_20 ?_
    refine ⟨_, rfl, ?_⟩
    unfold sBegin
    rw [if_neg (by omega)]
    exact RQ_same h
  · refine v_iload_n (j := 2) (q := 10) rfl dX10_begin_9 rfl ?_
    refine v_iconst (q := 11) dX10_begin_10 rfl ?_
    refine v_iconst (q := 12) dX10_begin_11 rfl ?_
    refine v_cSI3 (q := 15) dX10_begin_12 mlX10_44 mdX10_isIn (by decide) ⟨Nat.le_refl 0, Nat.le_refl 0⟩ (by exact Nat.le_of_ble_eq_true rfl) rfl (c_X10_isIn _ _ _ mem hg (by omega) (by omega)) ?_
    rintro _ _ ⟨rfl, rfl⟩
    refine v_if_neB (tgt := 21) (q := 18) dX10_begin_15 (by decide) rfl (fun h15 => ?_) (fun h15 => ?_)
    · refine v_aload_n (j := 0) (q := 22) rfl dX10_begin_21 rfl ?_
      refine v_cVV0 (q := 25) dX10_begin_22 mlX10_64 mdX10_keep (by decide) kd_116 rfl rfl ⟨Nat.le_refl 0, Nat.le_refl 0⟩ (by exact Nat.le_of_ble_eq_true rfl) rfl (c_X10_keep mem r5 r6) ?_
      rintro _ rfl
      refine v_aload_n (j := 0) (q := 26) rfl dX10_begin_25 rfl ?_
      refine v_getR (p' := 117) (q := 29) dX10_begin_26 fl_X10_7 kd_116 rfl (rfc_10_0 kd_116) rfl ?_
      refine v_iconst (q := 30) dX10_begin_29 rfl ?_
      refine v_iald (q := 31) dX10_begin_30 kd_117 (by omega) (by omega) rfl ?_
      rw [k7]
      refine v_ist3 (q := 32) rfl dX10_begin_31 (by decide) rfl ?_
      refine v_aload_n (j := 0) (q := 33) rfl dX10_begin_32 rfl ?_
      refine v_getR (p' := 117) (q := 36) dX10_begin_33 fl_X10_7 kd_116 rfl (rfc_10_0 kd_116) rfl ?_
      refine v_iconst (q := 37) dX10_begin_36 rfl ?_
      refine v_iload_n (j := 1) (q := 38) rfl dX10_begin_37 rfl ?_
      refine v_iast (q := 39) dX10_begin_38 kd_117 (by omega) (by omega) rfl ?_
      refine v_aload_n (j := 0) (q := 40) rfl dX10_begin_39 rfl ?_
      refine v_getR (p' := 117) (q := 43) dX10_begin_40 fl_X10_7 kd_116 rfl (rfc_10_0 kd_116) rfl ?_
      refine v_iconst (q := 44) dX10_begin_43 rfl ?_
      refine v_iload_n (j := 2) (q := 45) rfl dX10_begin_44 rfl ?_
      refine v_iast (q := 46) dX10_begin_45 kd_117 (by omega) (by omega) rfl ?_
      refine v_aload_n (j := 0) (q := 47) rfl dX10_begin_46 rfl ?_
      refine v_getR (p' := 117) (q := 50) dX10_begin_47 fl_X10_7 kd_116 rfl (rfc_10_0 kd_116) rfl ?_
      refine v_iconst (q := 51) dX10_begin_50 rfl ?_
      refine v_iconst (q := 52) dX10_begin_51 rfl ?_
      refine v_iast (q := 53) dX10_begin_52 kd_117 (by omega) (by omega) rfl ?_
      refine v_aload_n (j := 0) (q := 54) rfl dX10_begin_53 rfl ?_
      refine v_getR (p' := 117) (q := 57) dX10_begin_54 fl_X10_7 kd_116 rfl (rfc_10_0 kd_116) rfl ?_
      refine v_iconst (q := 58) dX10_begin_57 rfl ?_
      refine v_iconst (q := 59) dX10_begin_58 rfl ?_
      refine v_iast (q := 60) dX10_begin_59 kd_117 (by omega) (by omega) rfl ?_
      refine v_aload_n (j := 0) (q := 61) rfl dX10_begin_60 rfl ?_
      refine v_getR (p' := 117) (q := 64) dX10_begin_61 fl_X10_7 kd_116 rfl (rfc_10_0 kd_116) rfl ?_
      refine v_iconst (q := 65) dX10_begin_64 rfl ?_
      refine v_iconst (q := 66) dX10_begin_65 rfl ?_
      refine v_iast (q := 67) dX10_begin_66 kd_117 (by omega) (by omega) rfl ?_
      refine v_iload_n (j := 3) (q := 68) rfl dX10_begin_67 rfl ?_
      refine v_iret dX10_begin_68 ?_
      refine ⟨_, rfl, ?_⟩
      unfold sBegin
      rw [if_pos (by omega), f.2.2.2.2.2.2.2.2.2.2.2]
      obtain ⟨m9, hm9⟩ : ∃ m9, um (um (um (um (um (kpM mem) 117 0 s) 117 1 g) 117 2 0) 117 3 0) 117 4 1 = m9 := ⟨_, rfl⟩
      rw [hm9]
      have o1 : ∀ j, m9 117 j = if j = 4 then 1 else if j = 3 then 0 else if j = 2 then 0 else if j = 1 then g else if j = 0 then s else mem 117 j := fun j => by
        rw [← hm9, um_same, um_same, um_same, um_same, um_same, k7]; rfl
      refine RQ_change h (fun r hr => by rw [← hm9, um_ne _ _ _ hr, um_ne _ _ _ hr, um_ne _ _ _ hr, um_ne _ _ _ hr, um_ne _ _ _ hr]) ⟨?_, ?_, ?_, ?_⟩
      · unfold syM
        rw [Int.zero_add, Int.zero_add, Int.zero_add, Int.zero_add, o1, o1, o1, o1, o1]
        rfl
      · rw [Int.zero_add, o1]; simp
      · have hw := isW_1 (g := g) (by omega)
        exact ⟨by show 1 ≤ s ∧ s ≤ 4; omega, by show 1 ≤ g ∧ g ≤ 5; omega, by show (0 : Int) ≤ 0 ∧ 0 < s; omega, by show isW 1 g ∧ 1 ≤ nd 1 ∧ nd 1 ≤ 4; rw [hw.2]; exact ⟨hw.1, by omega, by omega⟩, by show 0 ≤ 20; omega, fun r hr => by cases hr⟩
      · intro i i0 i1
        rw [o1, if_neg (by omega), if_neg (by omega), if_neg (by omega), if_neg (by omega), if_neg (by omega)]
        exact h.1.2.2.2 i i0 i1 |> fun x => by rw [Int.zero_add] at x ⊢; exact x
    · refine v_bipush (q := 20) (by decide) dX10_begin_18 rfl ?_
      refine v_iret dX10_begin_20 ?_
      refine ⟨_, rfl, ?_⟩
      unfold sBegin
      rw [if_neg (by omega)]
      exact RQ_same h
