/-! ===== StackLab's promises 2 to 9, 25, 26: what the document says, and that the class does so ===== -/
theorem nd_bound : ∀ (k : Nat) {z : Int}, 0 ≤ z → nd z ≤ k → z < 10 ^ k
  | 0, z, h0, h => by
    rcases Int.lt_or_le 0 z with hz | hz
    · have := nd_ge hz; omega
    · simp; omega
  | k + 1, z, h0, h => by
    rcases Int.lt_or_le 0 z with hz | hz
    · rw [nd_pos hz] at h
      have := nd_bound k (z := z / 10) (by omega) (by omega)
      rw [Int.pow_succ]
      omega
    · have : (0 : Int) < 10 ^ (k + 1) := Int.pow_pos (by omega)
      omega
theorem SR.facts {m : Mem} {b : Nat} {y : Sy} (h : SR m b y) : (1 ≤ m b 0 ∧ m b 0 ≤ 4) ∧ (1 ≤ m b 1 ∧ m b 1 ≤ 5) ∧ (0 ≤ m b 2 ∧ m b 2 < m b 0) ∧ (isW (m b 3) (m b 1) ∧ 1 ≤ nd (m b 3) ∧ nd (m b 3) ≤ 4) ∧ (0 ≤ m b 4 ∧ m b 4 ≤ 20) ∧ (0 ≤ m b 3 ∧ m b 3 ≤ 9999) := by
  obtain ⟨rfl, c, ok, r⟩ := h
  have h3 := nd_bound 4 ok.2.2.2.1.1.1 ok.2.2.2.1.2.2
  have h4 : (10 : Int) ^ 4 = 10000 := by decide
  have h5 := ok.2.2.2.1.1.1
  rw [h4] at h3
  exact ⟨ok.1, ok.2.1, ok.2.2.1, ok.2.2.2.1, c, h5, by change m b 3 < 10000 at h3; omega⟩
/-- the same question, the same answer: what a call answers, and the state behind it -/
noncomputable def sBegin (A : AS) (s g : Int) : Int × AS := by
  classical
  exact if (1 ≤ s ∧ s ≤ 4) ∧ (1 ≤ g ∧ g ≤ 5) then ((A.1.2.2.2.2.length : Int), ((s, g, 0, 1, []), hpush A.2.1 A.1, A.2.2)) else (-2, A)
/-- behind a call of the class: the state, and what has become of the caches -/
def CQ (mem : Mem) (A : AS) (zA : Int × AS) (z : Int) (m : Mem) : Prop := zA.1 = z ∧ SI m zA.2 ∧ (frC mem m ∨ (zA.2.1 = A.1 ∧ fr29 mem m))
theorem isW_1 {g : Int} (h : 1 ≤ g) : isW 1 g ∧ nd 1 = 1 := by
  have e : dgs 1 = [1] := by rw [dgs_pos (by omega), dgs_np (by omega)]; rfl
  refine ⟨⟨by omega, fun d hd => ?_⟩, ?_⟩
  · rw [e] at hd
    have := List.mem_singleton.mp hd
    omega
  · rw [← dgs_len, e]; rfl
theorem c_X9_begin (s g : Int) (mem : Mem) (A : AS) (h : SI mem A) (hs : R32 s) (hg : R32 g) : CtrI mX9_begin [aR 0, aI s, aI g] mem (CQ mem A (sBegin A s g)) := by
  obtain ⟨r1, r2, r3, r4, r5⟩ := h.rec
  have f := h.1.facts
  have hc : (A.1.2.2.2.2.length : Int) = mem 1 4 := by rw [h.1.1]; show ((rls _ _ _).length : Int) = _; rw [rls_len]; omega
  refine Ctr.ofV (ls := [aR 0, aI s, aI g, aU]) rfl (by decide) rfl (Nat.le_of_ble_eq_true rfl) ?_
  refine v_iload_n (j := 1) (q := 1) rfl dX9_begin_0 rfl ?_
  refine v_iconst (q := 2) dX9_begin_1 rfl ?_
  refine v_icmp_lt (tgt := 20) (q := 5) dX9_begin_2 (by decide) rfl (by omega) (by omega) (fun h2 => ?_) (fun h2 => ?_)
  · refine v_bipush (q := 22) (by decide) dX9_begin_20 rfl ?_
    refine v_iret dX9_begin_22 ?_
    refine ⟨_, rfl, ?_⟩
    unfold sBegin
    rw [if_neg (by omega)]
    exact ⟨rfl, h, Or.inr ⟨rfl, fun _ _ => rfl⟩⟩
  · refine v_iload_n (j := 1) (q := 6) rfl dX9_begin_5 rfl ?_
    refine v_iconst (q := 7) dX9_begin_6 rfl ?_
    refine v_icmp_gt (tgt := 20) (q := 10) dX9_begin_7 (by decide) rfl (by omega) (by omega) (fun h7 => ?_) (fun h7 => ?_)
    · refine v_bipush (q := 22) (by decide) dX9_begin_20 rfl ?_
      refine v_iret dX9_begin_22 ?_
      refine ⟨_, rfl, ?_⟩
      unfold sBegin
      rw [if_neg (by omega)]
      exact ⟨rfl, h, Or.inr ⟨rfl, fun _ _ => rfl⟩⟩
    · refine v_iload_n (j := 2) (q := 11) rfl dX9_begin_10 rfl ?_
      refine v_iconst (q := 12) dX9_begin_11 rfl ?_
      refine v_icmp_lt (tgt := 20) (q := 15) dX9_begin_12 (by decide) rfl (by omega) (by omega) (fun h12 => ?_) (fun h12 => ?_)
      · refine v_bipush (q := 22) (by decide) dX9_begin_20 rfl ?_
        refine v_iret dX9_begin_22 ?_
        refine ⟨_, rfl, ?_⟩
        unfold sBegin
        rw [if_neg (by omega)]
        exact ⟨rfl, h, Or.inr ⟨rfl, fun _ _ => rfl⟩⟩
      · refine v_iload_n (j := 2) (q := 16) rfl dX9_begin_15 rfl ?_
        refine v_iconst (q := 17) dX9_begin_16 rfl ?_
        refine v_icmp_le (tgt := 23) (q := 20) dX9_begin_17 (by decide) rfl (by omega) (by omega) (fun h17 => ?_) (fun h17 => ?_)
        · refine v_aload_n (j := 0) (q := 24) rfl dX9_begin_23 rfl ?_
          refine v_getR (p' := 1) (q := 27) dX9_begin_24 fl_X9_12 kd_0 rfl (rfc_9_0 kd_0) rfl ?_
          refine v_getI (j := 4) (q := 30) dX9_begin_27 fl_X9_93 kd_1 rfl rfl rfl ?_
          refine v_ist3 (q := 31) rfl dX9_begin_30 (by decide) rfl ?_
          refine v_aload_n (j := 0) (q := 32) rfl dX9_begin_31 rfl ?_
          refine v_cVV0 (q := 35) dX9_begin_32 mlX9_97 mdX9_recordChange (by decide) kd_0 rfl rfl ⟨Nat.le_refl 0, Nat.le_refl 0⟩ (by exact Nat.le_of_ble_eq_true rfl) rfl (c_X9_recordChange mem r3 r4 r5) ?_
          rintro _ rfl
          refine v_aload_n (j := 0) (q := 36) rfl dX9_begin_35 rfl ?_
          refine v_getR (p' := 1) (q := 39) dX9_begin_36 fl_X9_12 kd_0 rfl (rfc_9_0 kd_0) rfl ?_
          refine v_iload_n (j := 1) (q := 40) rfl dX9_begin_39 rfl ?_
          refine v_iload_n (j := 2) (q := 41) rfl dX9_begin_40 rfl ?_
          refine v_cVV2 (q := 44) dX9_begin_41 mlX9_100 mdX4_reset (by decide) kd_1 rfl rfl ⟨Nat.le_refl 0, Nat.le_refl 0⟩ (by exact Nat.le_of_ble_eq_true rfl) rfl (c_X4_reset 1 _ _ _ su_1) ?_
          rintro _ rfl
          refine v_iload_n (j := 3) (q := 45) rfl dX9_begin_44 rfl ?_
          refine v_iret dX9_begin_45 ?_
          refine ⟨_, rfl, ?_⟩
          unfold sBegin
          rw [if_pos (by omega)]
          have o : ∀ q, q ≠ 1 → um (um (um (um (um (fgM (recM mem)) 1 0 s) 1 1 g) 1 2 0) 1 3 1) 1 4 0 q = fgM (recM mem) q := fun q hq => by rw [um_ne _ _ _ hq, um_ne _ _ _ hq, um_ne _ _ _ hq, um_ne _ _ _ hq, um_ne _ _ _ hq]
          have o1 : ∀ j, um (um (um (um (um (fgM (recM mem)) 1 0 s) 1 1 g) 1 2 0) 1 3 1) 1 4 0 1 j = if j = 4 then 0 else if j = 3 then 1 else if j = 2 then 0 else if j = 1 then g else if j = 0 then s else fgM (recM mem) 1 j := fun j => by
            rw [um_same, um_same, um_same, um_same, um_same]; rfl
          refine ⟨hc, ⟨⟨?_, ?_, ?_, ?_⟩, r1.2.1.congr (fun q a b => o q (by omega)), r1.2.2.congr (o 23 (by decide)) (o 24 (by decide))⟩, Or.inl ⟨by rw [o 0 (by decide)]; exact r2.1, by rw [o 42 (by decide)]; exact r2.2.1, by rw [o 83 (by decide)]; exact r2.2.2.1, fun q hq => by rw [o q (by omega)]; exact r2.2.2.2 q hq⟩⟩
          · unfold syC
            rw [o1, o1, o1, o1, o1]
            rfl
          · rw [o1]; simp
          · have hw := isW_1 (g := g) (by omega)
            exact ⟨by show 1 ≤ s ∧ s ≤ 4; omega, by show 1 ≤ g ∧ g ≤ 5; omega, by show (0 : Int) ≤ 0 ∧ 0 < s; omega, by show isW 1 g ∧ 1 ≤ nd 1 ∧ nd 1 ≤ 4; rw [hw.2]; exact ⟨hw.1, by omega, by omega⟩, by show 0 ≤ 20; omega, fun r hr => by cases hr⟩
          · rw [o 2 (by decide)]
            exact r1.1.2.2.2
        · refine v_bipush (q := 22) (by decide) dX9_begin_20 rfl ?_
          refine v_iret dX9_begin_22 ?_
          refine ⟨_, rfl, ?_⟩
          unfold sBegin
          rw [if_neg (by omega)]
          exact ⟨rfl, h, Or.inr ⟨rfl, fun _ _ => rfl⟩⟩
/-! isWord, isAsked -/
theorem c_X9_isWord (n lo hi : Int) (mem : Mem) (hn : R32 n) (hl : R32 lo) (hh : R32 hi) (hg : R32 (mem 1 1)) : CtrI mX9_isWord [aR 0, aI n, aI lo, aI hi] mem (fun z m => bI (isW n (mem 1 1) ∧ lo ≤ nd n ∧ nd n ≤ hi) = z ∧ (∀ q, q ≠ 25 → q ≠ 26 → m q = mem q) ∧ (isW n (mem 1 1) → WdIs m 25 (dgs n))) := by
  have hd := nd_nn n
  have hd2 := nd_10 (z := n) (by omega)
  have hl2 := dgs_len n
  refine Ctr.ofV (ls := [aR 0, aI n, aI lo, aI hi]) rfl (by decide) rfl (Nat.le_of_ble_eq_true rfl) ?_
  refine v_aload_n (j := 0) (q := 1) rfl dX9_isWord_0 rfl ?_
  refine v_getR (p' := 25) (q := 4) dX9_isWord_1 fl_X9_36 kd_0 rfl (rfc_9_4 kd_0) rfl ?_
  refine v_iload_n (j := 1) (q := 5) rfl dX9_isWord_4 rfl ?_
  refine v_aload_n (j := 0) (q := 6) rfl dX9_isWord_5 rfl ?_
  refine v_getR (p' := 1) (q := 9) dX9_isWord_6 fl_X9_12 kd_0 rfl (rfc_9_0 kd_0) rfl ?_
  refine v_getI (j := 1) (q := 12) dX9_isWord_9 fl_X9_163 kd_1 rfl rfl rfl ?_
  refine v_cVI2 (q := 15) dX9_isWord_12 mlX9_251 mdX8_take (by decide) kd_25 rfl rfl ⟨Nat.le_refl 0, Nat.le_refl 0⟩ (by exact Nat.le_of_ble_eq_true rfl) rfl (c_X8_take 25 n _ mem (by unfold isWd; decide) hn hg) ?_
  rintro _ m1 ⟨t1, rfl, t3, t4⟩
  refine v_if_eqB (tgt := 44) (q := 18) dX9_isWord_15 (by decide) rfl (fun h15 => ?_) (fun h15 => ?_)
  · refine v_iconst (q := 45) dX9_isWord_44 rfl ?_
    refine v_zret (by first | exact Or.inl rfl | exact Or.inr rfl | exact bI_01 _ | omega) dX9_isWord_45 ?_
    refine ⟨_, rfl, ?_, t1, t3⟩
    first | exact bI_t ⟨h15, by omega, by omega⟩ | exact bI_f (fun h => by have := h.2; omega) | exact bI_f (fun h => h15 h.1)
  · have t5 := t3 h15
    have t6 := t5.1
    refine v_aload_n (j := 0) (q := 19) rfl dX9_isWord_18 rfl ?_
    refine v_getR (p' := 25) (q := 22) dX9_isWord_19 fl_X9_36 kd_0 rfl (rfc_9_4 kd_0) rfl ?_
    refine v_getI (j := 0) (q := 25) dX9_isWord_22 fl_X9_254 kd_25 rfl rfl rfl ?_
    refine v_iload_n (j := 2) (q := 26) rfl dX9_isWord_25 rfl ?_
    refine v_icmp_lt (tgt := 44) (q := 29) dX9_isWord_26 (by decide) rfl (by omega) (by omega) (fun h26 => ?_) (fun h26 => ?_)
    · refine v_iconst (q := 45) dX9_isWord_44 rfl ?_
      refine v_zret (by first | exact Or.inl rfl | exact Or.inr rfl | exact bI_01 _ | omega) dX9_isWord_45 ?_
      refine ⟨_, rfl, ?_, t1, t3⟩
      first | exact bI_t ⟨h15, by omega, by omega⟩ | exact bI_f (fun h => by have := h.2; omega) | exact bI_f (fun h => h15 h.1)
    · refine v_aload_n (j := 0) (q := 30) rfl dX9_isWord_29 rfl ?_
      refine v_getR (p' := 25) (q := 33) dX9_isWord_30 fl_X9_36 kd_0 rfl (rfc_9_4 kd_0) rfl ?_
      refine v_getI (j := 0) (q := 36) dX9_isWord_33 fl_X9_254 kd_25 rfl rfl rfl ?_
      refine v_iload_n (j := 3) (q := 37) rfl dX9_isWord_36 rfl ?_
      refine v_icmp_gt (tgt := 44) (q := 40) dX9_isWord_37 (by decide) rfl (by omega) (by omega) (fun h37 => ?_) (fun h37 => ?_)
      · refine v_iconst (q := 45) dX9_isWord_44 rfl ?_
        refine v_zret (by first | exact Or.inl rfl | exact Or.inr rfl | exact bI_01 _ | omega) dX9_isWord_45 ?_
        refine ⟨_, rfl, ?_, t1, t3⟩
        first | exact bI_t ⟨h15, by omega, by omega⟩ | exact bI_f (fun h => by have := h.2; omega) | exact bI_f (fun h => h15 h.1)
      · refine v_iconst (q := 41) dX9_isWord_40 rfl ?_
        refine v_goto (q := 45) dX9_isWord_41 (by decide) ?_
        refine v_zret (by first | exact Or.inl rfl | exact Or.inr rfl | exact bI_01 _ | omega) dX9_isWord_45 ?_
        refine ⟨_, rfl, ?_, t1, t3⟩
        first | exact bI_t ⟨h15, by omega, by omega⟩ | exact bI_f (fun h => by have := h.2; omega) | exact bI_f (fun h => h15 h.1)
theorem c_X9_isAsked (p w : Int) (mem : Mem) (hp : R32 p) (hw : R32 w) (hs : R32 (mem 1 0)) (hg : R32 (mem 1 1)) : CtrI mX9_isAsked [aR 0, aI p, aI w] mem (fun z m => bI ((0 ≤ p ∧ p < mem 1 0) ∧ isW w (mem 1 1) ∧ nd w ≤ 6) = z ∧ (∀ q, q ≠ 25 → q ≠ 26 → m q = mem q) ∧ (isW w (mem 1 1) → (0 ≤ p ∧ p < mem 1 0) → WdIs m 25 (dgs w))) := by
  have hd := nd_nn w
  refine Ctr.ofV (ls := [aR 0, aI p, aI w]) rfl (by decide) rfl (Nat.le_of_ble_eq_true rfl) ?_
  refine v_aload_n (j := 0) (q := 1) rfl dX9_isAsked_0 rfl ?_
  refine v_iload_n (j := 1) (q := 2) rfl dX9_isAsked_1 rfl ?_
  refine v_cVI1 (q := 5) dX9_isAsked_2 mlX9_104 mdX9_isState (by decide) kd_0 rfl rfl ⟨Nat.le_refl 0, Nat.le_refl 0⟩ (by exact Nat.le_of_ble_eq_true rfl) rfl (c_X9_isState p mem hp hs) ?_
  rintro _ _ ⟨rfl, rfl⟩
  refine v_if_eqB (tgt := 23) (q := 8) dX9_isAsked_5 (by decide) rfl (fun h5 => ?_) (fun h5 => ?_)
  · have t1 : ∀ q, q ≠ 25 → q ≠ 26 → mem q = mem q := fun _ _ _ => rfl
    refine v_iconst (q := 24) dX9_isAsked_23 rfl ?_
    refine v_zret (by first | exact Or.inl rfl | exact Or.inr rfl | exact bI_01 _ | omega) dX9_isAsked_24 ?_
    first | exact ⟨_, rfl, bI_t ⟨h5, h16.1, by omega⟩, t1, fun a _ => t2 a⟩ | exact ⟨_, rfl, bI_f (fun h => h16 ⟨h.2.1, by omega, h.2.2⟩), t1, fun a _ => t2 a⟩ | exact ⟨_, rfl, bI_f (fun h => h5 h.1), t1, fun _ b => absurd b h5⟩
  · refine v_aload_n (j := 0) (q := 9) rfl dX9_isAsked_8 rfl ?_
    refine v_iload_n (j := 2) (q := 10) rfl dX9_isAsked_9 rfl ?_
    refine v_iconst (q := 11) dX9_isAsked_10 rfl ?_
    refine v_bipush (q := 13) (by decide) dX9_isAsked_11 rfl ?_
    refine v_cVI3 (q := 16) dX9_isAsked_13 mlX9_111 mdX9_isWord (by decide) kd_0 rfl rfl ⟨Nat.le_refl 0, Nat.le_refl 0⟩ (by exact Nat.le_of_ble_eq_true rfl) rfl (c_X9_isWord w 0 6 mem hw (by omega) (by omega) hg) ?_
    rintro _ m1 ⟨rfl, t1, t2⟩
    refine v_if_eqB (tgt := 23) (q := 19) dX9_isAsked_16 (by decide) rfl (fun h16 => ?_) (fun h16 => ?_)
    · refine v_iconst (q := 24) dX9_isAsked_23 rfl ?_
      refine v_zret (by first | exact Or.inl rfl | exact Or.inr rfl | exact bI_01 _ | omega) dX9_isAsked_24 ?_
      first | exact ⟨_, rfl, bI_t ⟨h5, h16.1, by omega⟩, t1, fun a _ => t2 a⟩ | exact ⟨_, rfl, bI_f (fun h => h16 ⟨h.2.1, by omega, h.2.2⟩), t1, fun a _ => t2 a⟩ | exact ⟨_, rfl, bI_f (fun h => h5 h.1), t1, fun _ b => absurd b h5⟩
    · refine v_iconst (q := 20) dX9_isAsked_19 rfl ?_
      refine v_goto (q := 24) dX9_isAsked_20 (by decide) ?_
      refine v_zret (by first | exact Or.inl rfl | exact Or.inr rfl | exact bI_01 _ | omega) dX9_isAsked_24 ?_
      first | exact ⟨_, rfl, bI_t ⟨h5, h16.1, by omega⟩, t1, fun a _ => t2 a⟩ | exact ⟨_, rfl, bI_f (fun h => h16 ⟨h.2.1, by omega, h.2.2⟩), t1, fun a _ => t2 a⟩ | exact ⟨_, rfl, bI_f (fun h => h5 h.1), t1, fun _ b => absurd b h5⟩
/-! addRule -/
theorem hasR_rls (f : Int → Int) (n : Nat) (p x q w : Int) : hasR f n p x q w ↔ thereR (rls f 0 n) p x q w := by
  constructor
  · rintro ⟨k, k0, k1, a, b, c, d⟩
    have hk := rls_at f 0 (n := n) (k := k.toNat) (by omega)
    rw [show (0 : Int) + 5 * (k.toNat : Int) = k * 5 by omega] at hk
    exact ⟨_, List.mem_of_getElem? hk, a, b, c, d⟩
  · rintro ⟨r, hr, a, b, c, d⟩
    obtain ⟨k, hk, rfl⟩ := List.mem_map.mp hr
    have hk := List.mem_range.mp hk
    rw [show (0 : Int) + 5 * (k : Int) = (k : Int) * 5 by omega] at a b c d
    exact ⟨k, by omega, by omega, a, b, c, d⟩
noncomputable def sAdd (A : AS) (p x q w t : Int) : Int × AS := by
  classical
  exact if ¬ ((0 ≤ p ∧ p < A.1.1) ∧ (1 ≤ x ∧ x ≤ A.1.2.1) ∧ (0 ≤ q ∧ q < A.1.1) ∧ (isW w A.1.2.1 ∧ nd w ≤ 2)) then (-1, A)
    else if ¬ (1 ≤ t ∧ t ≤ 20) then (-2, A)
    else if thereR A.1.2.2.2.2 p x q w then (-3, A)
    else if 20 ≤ A.1.2.2.2.2.length then (-4, A)
    else ((A.1.2.2.2.2.length : Int), ((A.1.1, A.1.2.1, A.1.2.2.1, A.1.2.2.2.1, A.1.2.2.2.2 ++ [(p, x, q, w, t)]), hpush A.2.1 A.1, A.2.2))
theorem rls_succ (f : Int → Int) (o : Int) (n : Nat) : rls f o (n + 1) = rls f o n ++ [rl5 f (o + 5 * (n : Int))] := by
  unfold rls
  rw [List.range_succ, List.map_append]
  rfl
theorem fr29_wd {mem m : Mem} (h : ∀ q, q ≠ 25 → q ≠ 26 → m q = mem q) : fr29 mem m := fun q hq => h q (by omega) (by omega)
theorem SI.wd {mem m : Mem} {A : AS} (hA : SI mem A) (h : ∀ q, q ≠ 25 → q ≠ 26 → m q = mem q) : SI m A := hA.congr (fun q a b _ _ => h q (by omega) (by omega))
theorem frC.wd {m0 mem m : Mem} (h : ∀ q, q ≠ 25 → q ≠ 26 → mem q = m0 q) (f : frC mem m) : frC m0 m := ⟨f.1, by rw [f.2.1, h 42 (by omega) (by omega)], f.2.2.1, fun q hq => by rw [f.2.2.2 q hq, h q (by omega) (by omega)]⟩
/-- a rule is appended to the system at 1 -/
theorem SR.append {m m1 : Mem} {y : Sy} {p x q w t : Int} (h : SR m 1 y) (hr : okR y.1 y.2.1 (p, x, q, w, t)) (h20 : m 1 4 < 20) (o1 : ∀ j, j ≠ 4 → m1 1 j = m 1 j) (o4 : m1 1 4 = m 1 4 + 1)
    (o2 : ∀ j, j < m 1 4 * 5 ∨ m 1 4 * 5 + 4 < j → m1 2 j = m 2 j) (e0 : m1 2 (m 1 4 * 5) = p) (e1 : m1 2 (m 1 4 * 5 + 1) = x) (e2 : m1 2 (m 1 4 * 5 + 2) = q) (e3 : m1 2 (m 1 4 * 5 + 3) = w) (e4 : m1 2 (m 1 4 * 5 + 4) = t) : SR m1 1 (y.1, y.2.1, y.2.2.1, y.2.2.2.1, y.2.2.2.2 ++ [(p, x, q, w, t)]) := by
  obtain ⟨rfl, c, ok, r⟩ := h
  have hw := nd_bound 2 hr.2.2.2.1.1.1 hr.2.2.2.1.2
  have hw0 : 0 ≤ w := hr.2.2.2.1.1.1
  have h100 : (10 : Int) ^ 2 = 100 := by decide
  rw [h100] at hw
  change w < 100 at hw
  obtain ⟨⟨p0, p1⟩, ⟨x0, x1⟩, ⟨q0, q1⟩, -, ⟨t0, t1⟩⟩ := id hr
  change 0 ≤ p at p0; change p < m 1 0 at p1; change 1 ≤ x at x0; change x ≤ m 1 1 at x1; change 0 ≤ q at q0; change q < m 1 0 at q1; change 1 ≤ t at t0; change t ≤ 20 at t1
  have k1 : 1 ≤ m 1 0 ∧ m 1 0 ≤ 4 := ok.1
  have k2 : 1 ≤ m 1 1 ∧ m 1 1 ≤ 5 := ok.2.1
  have el : rls (m1 2) 0 (m1 1 4).toNat = rls (m 2) 0 (m 1 4).toNat ++ [(p, x, q, w, t)] := by
    rw [o4, show (m 1 4 + 1).toNat = (m 1 4).toNat + 1 by omega, rls_succ]
    congr 1
    · apply rls_ext
      intro i h0 h1
      exact o2 _ (by omega)
    · unfold rl5
      rw [show (0 : Int) + 5 * ((m 1 4).toNat : Int) = m 1 4 * 5 by omega, e0, e1, e2, e3, e4]
  refine ⟨?_, by rw [o4]; omega, ⟨ok.1, ok.2.1, ok.2.2.1, ok.2.2.2.1, ?_, fun r9 hr9 => ?_⟩, fun i i0 i1 => ?_⟩
  · unfold syC
    rw [o1 0 (by omega), o1 1 (by omega), o1 2 (by omega), o1 3 (by omega), el]
  · show (rls (m 2) 0 (m 1 4).toNat ++ [(p, x, q, w, t)]).length ≤ 20
    rw [List.length_append, rls_len]
    simp
    omega
  · rcases List.mem_append.mp hr9 with h9 | h9
    · exact ok.2.2.2.2.2 r9 h9
    · rw [List.mem_singleton.mp h9]
      exact hr
  · by_cases hi : i < m 1 4 * 5 ∨ m 1 4 * 5 + 4 < i
    · rw [show (1 + 1 : Nat) = 2 from rfl, o2 i hi]; exact r i i0 i1
    · show R32 (m1 2 i)
      rcases (show i = m 1 4 * 5 ∨ i = m 1 4 * 5 + 1 ∨ i = m 1 4 * 5 + 2 ∨ i = m 1 4 * 5 + 3 ∨ i = m 1 4 * 5 + 4 by omega) with rfl | rfl | rfl | rfl | rfl
      · rw [e0]; omega
      · rw [e1]; omega
      · rw [e2]; omega
      · rw [e3]; omega
      · rw [e4]; omega
theorem appM_facts (M0 : Mem) (c p x q w t : Int) {m : Mem} (hm : um (um (um (um (um (um M0 2 (c * 5 + 0) p) 2 (c * 5 + 1) x) 2 (c * 5 + 2) q) 2 (c * 5 + 3) w) 2 (c * 5 + 4) t) 1 4 (c + 1) = m) :
    (∀ r, r ≠ 1 → r ≠ 2 → m r = M0 r) ∧ (∀ j, j ≠ 4 → m 1 j = M0 1 j) ∧ m 1 4 = c + 1 ∧ (∀ j, j < c * 5 ∨ c * 5 + 4 < j → m 2 j = M0 2 j) ∧ m 2 (c * 5) = p ∧ m 2 (c * 5 + 1) = x ∧ m 2 (c * 5 + 2) = q ∧ m 2 (c * 5 + 3) = w ∧ m 2 (c * 5 + 4) = t := by
  have o1 : m 1 = ui (M0 1) 4 (c + 1) := by rw [← hm, um_same, um_ne _ _ _ (by decide), um_ne _ _ _ (by decide), um_ne _ _ _ (by decide), um_ne _ _ _ (by decide), um_ne _ _ _ (by decide)]
  have o2 : m 2 = ui (ui (ui (ui (ui (M0 2) (c * 5 + 0) p) (c * 5 + 1) x) (c * 5 + 2) q) (c * 5 + 3) w) (c * 5 + 4) t := by rw [← hm, um_ne _ _ _ (by decide), um_same, um_same, um_same, um_same, um_same]
  refine ⟨fun r h1 h2 => by rw [← hm, um_ne _ _ _ h1, um_ne _ _ _ h2, um_ne _ _ _ h2, um_ne _ _ _ h2, um_ne _ _ _ h2, um_ne _ _ _ h2], fun j hj => by rw [o1, ui_ne _ _ hj], by rw [o1, ui_same], fun j hj => by rw [o2, ui_ne _ _ (by omega), ui_ne _ _ (by omega), ui_ne _ _ (by omega), ui_ne _ _ (by omega), ui_ne _ _ (by omega)], ?_, ?_, ?_, ?_, ?_⟩
  · rw [o2, ui_ne _ _ (by omega), ui_ne _ _ (by omega), ui_ne _ _ (by omega), ui_ne _ _ (by omega), Int.add_zero, ui_same]
  · rw [o2, ui_ne _ _ (by omega), ui_ne _ _ (by omega), ui_ne _ _ (by omega), ui_same]
  · rw [o2, ui_ne _ _ (by omega), ui_ne _ _ (by omega), ui_same]
  · rw [o2, ui_ne _ _ (by omega), ui_same]
  · rw [o2, ui_same]
theorem c_X9_addRule (p x q w t : Int) (mem : Mem) (A : AS) (h : SI mem A) (hp : R32 p) (hx : R32 x) (hq : R32 q) (hw : R32 w) (ht : R32 t) : CtrI mX9_addRule [aR 0, aI p, aI x, aI q, aI w, aI t] mem (CQ mem A (sAdd A p x q w t)) := by
  have f := h.1.facts
  have eA : A.1 = syC mem 1 := h.1.1
  have a1 : A.1.1 = mem 1 0 := by rw [eA]; rfl
  have a2 : A.1.2.1 = mem 1 1 := by rw [eA]; rfl
  have hc : (A.1.2.2.2.2.length : Int) = mem 1 4 := by rw [eA]; show ((rls _ _ _).length : Int) = _; rw [rls_len]; omega
  have hn0 := nd_nn w
  have hth : thereR A.1.2.2.2.2 p x q w ↔ hasR (mem 2) (mem 1 4) p x q w := by
    have e1 := hasR_rls (mem 2) (mem 1 4).toNat p x q w
    rw [show ((mem 1 4).toNat : Int) = mem 1 4 by omega] at e1
    rw [e1, eA]
    exact Iff.rfl
  have bad : ∀ m, (∀ q, q ≠ 25 → q ≠ 26 → m q = mem q) → ¬ ((0 ≤ p ∧ p < mem 1 0) ∧ (1 ≤ x ∧ x ≤ mem 1 1) ∧ (0 ≤ q ∧ q < mem 1 0) ∧ (isW w (mem 1 1) ∧ nd w ≤ 2)) → CQ mem A (sAdd A p x q w t) (-1) m := fun m hm hb => by
    unfold sAdd
    rw [a1, a2, if_pos hb]
    exact ⟨rfl, h.wd hm, Or.inr ⟨rfl, fr29_wd hm⟩⟩
  refine Ctr.ofV (ls := [aR 0, aI p, aI x, aI q, aI w, aI t]) rfl (by decide) rfl (Nat.le_of_ble_eq_true rfl) ?_
  refine v_aload_n (j := 0) (q := 1) rfl dX9_addRule_0 rfl ?_
  refine v_iload_n (j := 1) (q := 2) rfl dX9_addRule_1 rfl ?_
  refine v_cVI1 (q := 5) dX9_addRule_2 mlX9_104 mdX9_isState (by decide) kd_0 rfl rfl ⟨Nat.le_refl 0, Nat.le_refl 0⟩ (by exact Nat.le_of_ble_eq_true rfl) rfl (c_X9_isState p mem hp (by omega)) ?_
  rintro _ _ ⟨rfl, rfl⟩
  refine v_if_eqB (tgt := 35) (q := 8) dX9_addRule_5 (by decide) rfl (fun h5 => ?_) (fun h5 => ?_)
  · refine v_iconst (q := 36) dX9_addRule_35 rfl ?_
    refine v_iret dX9_addRule_36 ?_
    exact ⟨_, rfl, by first | exact bad _ (fun _ _ _ => rfl) (fun hb => h5 hb.1) | exact bad _ (fun _ _ _ => rfl) (fun hb => h13 hb.2.1) | exact bad _ (fun _ _ _ => rfl) (fun hb => h21 hb.2.2.1) | exact bad _ t1 (fun hb => h32 ⟨hb.2.2.2.1, by omega, hb.2.2.2.2⟩)⟩
  · refine v_aload_n (j := 0) (q := 9) rfl dX9_addRule_8 rfl ?_
    refine v_iload_n (j := 2) (q := 10) rfl dX9_addRule_9 rfl ?_
    refine v_cVI1 (q := 13) dX9_addRule_10 mlX9_108 mdX9_isSymbol (by decide) kd_0 rfl rfl ⟨Nat.le_refl 0, Nat.le_refl 0⟩ (by exact Nat.le_of_ble_eq_true rfl) rfl (c_X9_isSymbol x mem hx (by omega)) ?_
    rintro _ _ ⟨rfl, rfl⟩
    refine v_if_eqB (tgt := 35) (q := 16) dX9_addRule_13 (by decide) rfl (fun h13 => ?_) (fun h13 => ?_)
    · refine v_iconst (q := 36) dX9_addRule_35 rfl ?_
      refine v_iret dX9_addRule_36 ?_
      exact ⟨_, rfl, by first | exact bad _ (fun _ _ _ => rfl) (fun hb => h5 hb.1) | exact bad _ (fun _ _ _ => rfl) (fun hb => h13 hb.2.1) | exact bad _ (fun _ _ _ => rfl) (fun hb => h21 hb.2.2.1) | exact bad _ t1 (fun hb => h32 ⟨hb.2.2.2.1, by omega, hb.2.2.2.2⟩)⟩
    · refine v_aload_n (j := 0) (q := 17) rfl dX9_addRule_16 rfl ?_
      refine v_iload_n (j := 3) (q := 18) rfl dX9_addRule_17 rfl ?_
      refine v_cVI1 (q := 21) dX9_addRule_18 mlX9_104 mdX9_isState (by decide) kd_0 rfl rfl ⟨Nat.le_refl 0, Nat.le_refl 0⟩ (by exact Nat.le_of_ble_eq_true rfl) rfl (c_X9_isState q mem hq (by omega)) ?_
      rintro _ _ ⟨rfl, rfl⟩
      refine v_if_eqB (tgt := 35) (q := 24) dX9_addRule_21 (by decide) rfl (fun h21 => ?_) (fun h21 => ?_)
      · refine v_iconst (q := 36) dX9_addRule_35 rfl ?_
        refine v_iret dX9_addRule_36 ?_
        exact ⟨_, rfl, by first | exact bad _ (fun _ _ _ => rfl) (fun hb => h5 hb.1) | exact bad _ (fun _ _ _ => rfl) (fun hb => h13 hb.2.1) | exact bad _ (fun _ _ _ => rfl) (fun hb => h21 hb.2.2.1) | exact bad _ t1 (fun hb => h32 ⟨hb.2.2.2.1, by omega, hb.2.2.2.2⟩)⟩
      · refine v_aload_n (j := 0) (q := 25) rfl dX9_addRule_24 rfl ?_
        refine v_iload (j := 4) (q := 27) rfl dX9_addRule_25 rfl ?_
        refine v_iconst (q := 28) dX9_addRule_27 rfl ?_
        refine v_iconst (q := 29) dX9_addRule_28 rfl ?_
        refine v_cVI3 (q := 32) dX9_addRule_29 mlX9_111 mdX9_isWord (by decide) kd_0 rfl rfl ⟨Nat.le_refl 0, Nat.le_refl 0⟩ (by exact Nat.le_of_ble_eq_true rfl) rfl (c_X9_isWord w 0 2 mem hw (by omega) (by omega) (by omega)) ?_
        rintro _ m1 ⟨rfl, t1, t2⟩
        refine v_if_neB (tgt := 37) (q := 35) dX9_addRule_32 (by decide) rfl (fun h32 => ?_) (fun h32 => ?_)
        · have h1 : SI m1 A := h.wd t1
          have m11 : m1 1 = mem 1 := t1 1 (by decide) (by decide)
          have m12 : m1 2 = mem 2 := t1 2 (by decide) (by decide)
          obtain ⟨r1, r2, r3, r4, r5⟩ := h1.rec
          have g0 : (0 ≤ p ∧ p < mem 1 0) ∧ (1 ≤ x ∧ x ≤ mem 1 1) ∧ (0 ≤ q ∧ q < mem 1 0) ∧ (isW w (mem 1 1) ∧ nd w ≤ 2) := ⟨h5, h13, h21, h32.1, by omega⟩
          refine v_iload (j := 5) (q := 39) rfl dX9_addRule_37 rfl ?_
          refine v_cSI1 (q := 42) dX9_addRule_39 mlX9_115 mdX9_isWeight (by decide) ⟨Nat.le_refl 0, Nat.le_refl 0⟩ (by exact Nat.le_of_ble_eq_true rfl) rfl (c_X9_isWeight t m1 ht) ?_
          rintro _ _ ⟨rfl, rfl⟩
          refine v_if_neB (tgt := 48) (q := 45) dX9_addRule_42 (by decide) rfl (fun h42 => ?_) (fun h42 => ?_)
          · refine v_aload_n (j := 0) (q := 49) rfl dX9_addRule_48 rfl ?_
            refine v_getR (p' := 1) (q := 52) dX9_addRule_49 fl_X9_12 kd_0 rfl (rfc_9_0 kd_0) rfl ?_
            refine v_iload_n (j := 1) (q := 53) rfl dX9_addRule_52 rfl ?_
            refine v_iload_n (j := 2) (q := 54) rfl dX9_addRule_53 rfl ?_
            refine v_iload_n (j := 3) (q := 55) rfl dX9_addRule_54 rfl ?_
            refine v_iload (j := 4) (q := 57) rfl dX9_addRule_55 rfl ?_
            refine v_cVI4 (q := 60) dX9_addRule_57 mlX9_118 mdX4_holds (by decide) kd_1 rfl rfl ⟨Nat.le_refl 0, Nat.le_refl 0⟩ (by exact Nat.le_of_ble_eq_true rfl) rfl (c_X4_holds 1 p x q w m1 su_1 ⟨hp, hx, hq, hw⟩ (by rw [m11]; omega) (by rw [m11]; omega) h1.1.2.2.2) ?_
            rintro _ _ ⟨rfl, rfl⟩
            rw [m11, show m1 (1 + 1) = mem 2 from m12]
            refine v_if_eqB (tgt := 66) (q := 63) dX9_addRule_60 (by decide) rfl (fun h60 => ?_) (fun h60 => ?_)
            · refine v_aload_n (j := 0) (q := 67) rfl dX9_addRule_66 rfl ?_
              refine v_getR (p' := 1) (q := 70) dX9_addRule_67 fl_X9_12 kd_0 rfl (rfc_9_0 kd_0) rfl ?_
              refine v_getI (j := 4) (q := 73) dX9_addRule_70 fl_X9_93 kd_1 rfl rfl rfl ?_
              refine v_bipush (q := 75) (by decide) dX9_addRule_73 rfl ?_
              refine v_icmp_lt (tgt := 81) (q := 78) dX9_addRule_75 (by decide) rfl (by rw [m11]; omega) (by omega) (fun h75 => ?_) (fun h75 => ?_)
              · rw [m11] at h75
                refine v_aload_n (j := 0) (q := 82) rfl dX9_addRule_81 rfl ?_
                refine v_cVV0 (q := 85) dX9_addRule_82 mlX9_97 mdX9_recordChange (by decide) kd_0 rfl rfl ⟨Nat.le_refl 0, Nat.le_refl 0⟩ (by exact Nat.le_of_ble_eq_true rfl) rfl (c_X9_recordChange m1 r3 r4 r5) ?_
                rintro _ rfl
                have fg1 : fgM (recM m1) 1 = mem 1 := by rw [fgM_ne _ (by decide) (by decide) (by decide), (h1.2.1.rec h1.1).2 1 (by omega), m11]
                refine v_aload_n (j := 0) (q := 86) rfl dX9_addRule_85 rfl ?_
                refine v_getR (p' := 1) (q := 89) dX9_addRule_86 fl_X9_12 kd_0 rfl (rfc_9_0 kd_0) rfl ?_
                refine v_iload_n (j := 1) (q := 90) rfl dX9_addRule_89 rfl ?_
                refine v_iload_n (j := 2) (q := 91) rfl dX9_addRule_90 rfl ?_
                refine v_iload_n (j := 3) (q := 92) rfl dX9_addRule_91 rfl ?_
                refine v_iload (j := 4) (q := 94) rfl dX9_addRule_92 rfl ?_
                refine v_iload (j := 5) (q := 96) rfl dX9_addRule_94 rfl ?_
                refine v_cVV5 (q := 99) dX9_addRule_96 mlX9_122 mdX4_append (by decide) kd_1 rfl rfl ⟨Nat.le_refl 0, Nat.le_refl 0⟩ (by exact Nat.le_of_ble_eq_true rfl) rfl (c_X4_append 1 p x q w t _ su_1 (by rw [fg1]; omega) (by rw [fg1]; omega)) ?_
                rintro _ rfl
                rw [fg1]
                refine v_aload_n (j := 0) (q := 100) rfl dX9_addRule_99 rfl ?_
                refine v_getR (p' := 1) (q := 103) dX9_addRule_100 fl_X9_12 kd_0 rfl (rfc_9_0 kd_0) rfl ?_
                refine v_getI (j := 4) (q := 106) dX9_addRule_103 fl_X9_93 kd_1 rfl rfl rfl ?_
                refine v_iconst (q := 107) dX9_addRule_106 rfl ?_
                refine v_isub (q := 108) dX9_addRule_107 rfl ?_
                refine v_iret dX9_addRule_108 ?_
                refine ⟨_, rfl, ?_⟩
                unfold sAdd
                rw [a1, a2, if_neg (fun hb => hb g0), if_neg (fun hb => hb h42), if_neg (fun hb => h60 (hth.mp hb)), if_neg (by omega)]
                obtain ⟨m9, hm9⟩ : ∃ m9, um (um (um (um (um (um (fgM (recM m1)) 2 (mem 1 4 * 5 + 0) p) 2 (mem 1 4 * 5 + 1) x) 2 (mem 1 4 * 5 + 2) q) 2 (mem 1 4 * 5 + 3) w) 2 (mem 1 4 * 5 + 4) t) 1 4 (mem 1 4 + 1) = m9 := ⟨_, rfl⟩
                obtain ⟨k0, k1, k4, k2, e0, e1, e2, e3, e4⟩ := appM_facts _ _ _ _ _ _ _ hm9
                show CQ _ _ _ (um (um (um (um (um (um (fgM (recM m1)) 2 (mem 1 4 * 5 + 0) p) 2 (mem 1 4 * 5 + 1) x) 2 (mem 1 4 * 5 + 2) q) 2 (mem 1 4 * 5 + 3) w) 2 (mem 1 4 * 5 + 4) t) 1 4 (mem 1 4 + 1) 1 4 - 1) (um (um (um (um (um (um (fgM (recM m1)) 2 (mem 1 4 * 5 + 0) p) 2 (mem 1 4 * 5 + 1) x) 2 (mem 1 4 * 5 + 2) q) 2 (mem 1 4 * 5 + 3) w) 2 (mem 1 4 * 5 + 4) t) 1 4 (mem 1 4 + 1))
                rw [hm9]
                have hr : okR A.1.1 A.1.2.1 (p, x, q, w, t) := by rw [a1, a2]; exact ⟨g0.1, g0.2.1, g0.2.2.1, g0.2.2.2, h42⟩
                have hS := r1.1.append (m1 := m9) hr (by rw [fg1]; omega) k1 (by rw [fg1]; exact k4) (by rw [fg1]; exact k2) (by rw [fg1]; exact e0) (by rw [fg1]; exact e1) (by rw [fg1]; exact e2) (by rw [fg1]; exact e3) (by rw [fg1]; exact e4)
                rw [a1, a2] at hS
                refine ⟨by rw [k4]; show (A.1.2.2.2.2.length : Int) = _; omega, ⟨hS, r1.2.1.congr (fun q a b => k0 q (by omega) (by omega)), r1.2.2.congr (k0 23 (by decide) (by decide)) (k0 24 (by decide) (by decide))⟩, Or.inl (frC.wd t1 ⟨by rw [k0 0 (by decide) (by decide)]; exact r2.1, by rw [k0 42 (by decide) (by decide)]; exact r2.2.1, by rw [k0 83 (by decide) (by decide)]; exact r2.2.2.1, fun q hq => by rw [k0 q (by omega) (by omega)]; exact r2.2.2.2 q hq⟩)⟩
              · rw [m11] at h75
                refine v_bipush (q := 80) (by decide) dX9_addRule_78 rfl ?_
                refine v_iret dX9_addRule_80 ?_
                refine ⟨_, rfl, ?_⟩
                unfold sAdd
                rw [a1, a2, if_neg (fun hb => hb g0), if_neg (fun hb => hb h42), if_neg (fun hb => h60 (hth.mp hb)), if_pos (by omega)]
                exact ⟨rfl, h1, Or.inr ⟨rfl, fr29_wd t1⟩⟩
            · refine v_bipush (q := 65) (by decide) dX9_addRule_63 rfl ?_
              refine v_iret dX9_addRule_65 ?_
              refine ⟨_, rfl, ?_⟩
              unfold sAdd
              rw [a1, a2, if_neg (fun hb => hb g0), if_neg (fun hb => hb h42), if_pos (hth.mpr h60)]
              exact ⟨rfl, h1, Or.inr ⟨rfl, fr29_wd t1⟩⟩
          · refine v_bipush (q := 47) (by decide) dX9_addRule_45 rfl ?_
            refine v_iret dX9_addRule_47 ?_
            refine ⟨_, rfl, ?_⟩
            unfold sAdd
            rw [a1, a2, if_neg (fun hb => hb g0), if_pos h42]
            exact ⟨rfl, h1, Or.inr ⟨rfl, fr29_wd t1⟩⟩
        · refine v_iconst (q := 36) dX9_addRule_35 rfl ?_
          refine v_iret dX9_addRule_36 ?_
          exact ⟨_, rfl, by first | exact bad _ (fun _ _ _ => rfl) (fun hb => h5 hb.1) | exact bad _ (fun _ _ _ => rfl) (fun hb => h13 hb.2.1) | exact bad _ (fun _ _ _ => rfl) (fun hb => h21 hb.2.2.1) | exact bad _ t1 (fun hb => h32 ⟨hb.2.2.2.1, by omega, hb.2.2.2.2⟩)⟩
