/-! ===== StackLab's promises 2 to 9, 25, 26: what the document says, and that the class does so ===== -/
theorem nd_bound : ∀ (k : Nat) {z : Int}, 0 ≤ z → nd z ≤ k → z < 10 ^ k
  | 0, z, h0, h => by
    rcases Int.lt_or_le 0 z with hz | hz
    · have := nd_ge hz; omega
    · simp; omega
  | k + 1, z, h0, h => by
    rcases Int.lt_or_le 0 z with hz | hz
    · rw [nd_pos hz] at h
      have := nd_bound k (z := z / 10) (by omega) (by omega)
      rw [Int.pow_succ]
      omega
    · have : (0 : Int) < 10 ^ (k + 1) := Int.pow_pos (by omega)
      omega
theorem SR.facts {m : Mem} {b : Nat} {y : Sy} (h : SR m b y) : (1 ≤ m b 0 ∧ m b 0 ≤ 4) ∧ (1 ≤ m b 1 ∧ m b 1 ≤ 5) ∧ (0 ≤ m b 2 ∧ m b 2 < m b 0) ∧ (isW (m b 3) (m b 1) ∧ 1 ≤ nd (m b 3) ∧ nd (m b 3) ≤ 4) ∧ (0 ≤ m b 4 ∧ m b 4 ≤ 20) ∧ (0 ≤ m b 3 ∧ m b 3 ≤ 9999) := by
  obtain ⟨rfl, c, ok, r⟩ := h
  have h3 := nd_bound 4 ok.2.2.2.1.1.1 ok.2.2.2.1.2.2
  have h4 : (10 : Int) ^ 4 = 10000 := by decide
  have h5 := ok.2.2.2.1.1.1
  rw [h4] at h3
  exact ⟨ok.1, ok.2.1, ok.2.2.1, ok.2.2.2.1, c, h5, by change m b 3 < 10000 at h3; omega⟩
/-- the same question, the same answer: what a call answers, and the state behind it -/
noncomputable def sBegin (A : AS) (s g : Int) : Int × AS := by
  classical
  exact if (1 ≤ s ∧ s ≤ 4) ∧ (1 ≤ g ∧ g ≤ 5) then ((A.1.2.2.2.2.length : Int), ((s, g, 0, 1, []), hpush A.2.1 A.1, A.2.2)) else (-2, A)
/-- behind a call of the class: the state, and what has become of the caches -/
def CQ (mem : Mem) (A : AS) (zA : Int × AS) (z : Int) (m : Mem) : Prop := zA.1 = z ∧ SI m zA.2 ∧ (frC mem m ∨ (zA.2.1 = A.1 ∧ fr29 mem m))
theorem isW_1 {g : Int} (h : 1 ≤ g) : isW 1 g ∧ nd 1 = 1 := by
  have e : dgs 1 = [1] := by rw [dgs_pos (by omega), dgs_np (by omega)]; rfl
  refine ⟨⟨by omega, fun d hd => ?_⟩, ?_⟩
  · rw [e] at hd
    have := List.mem_singleton.mp hd
    omega
  · rw [← dgs_len, e]; rfl
theorem c_X9_begin (s g : Int) (mem : Mem) (A : AS) (h : SI mem A) (hs : R32 s) (hg : R32 g) : CtrI mX9_begin [aR 0, aI s, aI g] mem (CQ mem A (sBegin A s g)) := by
  obtain ⟨r1, r2, r3, r4, r5⟩ := h.rec
  have f := h.1.facts
  have hc : (A.1.2.2.2.2.length : Int) = mem 1 4 := by rw [h.1.1]; show ((rls _ _ _).length : Int) = _; rw [rls_len]; omega
  refine Ctr.ofV (ls := [aR 0, aI s, aI g, aU]) rfl (by decide) rfl (Nat.le_of_ble_eq_true rfl) ?_
  refine v_iload_n (j := 1) (q := 1) rfl dX9_begin_0 rfl ?_
  refine v_iconst (q := 2) dX9_begin_1 rfl ?_
  refine v_icmp_lt (tgt := 20) (q := 5) dX9_begin_2 (by decide) rfl (by omega) (by omega) (fun h2 => ?_) (fun h2 => ?_)
  · refine v_bipush (q := 22) (by decide) dX9_begin_20 rfl ?_
    refine v_iret dX9_begin_22 ?_
    refine ⟨_, rfl, ?_⟩
    unfold sBegin
    rw [if_neg (by omega)]
    exact ⟨rfl, h, Or.inr ⟨rfl, fun _ _ => rfl⟩⟩
  · refine v_iload_n (j := 1) (q := 6) rfl dX9_begin_5 rfl ?_
    refine v_iconst (q := 7) dX9_begin_6 rfl ?_
    refine v_icmp_gt (tgt := 20) (q := 10) dX9_begin_7 (by decide) rfl (by omega) (by omega) (fun h7 => ?_) (fun h7 => ?_)
    · refine v_bipush (q := 22) (by decide) dX9_begin_20 rfl ?_
      refine v_iret dX9_begin_22 ?_
      refine ⟨_, rfl, ?_⟩
      unfold sBegin
      rw [if_neg (by omega)]
      exact ⟨rfl, h, Or.inr ⟨rfl, fun _ _ => rfl⟩⟩
    · refine v_iload_n (j := 2) (q := 11) rfl dX9_begin_10 rfl ?_
      refine v_iconst (q := 12) dX9_begin_11 rfl ?_
      refine v_icmp_lt (tgt := 20) (q := 15) dX9_begin_12 (by decide) rfl (by omega) (by omega) (fun h12 => ?_) (fun h12 => ?_)
      · refine v_bipush (q := 22) (by decide) dX9_begin_20 rfl ?_
        refine v_iret dX9_begin_22 ?_
        refine ⟨_, rfl, ?_⟩
        unfold sBegin
        rw [if_neg (by omega)]
        exact ⟨rfl, h, Or.inr ⟨rfl, fun _ _ => rfl⟩⟩
      · refine v_iload_n (j := 2) (q := 16) rfl dX9_begin_15 rfl ?_
        refine v_iconst (q := 17) dX9_begin_16 rfl ?_
        refine v_icmp_le (tgt := 23) (q := 20) dX9_begin_17 (by decide) rfl (by omega) (by omega) (fun h17 => ?_) (fun h17 => ?_)
        · refine v_aload_n (j := 0) (q := 24) rfl dX9_begin_23 rfl ?_
          refine v_getR (p' := 1) (q := 27) dX9_begin_24 fl_X9_12 kd_0 rfl (rfc_9_0 kd_0) rfl ?_
          refine v_getI (j := 4) (q := 30) dX9_begin_27 fl_X9_93 kd_1 rfl rfl rfl ?_
          refine v_ist3 (q := 31) rfl dX9_begin_30 (by decide) rfl ?_
          refine v_aload_n (j := 0) (q := 32) rfl dX9_begin_31 rfl ?_
          refine v_cVV0 (q := 35) dX9_begin_32 mlX9_97 mdX9_recordChange (by decide) kd_0 rfl rfl ⟨Nat.le_refl 0, Nat.le_refl 0⟩ (by exact Nat.le_of_ble_eq_true rfl) rfl (c_X9_recordChange mem r3 r4 r5) ?_
          rintro _ rfl
          refine v_aload_n (j := 0) (q := 36) rfl dX9_begin_35 rfl ?_
          refine v_getR (p' := 1) (q := 39) dX9_begin_36 fl_X9_12 kd_0 rfl (rfc_9_0 kd_0) rfl ?_
          refine v_iload_n (j := 1) (q := 40) rfl dX9_begin_39 rfl ?_
          refine v_iload_n (j := 2) (q := 41) rfl dX9_begin_40 rfl ?_
          refine v_cVV2 (q := 44) dX9_begin_41 mlX9_100 mdX4_reset (by decide) kd_1 rfl rfl ⟨Nat.le_refl 0, Nat.le_refl 0⟩ (by exact Nat.le_of_ble_eq_true rfl) rfl (c_X4_reset 1 _ _ _ su_1) ?_
          rintro _ rfl
          refine v_iload_n (j := 3) (q := 45) rfl dX9_begin_44 rfl ?_
          refine v_iret dX9_begin_45 ?_
          refine ⟨_, rfl, ?_⟩
          unfold sBegin
          rw [if_pos (by omega)]
          have o : ∀ q, q ≠ 1 → um (um (um (um (um (fgM (recM mem)) 1 0 s) 1 1 g) 1 2 0) 1 3 1) 1 4 0 q = fgM (recM mem) q := fun q hq => by rw [um_ne _ _ _ hq, um_ne _ _ _ hq, um_ne _ _ _ hq, um_ne _ _ _ hq, um_ne _ _ _ hq]
          have o1 : ∀ j, um (um (um (um (um (fgM (recM mem)) 1 0 s) 1 1 g) 1 2 0) 1 3 1) 1 4 0 1 j = if j = 4 then 0 else if j = 3 then 1 else if j = 2 then 0 else if j = 1 then g else if j = 0 then s else fgM (recM mem) 1 j := fun j => by
            rw [um_same, um_same, um_same, um_same, um_same]; rfl
          refine ⟨hc, ⟨⟨?_, ?_, ?_, ?_⟩, r1.2.1.congr (fun q a b => o q (by omega)), r1.2.2.congr (o 23 (by decide)) (o 24 (by decide))⟩, Or.inl ⟨by rw [o 0 (by decide)]; exact r2.1, by rw [o 42 (by decide)]; exact r2.2.1, by rw [o 83 (by decide)]; exact r2.2.2.1, fun q hq => by rw [o q (by omega)]; exact r2.2.2.2 q hq⟩⟩
          · unfold syC
            rw [o1, o1, o1, o1, o1]
            rfl
          · rw [o1]; simp
          · have hw := isW_1 (g := g) (by omega)
            exact ⟨by show 1 ≤ s ∧ s ≤ 4; omega, by show 1 ≤ g ∧ g ≤ 5; omega, by show (0 : Int) ≤ 0 ∧ 0 < s; omega, by show isW 1 g ∧ 1 ≤ nd 1 ∧ nd 1 ≤ 4; rw [hw.2]; exact ⟨hw.1, by omega, by omega⟩, by show 0 ≤ 20; omega, fun r hr => by cases hr⟩
          · rw [o 2 (by decide)]
            exact r1.1.2.2.2
        · refine v_bipush (q := 22) (by decide) dX9_begin_20 rfl ?_
          refine v_iret dX9_begin_22 ?_
          refine ⟨_, rfl, ?_⟩
          unfold sBegin
          rw [if_neg (by omega)]
          exact ⟨rfl, h, Or.inr ⟨rfl, fun _ _ => rfl⟩⟩
