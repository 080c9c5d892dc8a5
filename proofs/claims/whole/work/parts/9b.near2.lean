/-! ===== Machine.leastStack, StackLab.nearestStack ===== -/
def RSh (y : Sy) (m : Mem) (p x C : Int) (pre : List Int) (e : Nat) : Prop := ∃ s d W1, RDa (AD y) p x s d ∧ PTH y pre s (nodE e) W1 ∧ (d + W1) * 16777216 + (pre.length : Int) + m 110 e = C
section Nearest
variable {y : Sy} {m : Mem} {p x c : Int}
theorem RSge (ok : okS y) (hm : MO m y) (hc : TMn NO (HC y p x) c) (hl : c < 16777232777216) {pre : List Int} {e : Nat} (he : e < 24) {s d W1 : Int} (a : RDa (AD y) p x s d) (b : PTH y pre s (nodE e) W1) : c - 1 ≤ (d + W1) * 16777216 + (pre.length : Int) + m 110 e := by
  have hNO := NO_def
  have n := a.nn ok
  have k := PTH.mid ok n.2 b
  have t := hm.2.2.2.2.2 e he
  rcases Int.lt_or_le (m 110 e) NO with g | g
  · obtain ⟨u, hu, hlen⟩ := (HWy.nn ok (by omega) (t.2.1 g)).2 g
    have h0 := (HWy.nn ok (e := (e : Int)) (by omega) (t.2.1 g)).1
    have ds : DSt y p x (pre ++ u) (d + (W1 + m 110 e / 16777216)) := ⟨s, d, _, a, PTH.app hu b, rfl⟩
    rcases Int.lt_or_le ((d + (W1 + m 110 e / 16777216)) * 16777216 + 1 + ((pre ++ u).length : Int)) NO with g2 | g2
    · have := hc.2.2 _ ⟨_, _, ds, rfl⟩ g2
      rw [List.length_append] at this
      omega
    · rw [List.length_append] at g2
      omega
  · omega
theorem RS0 (ok : okS y) (hm : MO m y) (hp : 0 ≤ p ∧ p < 4) (hx : 1 ≤ x ∧ x ≤ 5) (hc : TMn NO (HC y p x) c) (hl : c < 16777232777216) {e : Nat} (he : e < 24) : thr9 m e (p * 5 + x - 1) = c ↔ RSh y m p x (c - 1) [] e := by
  have hNO := NO_def
  obtain ⟨r1, r2, r3⟩ := hm.2.2.1 e he (p * 5 + x - 1) (by omega) (by omega)
  rw [show (p * 5 + x - 1) / 5 = p by omega, show (p * 5 + x - 1) % 5 + 1 = x by omega] at r2 r3
  have rr := rdw_ok ok p x (nodE e)
  have et : (e : Int).toNat = e := by omega
  have l0 : (([] : List Int).length : Int) = 0 := rfl
  unfold thr9
  rw [et]
  constructor
  · intro h
    by_cases g : m (86 + e) (p * 5 + x - 1) < 16777232777216
    · rw [if_pos g] at h
      have q := r2 (by omega)
      exact ⟨_, _, 0, rr.2.1 (by omega), ⟨rfl, rfl⟩, by omega⟩
    · rw [if_neg g] at h; omega
  · rintro ⟨s, d, W1, a, ⟨b1, b2⟩, b3⟩
    subst b1
    have h0 := hm.home ok (e := (e : Int)) (by omega)
    have q1 := rr.2.2 d a (by omega)
    have q2 := r3 (by omega)
    have q3 := r2 q2
    have ge := RSge ok hm hc hl he (pre := []) (rr.2.1 (by omega)) ⟨rfl, rfl⟩
    rw [if_pos (by omega)]
    omega
theorem RSstep (ok : okS y) (hm : MO m y) (hc : TMn NO (HC y p x) c) (hl : c < 16777232777216) {pre : List Int} {l : Int} {e' : Nat} (he : e' < 24) : RSh y m p x (c - 1) (pre ++ [l]) e' ↔ ∃ e : Nat, e < 24 ∧ RSh y m p x (c - 1) pre e ∧ (1 ≤ l ∧ l ≤ 5) ∧ m 84 (wx ((e : Int) + 4) l e') ≠ -6 ∧ m 84 (wx ((e : Int) + 4) l e') * 16777216 + 1 + m 110 e' = m 110 e := by
  have hNO := NO_def
  have l1 : ((pre ++ [l]).length : Int) = (pre.length : Int) + 1 := by rw [List.length_append]; rfl
  have tab : ∀ (e : Nat), e < 24 → 1 ≤ l ∧ l ≤ 5 → m 84 (wx ((e : Int) + 4) l e') = if arw y (nodE e) l (nodE e') = 1000001 then -6 else arw y (nodE e) l (nodE e') := fun e h1 h2 => by
    have := hm.2.1 ((e : Int) + 4) l e' ⟨by omega, by omega⟩ (by omega) (by omega)
    rw [nodE_sub (by omega), show (e : Int) + 4 - 4 = e by omega] at this
    exact this
  have h0' := hm.home ok (e := (e' : Int)) (by omega)
  constructor
  · rintro ⟨s, d, W, a, b, h⟩
    obtain ⟨t, W1, w, b1, b2, b3⟩ := PTH.cut b
    have b2 := PTH.one.mp b2
    have n := a.nn ok
    have k := PTH.mid ok n.2 b1
    obtain ⟨e, hee, het⟩ := isN_E ok k.1
    subst het
    have lb := AD.lab ok k.1 b2
    have wr := (b2.ok ok).1
    have ge := RSge ok hm hc hl hee a b1
    have h0 := hm.home ok (e := (e : Int)) (by omega)
    have aw := arw_ok ok (nodE e) l (nodE e')
    have ar := arw_rng ok (nodE e) l (nodE e')
    have aw2 := aw.2.2 w b2 (by omega)
    have tb := tab e hee lb
    rw [if_neg (by omega)] at tb
    -- the way over the arc
    have th := hm.2.2.2.2.2 e hee
    have th' := hm.2.2.2.2.2 e' he
    obtain ⟨u, hu, hlen⟩ := (HWy.nn ok (e := (e' : Int)) (by omega) (th'.2.1 (by omega))).2 (by omega)
    have hw2 : HWy y e (arw y (nodE e) l (nodE e') * 16777216 + 1 + m 110 e') := ⟨l :: u, arw y (nodE e) l (nodE e') + m 110 e' / 16777216, ⟨_, _, aw.2.1 (by omega), by rw [show arw y (nodE e) l (nodE e') + m 110 e' / 16777216 - arw y (nodE e) l (nodE e') = m 110 e' / 16777216 by omega]; exact hu⟩, by rw [List.length_cons]; omega⟩
    have up := th.2.2 _ hw2 (by omega)
    refine ⟨e, hee, ⟨_, d, W1, a, b1, ?_⟩, lb, ?_, ?_⟩
    · omega
    · omega
    · omega
  · rintro ⟨e, hee, ⟨s, d, W1, a, b, h⟩, lb, g1, g2⟩
    have tb := tab e hee lb
    have aw := arw_ok ok (nodE e) l (nodE e')
    by_cases g : arw y (nodE e) l (nodE e') = 1000001
    · rw [if_pos g] at tb; exact absurd tb g1
    · rw [if_neg g] at tb
      have := aw.1
      exact ⟨s, d, _, a, PTH.app (PTH.one.mpr (aw.2.1 (by omega))) b, by omega⟩
theorem RSopt (ok : okS y) (hm : MO m y) (hc : TMn NO (HC y p x) c) (hl : c < 16777232777216) {pre v : List Int} {l : Int} (hD : DSt y p x (pre ++ l :: v) (c / 16777216)) (hN : ((pre ++ l :: v).length : Int) = c % 16777216 - 1) : ∃ e' : Nat, e' < 24 ∧ RSh y m p x (c - 1) (pre ++ [l]) e' := by
  have hNO := NO_def
  obtain ⟨s, d, W, a, b, h⟩ := hD
  rw [show pre ++ l :: v = (pre ++ [l]) ++ v by simp] at b hN
  obtain ⟨t, W1, W2, b1, b2, b3⟩ := PTH.cut b
  have n := a.nn ok
  have k := PTH.mid ok n.2 b1
  obtain ⟨e, hee, het⟩ := isN_E ok k.1
  subst het
  have k2 := PTH.len ok k.1 b2
  have ge := RSge ok hm hc hl hee a b1
  have th := (hm.2.2.2.2.2 e hee).2.2 (W2 * 16777216 + (v.length : Int)) ⟨v, W2, b2, rfl⟩ (by rw [List.length_append] at hN; omega)
  rw [List.length_append] at hN
  exact ⟨e, hee, s, d, W1, a, b1, by omega⟩
theorem RSnext (ok : okS y) (hm : MO m y) (hc : TMn NO (HC y p x) c) (hl : c < 16777232777216) {pre : List Int} {e : Nat} (he : e < 24) (h : RSh y m p x (c - 1) pre e) : (∃ v, DSt y p x (pre ++ v) (c / 16777216) ∧ ((pre ++ v).length : Int) = c % 16777216 - 1) := by
  have hNO := NO_def
  obtain ⟨s, d, W1, a, b, h⟩ := h
  have n := a.nn ok
  have k := PTH.mid ok n.2 b
  have h0 := hm.home ok (e := (e : Int)) (by omega)
  have t := hm.2.2.2.2.2 e he
  obtain ⟨u, hu, hlen⟩ := (HWy.nn ok (e := (e : Int)) (by omega) (t.2.1 (by omega))).2 (by omega)
  have k2 := PTH.len ok k.1 hu
  have k3 := isN_rng ok k.1
  have dn : DSt y p x (pre ++ u) (d + (W1 + m 110 e / 16777216)) := ⟨s, d, _, a, PTH.app hu b, rfl⟩
  have k4 := dn.nn ok
  rw [List.length_append] at k4
  refine ⟨u, ?_, ?_⟩
  · rw [show c / 16777216 = d + (W1 + m 110 e / 16777216) by omega]
    exact dn
  · rw [List.length_append]
    omega
end Nearest
theorem l_X1_lsReach {Post : AV → Mem → Prop} (mem : Mem) (y : Sy) (ok : okS y) (hm : MO mem y) (h x c : Int) (hh : 0 ≤ h ∧ h < 20) (hc : 0 ≤ c ∧ c < 16777232777216) (u7 u8 : AV) (K : ∀ U : Nat, U < 16777216 → (∀ e : Nat, e < 24 → (U.testBit e = true ↔ thr9 mem e h = c)) → V cX1_leastStack RX1 9 (some .int) (rmk 5 112) (mE Post) 66 [aR 83, aI h, aI x, aL c, aU, aI (U : Int), aI 24, u7, u8] [] mem) :
    ∀ (n k U : Nat), k + n = 24 → U < 16777216 → (∀ e : Nat, e < 24 → (U.testBit e = true ↔ e < k ∧ thr9 mem e h = c)) → V cX1_leastStack RX1 9 (some .int) (rmk 5 112) (mE Post) 32 [aR 83, aI h, aI x, aL c, aU, aI (U : Int), aI (k : Int), u7, u8] [] mem := by
  intro n
  induction n with
  | zero =>
    intro k U h1 h2 h3
    have hk : k = 24 := by omega
    subst hk
    refine v_iload (j := 6) (q := 34) rfl dX1_leastStack_32 rfl ?_
    refine v_bipush (q := 36) (by decide) dX1_leastStack_34 rfl ?_
    refine v_icmp_ge (tgt := 66) (q := 39) dX1_leastStack_36 (by decide) rfl (by omega) (by omega) (fun h36 => ?_) (fun h36 => ?_)
    · exact K U h2 (fun e he => by rw [h3 e he]; exact ⟨fun h => h.2, fun h => ⟨he, h⟩⟩)
    · exact absurd h36 (by omega)
  | succ n ih =>
    intro k U h1 h2 h3
    have tr := thr9_rng ok hm (e := (k : Int)) (x := h) (by omega) hh
    refine v_iload (j := 6) (q := 34) rfl dX1_leastStack_32 rfl ?_
    refine v_bipush (q := 36) (by decide) dX1_leastStack_34 rfl ?_
    refine v_icmp_ge (tgt := 66) (q := 39) dX1_leastStack_36 (by decide) rfl (by omega) (by omega) (fun h36 => ?_) (fun h36 => ?_)
    · exact absurd h36 (by omega)
    · refine v_aload_n (j := 0) (q := 40) rfl dX1_leastStack_39 rfl ?_
      refine v_iload (j := 6) (q := 42) rfl dX1_leastStack_40 rfl ?_
      refine v_iload_n (j := 1) (q := 43) rfl dX1_leastStack_42 rfl ?_
      refine v_cVL2 (q := 46) dX1_leastStack_43 mlX1_176 mdX1_costThrough (by decide) kd_83 rfl rfl ⟨Nat.le_refl 0, Nat.le_refl 0⟩ (by exact Nat.le_of_ble_eq_true rfl) rfl (c_X1_costThrough k h mem y ok hm (by omega) hh) ?_
      rintro _ _ ⟨rfl, rfl⟩
      refine v_lload_n (j := 3) (q := 47) rfl dX1_leastStack_46 rfl ?_
      refine v_lcmp_ne (tgt := 60) (q := 51) dX1_leastStack_47 dX1_leastStack_48 (by decide) rfl (by omega) (by omega) (fun h47 => ?_) (fun h47 => ?_)
      · refine v_iinc6 (q := 63) rfl dX1_leastStack_60 (by decide) rfl ?_
        refine v_goto (q := 32) dX1_leastStack_63 (by decide) ?_
        first
          | (have h47' : ¬ thr9 mem k h = c := h47
             refine ih (k + 1) U (by omega) h2 (fun e he => ?_)
             rw [h3 e he]
             refine ⟨fun g => ⟨by omega, g.2⟩, fun g => ⟨?_, g.2⟩⟩
             by_cases g9 : e = k
             · rw [g9] at g; exact absurd g.2 h47'
             · omega)
          | (have h47' : thr9 mem k h = c := h47
             refine ih (k + 1) _ (by omega) (or_lt24 h2 (by omega)) (fun e he => ?_)
             rw [or_pow_bit, h3 e he]
             constructor
             · rintro (g | g)
               · exact ⟨by omega, g.2⟩
               · rw [← g]; exact ⟨by omega, h47'⟩
             · intro g
               by_cases g9 : e = k
               · exact Or.inr g9.symm
               · exact Or.inl ⟨by omega, g.2⟩)
      · refine v_iload (j := 5) (q := 53) rfl dX1_leastStack_51 rfl ?_
        refine v_iconst (q := 54) dX1_leastStack_53 rfl ?_
        refine v_iload (j := 6) (q := 56) rfl dX1_leastStack_54 rfl ?_
        refine v_ishl (q := 57) (shl24 (by omega)) dX1_leastStack_56 rfl ?_
        refine v_ior (q := 58) (or32 (by omega) (pow24 (by omega))) dX1_leastStack_57 rfl ?_
        refine v_ist5 (q := 60) rfl dX1_leastStack_58 (by decide) rfl ?_
        refine v_iinc6 (q := 63) rfl dX1_leastStack_60 (by decide) rfl ?_
        refine v_goto (q := 32) dX1_leastStack_63 (by decide) ?_
        first
          | (have h47' : ¬ thr9 mem k h = c := h47
             refine ih (k + 1) U (by omega) h2 (fun e he => ?_)
             rw [h3 e he]
             refine ⟨fun g => ⟨by omega, g.2⟩, fun g => ⟨?_, g.2⟩⟩
             by_cases g9 : e = k
             · rw [g9] at g; exact absurd g.2 h47'
             · omega)
          | (have h47' : thr9 mem k h = c := h47
             refine ih (k + 1) _ (by omega) (or_lt24 h2 (by omega)) (fun e he => ?_)
             rw [or_pow_bit, h3 e he]
             constructor
             · rintro (g | g)
               · exact ⟨by omega, g.2⟩
               · rw [← g]; exact ⟨by omega, h47'⟩
             · intro g
               by_cases g9 : e = k
               · exact Or.inr g9.symm
               · exact Or.inl ⟨by omega, g.2⟩)
theorem take_app {u pre : List Int} {l : Int} (h : pre.length < u.length) (he : u.getD pre.length 0 = l) : u.take (pre ++ [l]).length = u.take pre.length ++ [l] := by
  rw [List.length_append, show pre.length + [l].length = pre.length + 1 from rfl, take_s h, he]
theorem lsL {y : Sy} {mem : Mem} {p x C : Int} {pre : List Int} {U : Nat} {L : Int} (nxt : ∃ l e', e' < 24 ∧ RSh y mem p x C (pre ++ [l]) e') (toB : ∀ l (e' : Nat), e' < 24 → RSh y mem p x C (pre ++ [l]) e' → ∃ j : Nat, j < 4032 ∧ mem 84 j ≠ -6 ∧ bst mem U j ∧ (j : Int) / 24 % 6 = l ∧ j % 24 = e') (ofB : ∀ j : Nat, j < 4032 → mem 84 j ≠ -6 → bst mem U j → (1 ≤ (j : Int) / 24 % 6 ∧ (j : Int) / 24 % 6 ≤ 5) ∧ RSh y mem p x C (pre ++ [(j : Int) / 24 % 6]) (j % 24)) (g1 : L = 6 ∨ ∃ j : Nat, j < 4032 ∧ mem 84 j ≠ -6 ∧ bst mem U j ∧ (j : Int) / 24 % 6 = L) (g2 : ∀ j : Nat, j < 4032 → mem 84 j ≠ -6 → bst mem U j → L ≤ (j : Int) / 24 % 6) : (1 ≤ L ∧ L ≤ 5) ∧ ∃ e', e' < 24 ∧ RSh y mem p x C (pre ++ [L]) e' := by
  rcases g1 with g1 | ⟨j, a1, a2, a3, a4⟩
  · obtain ⟨l, e', h1, h2⟩ := nxt
    obtain ⟨j, b1, b2, b3, b4, b5⟩ := toB l e' h1 h2
    have := g2 j b1 b2 b3
    have := (ofB j b1 b2 b3).1
    omega
  · obtain ⟨c1, c2⟩ := ofB j a1 a2 a3
    rw [a4] at c1 c2
    exact ⟨c1, j % 24, by omega, c2⟩
theorem l_X1_lsWalk (mem : Mem) (y : Sy) (ok : okS y) (hm : MO mem y) (p x c : Int) (hv : hval y p x) (hc : TMn NO (HC y p x) c) (hl : 0 ≤ c ∧ c < 16777232777216) (h6 : c % 16777216 ≤ 6) :
    ∀ (n : Nat) (k : Int) (pre : List Int) (U : Nat) (u8 : AV), k + n = c % 16777216 → k = (pre.length : Int) + 1 → U < 16777216 → (∀ e : Nat, e < 24 → (U.testBit e = true ↔ RSh y mem p x (c - 1) pre e)) → (∃ e : Nat, e < 24 ∧ RSh y mem p x (c - 1) pre e) → (∀ u', DSt y p x u' (c / 16777216) → (u'.length : Int) = c % 16777216 - 1 → (∃ v', u' = pre ++ v') ∨ num x pre < num x (u'.take pre.length)) →
    V cX1_leastStack RX1 9 (some .int) (rmk 5 112) (mE (fun r m => ∃ z, r = aI z ∧ mem = m ∧ sNs y p x z)) 72 [aR 83, aI (p * 5 + x - 1), aI x, aL c, aU, aI (U : Int), aI (num x pre), aI k, u8] [] mem := by
  have hNO := NO_def
  obtain ⟨k1, k2, k3⟩ := HC.inf ok hc
  obtain ⟨d1, d2, d3, d4⟩ := k2 hl.2
  intro n
  induction n with
  | zero =>
    intro k pre U u8 h1 h2 h3 h4 h5 h7
    refine v_iload (j := 7) (q := 74) rfl dX1_leastStack_72 rfl ?_
    refine v_lload_n (j := 3) (q := 75) rfl dX1_leastStack_74 rfl ?_
    refine v_cSNI1 (q := 78) dX1_leastStack_75 mlX1_189 mdX9_countOf (by decide) ⟨Nat.le_refl 0, Nat.le_refl 0⟩ (by exact Nat.le_of_ble_eq_true rfl) rfl (c_X9_countOf c mem (by omega)) ?_
    rintro _ _ ⟨rfl, rfl⟩
    refine v_icmp_ge (tgt := 115) (q := 81) dX1_leastStack_78 (by decide) rfl (by omega) (by omega) (fun h78 => ?_) (fun h78 => ?_)
    · refine v_iload (j := 6) (q := 117) rfl dX1_leastStack_115 rfl ?_
      refine v_iret dX1_leastStack_117 ?_
      obtain ⟨e, he, hr⟩ := h5
      obtain ⟨v, v1, v2⟩ := RSnext ok hm hc hl.2 he hr
      rw [List.length_append] at v2
      have ev : v = [] := List.length_eq_zero_iff.mp (by omega)
      rw [ev, List.append_nil] at v1
      refine ⟨_, rfl, rfl, Or.inr ⟨hv, Or.inr ⟨d2, Or.inr ⟨pre, by omega, by rw [d1]; exact v1, fun u' hu' => ?_, fun u' hu' hlen => ?_, rfl⟩⟩⟩⟩
      · rw [d1] at hu'
        have := d4 u' hu'
        omega
      · rw [d1] at hu'
        rcases h7 u' hu' (by omega) with ⟨v', e9⟩ | g
        · have : v'.length = 0 := by rw [e9, List.length_append] at hlen; omega
          rw [e9, List.length_eq_zero_iff.mp this, List.append_nil]
          exact Int.le_refl _
        · rw [← hlen, List.take_length] at g
          omega
    · exact absurd h78 (by omega)
  | succ n ih =>
    intro k pre U u8 h1 h2 h3 h4 h5 h7
    -- a label to go on with
    have nxt : ∃ l e', e' < 24 ∧ RSh y mem p x (c - 1) (pre ++ [l]) e' := by
      obtain ⟨e, he, hr⟩ := h5
      obtain ⟨v, v1, v2⟩ := RSnext ok hm hc hl.2 he hr
      cases v with
      | nil => rw [List.append_nil] at v2; omega
      | cons l v =>
        obtain ⟨e', a1, a2⟩ := RSopt ok hm hc hl.2 v1 v2
        exact ⟨l, e', a1, a2⟩
    have toB : ∀ l (e' : Nat), e' < 24 → RSh y mem p x (c - 1) (pre ++ [l]) e' → ∃ j : Nat, j < 4032 ∧ mem 84 j ≠ -6 ∧ bst mem U j ∧ (j : Int) / 24 % 6 = l ∧ j % 24 = e' := fun l e' he' hr => by
      obtain ⟨e, he, r1, lb, g1, g2⟩ := (RSstep ok hm hc hl.2 he').mp hr
      obtain ⟨j, hj⟩ : ∃ j : Nat, (j : Int) = wx ((e : Int) + 4) l e' := ⟨(wx ((e : Int) + 4) l e').toNat, by unfold wx; omega⟩
      have hj2 := hj
      unfold wx at hj2
      rw [← hj] at g1 g2
      refine ⟨j, by omega, g1, ⟨by omega, ?_, ?_⟩, by omega, by omega⟩
      · rw [show j / 144 - 4 = e by omega]
        exact (h4 e he).mpr r1
      · rw [show (j : Int) % 24 = e' by omega, show (j : Int) / 144 - 4 = e by omega]
        exact g2
    have ofB : ∀ j : Nat, j < 4032 → mem 84 j ≠ -6 → bst mem U j → (1 ≤ (j : Int) / 24 % 6 ∧ (j : Int) / 24 % 6 ≤ 5) ∧ RSh y mem p x (c - 1) (pre ++ [(j : Int) / 24 % 6]) (j % 24) := fun j hj hp ⟨b1, b2, b3⟩ => by
      have r1 := (h4 (j / 144 - 4) (by omega)).mp b2
      have lb : 1 ≤ (j : Int) / 24 % 6 ∧ (j : Int) / 24 % 6 ≤ 5 := by
        obtain ⟨s, d, W1, a, b, -⟩ := r1
        have k := PTH.mid ok (a.nn ok).2 b
        have t := hm.2.1 ((j : Int) / 144) ((j : Int) / 24 % 6) ((j : Int) % 24) ⟨by omega, by omega⟩ (by omega) (by omega)
        rw [show wx ((j : Int) / 144) ((j : Int) / 24 % 6) ((j : Int) % 24) = j by unfold wx; omega, nodE_sub b1, show (j : Int) / 144 - 4 = ((j / 144 - 4 : Nat) : Int) by omega] at t
        have aw := arw_ok ok (nodE ((j / 144 - 4 : Nat) : Int)) ((j : Int) / 24 % 6) (nodE ((j : Int) % 24))
        by_cases g : arw y (nodE ((j / 144 - 4 : Nat) : Int)) ((j : Int) / 24 % 6) (nodE ((j : Int) % 24)) = 1000001
        · rw [if_pos g] at t; exact absurd t hp
        · exact AD.lab ok k.1 (aw.2.1 (by have := aw.1; omega))
      refine ⟨lb, (RSstep ok hm hc hl.2 (by omega)).mpr ⟨j / 144 - 4, by omega, r1, lb, ?_, ?_⟩⟩
      · rw [show wx (((j / 144 - 4 : Nat) : Int) + 4) ((j : Int) / 24 % 6) ((j % 24 : Nat) : Int) = j by unfold wx; omega]
        exact hp
      · rw [show wx (((j / 144 - 4 : Nat) : Int) + 4) ((j : Int) / 24 % 6) ((j % 24 : Nat) : Int) = j by unfold wx; omega, show ((j % 24 : Nat) : Int) = (j : Int) % 24 by omega, show ((j / 144 - 4 : Nat) : Int) = (j : Int) / 144 - 4 by omega]
        exact b3
    refine v_iload (j := 7) (q := 74) rfl dX1_leastStack_72 rfl ?_
    refine v_lload_n (j := 3) (q := 75) rfl dX1_leastStack_74 rfl ?_
    refine v_cSNI1 (q := 78) dX1_leastStack_75 mlX1_189 mdX9_countOf (by decide) ⟨Nat.le_refl 0, Nat.le_refl 0⟩ (by exact Nat.le_of_ble_eq_true rfl) rfl (c_X9_countOf c mem (by omega)) ?_
    rintro _ _ ⟨rfl, rfl⟩
    refine v_icmp_ge (tgt := 115) (q := 81) dX1_leastStack_78 (by decide) rfl (by omega) (by omega) (fun h78 => ?_) (fun h78 => ?_)
    · exact absurd h78 (by omega)
    · refine v_aload_n (j := 0) (q := 82) rfl dX1_leastStack_81 rfl ?_
      refine v_iload (j := 5) (q := 84) rfl dX1_leastStack_82 rfl ?_
      refine v_cVI1 (q := 87) dX1_leastStack_84 mlX1_192 mdX1_leastLabel (by decide) kd_83 rfl rfl ⟨Nat.le_refl 0, Nat.le_refl 0⟩ (by exact Nat.le_of_ble_eq_true rfl) rfl (c_X1_leastLabel U mem y ok hm h3) ?_
      rintro L _ ⟨rfl, g1, g2⟩
      have hL : (1 ≤ L ∧ L ≤ 5) ∧ ∃ e', e' < 24 ∧ RSh y mem p x (c - 1) (pre ++ [L]) e' := (lsL nxt toB ofB g1 g2)
      refine v_ist8 (q := 89) rfl dX1_leastStack_87 (by decide) rfl ?_
      refine v_aload_n (j := 0) (q := 90) rfl dX1_leastStack_89 rfl ?_
      refine v_iload (j := 5) (q := 92) rfl dX1_leastStack_90 rfl ?_
      refine v_iload (j := 8) (q := 94) rfl dX1_leastStack_92 rfl ?_
      refine v_cVI2 (q := 97) dX1_leastStack_94 mlX1_195 mdX1_endsAfter (by decide) kd_83 rfl rfl ⟨Nat.le_refl 0, Nat.le_refl 0⟩ (by exact Nat.le_of_ble_eq_true rfl) rfl (c_X1_endsAfter U L mem y ok hm h3 (by omega)) ?_
      rintro _ _ ⟨rfl, V9, rfl, w1, w2⟩
      refine v_ist5 (q := 99) rfl dX1_leastStack_97 (by decide) rfl ?_
      refine v_iload (j := 6) (q := 101) rfl dX1_leastStack_99 rfl ?_
      refine v_bipush (q := 103) (by decide) dX1_leastStack_101 rfl ?_
      refine v_imul (q := 104) dX1_leastStack_103 rfl ?_
      refine v_iload (j := 8) (q := 106) rfl dX1_leastStack_104 rfl ?_
      refine v_iadd (q := 107) dX1_leastStack_106 rfl ?_
      refine v_ist6 (q := 109) rfl dX1_leastStack_107 (by decide) rfl ?_
      refine v_iinc7 (q := 112) rfl dX1_leastStack_109 (by decide) rfl ?_
      refine v_goto (q := 72) dX1_leastStack_112 (by decide) ?_
      have hk := ih (k + 1) (pre ++ [L]) V9 (aI L) (by omega) (by rw [List.length_append, show [L].length = 1 from rfl]; omega) w1 (fun e he => ?_) hL.2 (fun u' hu' hN => ?_)
      · rw [num_app] at hk
        exact hk
      · rw [w2 e he]
        constructor
        · rintro ⟨j, b1, b2, b3, b4, b5⟩
          have := (ofB j b1 b2 b3).2
          rw [b4, b5] at this
          exact this
        · exact toB L e he
      · have hlen : pre.length < u'.length := by omega
        have e1 : u'.take (pre ++ [L]).length = u'.take pre.length ++ [u'.getD pre.length 0] := by
          rw [List.length_append, show pre.length + [L].length = pre.length + 1 from rfl, take_s hlen]
        have lab : 1 ≤ u'.getD pre.length 0 ∧ u'.getD pre.length 0 ≤ 5 := by
          obtain ⟨s, d, W, a, b, -⟩ := hu'
          rw [List.getD_eq_getElem?_getD, List.getElem?_eq_getElem hlen]
          exact PTH.labs ok (a.nn ok).2 b _ (List.getElem_mem hlen)
        rw [e1, num_app, num_app]
        rcases h7 u' hu' hN with ⟨v', e9⟩ | g
        · have e8 : u'.take pre.length = pre := by rw [e9]; exact List.take_left
          cases v' with
          | nil => rw [List.append_nil] at e9; rw [e9] at hlen; omega
          | cons l v =>
            have el : u'.getD pre.length 0 = l := by
              rw [e9, List.getD_eq_getElem?_getD, List.getElem?_append_right (Nat.le_refl _), Nat.sub_self]
              rfl
            rw [e8, el]
            rw [e9] at hu' hN
            obtain ⟨e', a1, a2⟩ := RSopt ok hm hc hl.2 hu' hN
            obtain ⟨j, b1, b2, b3, b4, b5⟩ := toB l e' a1 a2
            have := g2 j b1 b2 b3
            by_cases gl : l = L
            · exact Or.inl ⟨v, by rw [e9, gl]; simp⟩
            · exact Or.inr (by omega)
        · exact Or.inr (by omega)
theorem c_X1_leastStack (p x : Int) (mem : Mem) (y : Sy) (ok : okS y) (hm : MO mem y) (hv : hval y p x) : CtrI mX1_leastStack [aR 83, aI (p * 5 + x - 1), aI x] mem (fun z m => mem = m ∧ sNs y p x z) := by
  have hS := ok.1
  have hG := ok.2.1
  have hp := hv.1
  have hx := hv.2
  refine Ctr.ofV (ls := [aR 83, aI (p * 5 + x - 1), aI x, aU, aU, aU, aU, aU, aU]) rfl (by decide) rfl (Nat.le_of_ble_eq_true rfl) ?_
  refine v_aload_n (j := 0) (q := 1) rfl dX1_leastStack_0 rfl ?_
  refine v_iload_n (j := 1) (q := 2) rfl dX1_leastStack_1 rfl ?_
  refine v_cVL1 (q := 5) dX1_leastStack_2 mlX1_186 mdX1_costOfHead (by decide) kd_83 rfl rfl ⟨Nat.le_refl 0, Nat.le_refl 0⟩ (by exact Nat.le_of_ble_eq_true rfl) rfl (c_X1_costOfHead (p * 5 + x - 1) mem y ok hm (by omega)) ?_
  rw [show (p * 5 + x - 1) / 5 = p by omega, show (p * 5 + x - 1) % 5 + 1 = x by omega]
  rintro c _ ⟨rfl, g1, g2⟩
  obtain ⟨k1, k2, k3⟩ := HC.inf ok g1
  refine v_lst3 (q := 6) rfl dX1_leastStack_5 (by decide) rfl ?_
  refine v_lload_n (j := 3) (q := 7) rfl dX1_leastStack_6 rfl ?_
  refine v_ldc2 (n := 16777232777216) (q := 10) klX1_65 rfl dX1_leastStack_7 rfl ?_
  refine v_lcmp_ge (tgt := 23) (q := 14) dX1_leastStack_10 dX1_leastStack_11 (by decide) rfl (by omega) (by omega) (fun h10 => ?_) (fun h10 => ?_)
  · refine v_bipush (q := 25) (by decide) dX1_leastStack_23 rfl ?_
    refine v_iret dX1_leastStack_25 ?_
    first
      | exact ⟨_, rfl, rfl, Or.inr ⟨hv, Or.inl ⟨k3 (by omega), rfl⟩⟩⟩
      | (obtain ⟨d1, d2, d3, d4⟩ := k2 (by omega)
         exact ⟨_, rfl, rfl, Or.inr ⟨hv, Or.inr ⟨d2, Or.inl ⟨fun u hu => by rw [d1] at hu; have := d4 u hu; omega, rfl⟩⟩⟩⟩)
  · refine v_lload_n (j := 3) (q := 15) rfl dX1_leastStack_14 rfl ?_
    refine v_cSNI1 (q := 18) dX1_leastStack_15 mlX1_189 mdX9_countOf (by decide) ⟨Nat.le_refl 0, Nat.le_refl 0⟩ (by exact Nat.le_of_ble_eq_true rfl) rfl (c_X9_countOf c mem (by omega)) ?_
    rintro _ _ ⟨rfl, rfl⟩
    refine v_bipush (q := 20) (by decide) dX1_leastStack_18 rfl ?_
    refine v_icmp_le (tgt := 26) (q := 23) dX1_leastStack_20 (by decide) rfl (by omega) (by omega) (fun h20 => ?_) (fun h20 => ?_)
    · refine v_iconst (q := 27) dX1_leastStack_26 rfl ?_
      refine v_ist5 (q := 29) rfl dX1_leastStack_27 (by decide) rfl ?_
      refine v_iconst (q := 30) dX1_leastStack_29 rfl ?_
      refine v_ist6 (q := 32) rfl dX1_leastStack_30 (by decide) rfl ?_
      have hlt : c < 16777232777216 := by omega
      obtain ⟨d1, d2, ⟨u0, d3, d5⟩, d4⟩ := k2 hlt
      refine l_X1_lsReach (Post := (fun r m => ∃ z, r = aI z ∧ mem = m ∧ sNs y p x z)) mem y ok hm (p * 5 + x - 1) x c (by omega) (by omega) _ _ (fun U w1 w2 => ?_) 24 0 0 (by omega) (by omega) (fun e _ => by rw [Nat.zero_testBit]; exact ⟨fun h => absurd h (by decide), fun h => absurd h.1 (by omega)⟩)
      have w3 : ∀ e : Nat, e < 24 → (U.testBit e = true ↔ RSh y mem p x (c - 1) [] e) := fun e he => by rw [w2 e he]; exact RS0 ok hm (by omega) (by omega) g1 hlt he
      obtain ⟨e9, f0, f1, f2⟩ := g2 hlt
      obtain ⟨en, hen⟩ : ∃ en : Nat, (en : Int) = e9 := ⟨e9.toNat, by omega⟩
      subst hen
      refine v_iload_n (j := 2) (q := 67) rfl dX1_leastStack_66 rfl ?_
      refine v_ist6 (q := 69) rfl dX1_leastStack_67 (by decide) rfl ?_
      refine v_iconst (q := 70) dX1_leastStack_69 rfl ?_
      refine v_ist7 (q := 72) rfl dX1_leastStack_70 (by decide) rfl ?_
      exact l_X1_lsWalk mem y ok hm p x c hv g1 (by omega) (by omega) (c % 16777216 - 1).toNat 1 [] U _ (by omega) rfl w1 w3 ⟨en, by omega, (RS0 ok hm (by omega) (by omega) g1 hlt (by omega)).mp f2⟩ (fun u' _ _ => Or.inl ⟨u', rfl⟩)
    · refine v_bipush (q := 25) (by decide) dX1_leastStack_23 rfl ?_
      refine v_iret dX1_leastStack_25 ?_
      first
        | exact ⟨_, rfl, rfl, Or.inr ⟨hv, Or.inl ⟨k3 (by omega), rfl⟩⟩⟩
        | (obtain ⟨d1, d2, d3, d4⟩ := k2 (by omega)
           exact ⟨_, rfl, rfl, Or.inr ⟨hv, Or.inr ⟨d2, Or.inl ⟨fun u hu => by rw [d1] at hu; have := d4 u hu; omega, rfl⟩⟩⟩⟩)
theorem c_X9_nearestStack (p x : Int) (mem : Mem) (A : AS) (h : KI MO mem A) (hp : R32 p) (hx : R32 x) : CtrI mX9_nearestStack [aR 0, aI p, aI x] mem (fun z m => sNs A.1 p x z ∧ KQ MO mem A m) := by
  have f := h.1.1.facts
  obtain ⟨a1, a2, a3, a4, a5, hc⟩ := eA h.1.1
  have ok := h.1.1.2.2.1
  refine Ctr.ofV (ls := [aR 0, aI p, aI x]) rfl (by decide) rfl (Nat.le_of_ble_eq_true rfl) ?_
  refine v_aload_n (j := 0) (q := 1) rfl dX9_nearestStack_0 rfl ?_
  refine v_iload_n (j := 1) (q := 2) rfl dX9_nearestStack_1 rfl ?_
  refine v_cVI1 (q := 5) dX9_nearestStack_2 mlX9_104 mdX9_isState (by decide) kd_0 rfl rfl ⟨Nat.le_refl 0, Nat.le_refl 0⟩ (by exact Nat.le_of_ble_eq_true rfl) rfl (c_X9_isState p mem hp (by omega)) ?_
  rw [← a1]
  rintro _ _ ⟨rfl, rfl⟩
  refine v_if_eqB (tgt := 16) (q := 8) dX9_nearestStack_5 (by decide) rfl (fun h5 => ?_) (fun h5 => ?_)
  · refine v_iconst (q := 17) dX9_nearestStack_16 rfl ?_
    refine v_iret dX9_nearestStack_17 ?_
    refine ⟨_, rfl, Or.inl ⟨fun hv => ?_, rfl⟩, h.1, h.2, fun _ _ => rfl⟩
    first
      | exact h5 hv.1
      | exact h13 hv.2
  · refine v_aload_n (j := 0) (q := 9) rfl dX9_nearestStack_8 rfl ?_
    refine v_iload_n (j := 2) (q := 10) rfl dX9_nearestStack_9 rfl ?_
    refine v_cVI1 (q := 13) dX9_nearestStack_10 mlX9_108 mdX9_isSymbol (by decide) kd_0 rfl rfl ⟨Nat.le_refl 0, Nat.le_refl 0⟩ (by exact Nat.le_of_ble_eq_true rfl) rfl (c_X9_isSymbol x mem hx (by omega)) ?_
    rw [← a2]
    rintro _ _ ⟨rfl, rfl⟩
    refine v_if_neB (tgt := 18) (q := 16) dX9_nearestStack_13 (by decide) rfl (fun h13 => ?_) (fun h13 => ?_)
    · refine v_aload_n (j := 0) (q := 19) rfl dX9_nearestStack_18 rfl ?_
      refine v_cVV0 (q := 22) dX9_nearestStack_19 mlX9_199 mdX9_buildMachine (by decide) kd_0 rfl rfl ⟨Nat.le_refl 0, Nat.le_refl 0⟩ (by exact Nat.le_of_ble_eq_true rfl) rfl (c_X9_buildMachine mem A.1 h.1.1 h.2) ?_
      rintro m1 ⟨o1, o2, o3⟩
      refine v_aload_n (j := 0) (q := 23) rfl dX9_nearestStack_22 rfl ?_
      refine v_getR (p' := 83) (q := 26) dX9_nearestStack_23 fl_X9_89 kd_0 rfl (rfc_9_13 kd_0) rfl ?_
      refine v_iload_n (j := 1) (q := 27) rfl dX9_nearestStack_26 rfl ?_
      refine v_iload_n (j := 2) (q := 28) rfl dX9_nearestStack_27 rfl ?_
      refine v_cSI2 (q := 31) dX9_nearestStack_28 mlX9_202 mdX9_headOf (by decide) ⟨Nat.le_refl 0, Nat.le_refl 0⟩ (by exact Nat.le_of_ble_eq_true rfl) rfl (c_X9_headOf p x m1) ?_
      rintro _ _ ⟨rfl, rfl⟩
      refine v_iload_n (j := 2) (q := 32) rfl dX9_nearestStack_31 rfl ?_
      refine v_cVI2 (q := 35) dX9_nearestStack_32 mlX9_208 mdX1_leastStack (by decide) kd_83 rfl rfl ⟨Nat.le_refl 0, Nat.le_refl 0⟩ (by exact Nat.le_of_ble_eq_true rfl) rfl (c_X1_leastStack p x m1 A.1 ok o3 ⟨h5, h13⟩) ?_
      rintro z _ ⟨rfl, g1⟩
      refine v_iret dX9_nearestStack_35 ?_
      exact ⟨_, rfl, g1, KQ.mach h o1 o2⟩
    · refine v_iconst (q := 17) dX9_nearestStack_16 rfl ?_
      refine v_iret dX9_nearestStack_17 ?_
      refine ⟨_, rfl, Or.inl ⟨fun hv => ?_, rfl⟩, h.1, h.2, fun _ _ => rfl⟩
      first
        | exact h5 hv.1
        | exact h13 hv.2
