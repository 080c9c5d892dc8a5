/-! ===== Search.advance ===== -/
theorem left_iff {y : Sy} (ok : okS y) {r : Rl} (hr : r ∈ y.2.2.2.2) {p : Int} {s : List Int} {q : Int} {t : List Int} {z W n : Int} (hz : TMn NO (RC BB y.2.2.2.2 (-6) p s q t) z) (h1 : 0 < n) (h2 : n ≤ W) (h3 : W ≤ 1000000) : cr BB r + z = W * 16777216 + n ↔ lm y.2.2.2.2 (-6) p s q t = some (W - r.2.2.2.2, n - 1) := by
  obtain ⟨a, b, c⟩ := lm_C ok hz
  have hw := (ok.2.2.2.2.2 r hr).2.2.2.2
  have e : cr BB r = r.2.2.2.2 * 16777216 + 1 := rfl
  rw [e]
  constructor
  · intro h
    have hlt : z < 16777232777216 := by omega
    obtain ⟨b1, b2⟩ := b hlt
    rw [b1]
    have e1 : z / 16777216 = W - r.2.2.2.2 := by omega
    have e2 : z % 16777216 = n - 1 := by omega
    rw [e1, e2]
  · intro h
    by_cases hlt : z < 16777232777216
    · obtain ⟨b1, b2⟩ := b hlt
      rw [b1] at h
      have h9 := Option.some.inj h
      have e1 : z / 16777216 = W - r.2.2.2.2 := congrArg Prod.fst h9
      have e2 : z % 16777216 = n - 1 := congrArg Prod.snd h9
      omega
    · rw [c (by omega)] at h
      cases h
def advQ (y : Sy) (q : Int) (t : List Int) (c : Nat) (a : Cf) (mem : Mem) (z : Int) (m : Mem) : Prop := ∃ k b, wF y.2.2.2.2 q t a k b ∧ (k : Int) = z ∧ k < y.2.2.2.2.length ∧ lm y.2.2.2.2 (-6) b.1 b.2.1 q t = some (b.2.2.1, b.2.2.2) ∧ frS c mem m ∧ m c 1 = b.2.1.length ∧ SOK y (-6) q t m c b.2.1
theorem l_X3_adv (c : Nat) (mem : Mem) (y : Sy) (q : Int) (t s : List Int) (p x W n : Int) (h0 : SQ0 y (-6) q t c) (hq : SQ y (-6) q t mem c) (hcap : s.length + 1 < capS c) (hp : 0 ≤ p ∧ p < y.1) (hx : 1 ≤ x ∧ x ≤ y.2.1) (hl : lm y.2.2.2.2 (-6) p (x :: s) q t = some (W, n)) (hn : 0 < n ∧ n ≤ W ∧ W ≤ 1000000) :
    ∀ (j k : Nat) (M : Mem), k + j = y.2.2.2.2.length → frS c mem M → M c 1 = s.length → SOK y (-6) q t M c s → (∀ j, j < k → ∀ r s', ¬ wok y.2.2.2.2 q t (p, x :: s, W, n) j r s') →
    V cX3_advance RX3 6 (some .int) (rmk 4 99) (mE (fun r m => ∃ z, r = aI z ∧ advQ y q t c (p, x :: s, W, n) mem z m)) 32 [aR c, aI p, aL (W * 16777216 + n), aU, aI (p * 5 + x - 1), aI k] [] M := by
  obtain ⟨ok, hc, hex, hq2, ht, hlt⟩ := id h0
  have hcp : capS c ≤ 310 := by unfold capS; split <;> omega
  have hS := ok.1
  have hG := ok.2.1
  have hlen := ok.2.2.2.2.1
  intro j
  induction j with
  | zero =>
    intro k M h1 hf hh hs hw
    obtain ⟨k9, b9, w9, -, w8, -⟩ := wF.ex ok (a := (p, x :: s, W, n)) hl hn.1
    obtain ⟨⟨r9, s9, w7, -⟩, -⟩ := w9
    exact absurd w7 (hw k9 (by omega) r9 s9)
  | succ j ih =>
    intro k M h1 hf hh hs hw
    have hk : k < y.2.2.2.2.length := by omega
    obtain ⟨r, hr⟩ : ∃ r, r = y.2.2.2.2[k] := ⟨_, rfl⟩
    have hr2 : y.2.2.2.2[k]? = some r := by rw [hr]; exact List.getElem?_eq_getElem hk
    have hmem := List.mem_of_getElem? hr2
    have okr := ok.2.2.2.2.2 r hmem
    have hq1 := hf.sq hq hc hlt
    have pk := hq1.1.2.2.2.2 k hk
    rw [← hr] at pk
    obtain ⟨p32, p33, p34, p35, p36, p37⟩ := pk
    have p37 : M 37 k = cr BB r := p37
    have e29 := hq1.1.2.1
    obtain ⟨c1, c2, c3⟩ := rl_cases okr hG.2 hS.2
    have ox := okr.2.1
    have op := okr.1
    have next : ∀ M', frS c M M' → M' c 1 = s.length → SOK y (-6) q t M' c s → (∀ r s', ¬ wok y.2.2.2.2 q t (p, x :: s, W, n) k r s') → V cX3_advance RX3 6 (some .int) (rmk 4 99) (mE (fun r m => ∃ z, r = aI z ∧ advQ y q t c (p, x :: s, W, n) mem z m)) 32 [aR c, aI p, aL (W * 16777216 + n), aU, aI (p * 5 + x - 1), aI ((k : Int) + 1)] [] M' := fun M' f1 f2 f3 f4 => ih (k + 1) M' (by omega) (hf.trans f1) f2 f3 (fun j2 hj2 r2 s2 => by
      by_cases e : j2 = k
      · rw [e]; exact f4 r2 s2
      · exact hw j2 (by omega) r2 s2)
    refine v_iload (j := 5) (q := 34) rfl dX3_advance_32 rfl ?_
    refine v_aload_n (j := 0) (q := 35) rfl dX3_advance_34 rfl ?_
    refine v_getR (p' := 29) (q := 38) dX3_advance_35 fl_X3_40 (sr0 hc) rfl (rfc_3_7 (sr0 hc)) rfl ?_
    refine v_getI (j := 1) (q := 41) dX3_advance_38 fl_X3_98 kd_29 rfl rfl rfl ?_
    rw [e29]
    refine v_icmp_ge (tgt := 96) (q := 44) dX3_advance_41 (by decide) rfl (by omega) (by omega) (fun h41 => ?_) (fun h41 => ?_)
    · exact absurd h41 (by omega)
    · refine v_aload_n (j := 0) (q := 45) rfl dX3_advance_44 rfl ?_
      refine v_getR (p' := 29) (q := 48) dX3_advance_45 fl_X3_40 (sr0 hc) rfl (rfc_3_7 (sr0 hc)) rfl ?_
      refine v_getR (p' := 32) (q := 51) dX3_advance_48 fl_X3_112 kd_29 rfl (rfc_2_4 kd_29) rfl ?_
      refine v_iload (j := 5) (q := 53) rfl dX3_advance_51 rfl ?_
      refine v_iald (q := 54) dX3_advance_53 kd_32 (by omega) (by omega) rfl ?_
      rw [p32]
      refine v_iload (j := 4) (q := 56) rfl dX3_advance_54 rfl ?_
      refine v_icmp_ne (tgt := 90) (q := 59) dX3_advance_56 (by decide) rfl (by omega) (by omega) (fun h56 => ?_) (fun h56 => ?_)
      · refine v_iinc5 (q := 93) rfl dX3_advance_90 (by decide) rfl ?_
        refine v_goto (q := 32) dX3_advance_93 (by decide) ?_
        first
          | (refine next M (frS.refl _ _) hh hs (fun r2 s2 hw2 => h56 ?_)
             have hw2 : y.2.2.2.2[k]? = some r2 ∧ r2.1 = p ∧ x :: s = r2.2.1 :: s2 ∧ _ := hw2
             have e1 := hw2.1
             rw [hr2] at e1
             cases e1
             have e3 := (List.cons.inj hw2.2.2.1).1
             have e2 := hw2.2.1
             show hdR r = p * 5 + x - 1
             unfold hdR
             rw [e2, e3])
          | (refine next M2 f1 f2 f3 (fun r2 s2 hw2 => h77 ?_)
             have hw2 : y.2.2.2.2[k]? = some r2 ∧ r2.1 = p ∧ x :: s = r2.2.1 :: s2 ∧ lm y.2.2.2.2 (-6) r2.2.2.1 (dgs r2.2.2.2.1 ++ s2) q t = some (W - r2.2.2.2.2, n - 1) := hw2
             have e1 := hw2.1
             rw [hr2] at e1
             cases e1
             have e3 := (List.cons.inj hw2.2.2.1).2
             have e4 := hw2.2.2.2
             rw [← e3] at e4
             exact li.mpr e4)
      · have x1 : r.1 = p ∧ r.2.1 = x := by unfold hdR at h56; omega
        refine v_aload_n (j := 0) (q := 60) rfl dX3_advance_59 rfl ?_
        refine v_getR (p' := 29) (q := 63) dX3_advance_60 fl_X3_40 (sr0 hc) rfl (rfc_3_7 (sr0 hc)) rfl ?_
        refine v_getR (p' := 37) (q := 66) dX3_advance_63 fl_X3_115 kd_29 rfl (rfc_2_9 kd_29) rfl ?_
        refine v_iload (j := 5) (q := 68) rfl dX3_advance_66 rfl ?_
        refine v_lald (q := 69) dX3_advance_68 kd_37 (by omega) (by omega) rfl ?_
        rw [p37]
        refine v_aload_n (j := 0) (q := 70) rfl dX3_advance_69 rfl ?_
        refine v_iload (j := 5) (q := 72) rfl dX3_advance_70 rfl ?_
        refine v_cVL1 (q := 75) dX3_advance_72 mlX3_145 mdX3_costAfter (by decide) (sr0 hc) rfl rfl ⟨Nat.le_refl 0, Nat.le_refl 0⟩ (by exact Nat.le_of_ble_eq_true rfl) rfl (c_X3_costAfter c M y (-6) q t s k r h0 hq1 hs hh (by omega) hr2) ?_
        rintro z M2 ⟨f1, f2, f3, f4⟩
        have li := left_iff ok hmem f4 hn.1 hn.2.1 hn.2.2
        have zr := (lm_C ok f4).1
        refine v_ladd (q := 76) dX3_advance_75 rfl ?_
        refine v_lload_n (j := 2) (q := 77) rfl dX3_advance_76 rfl ?_
        refine v_lcmp_ne (tgt := 90) (q := 81) dX3_advance_77 dX3_advance_78 (by decide) rfl (by omega) (by omega) (fun h77 => ?_) (fun h77 => ?_)
        · refine v_iinc5 (q := 93) rfl dX3_advance_90 (by decide) rfl ?_
          refine v_goto (q := 32) dX3_advance_93 (by decide) ?_
          first
            | (refine next M (frS.refl _ _) hh hs (fun r2 s2 hw2 => h56 ?_)
               have hw2 : y.2.2.2.2[k]? = some r2 ∧ r2.1 = p ∧ x :: s = r2.2.1 :: s2 ∧ _ := hw2
               have e1 := hw2.1
               rw [hr2] at e1
               cases e1
               have e3 := (List.cons.inj hw2.2.2.1).1
               have e2 := hw2.2.1
               show hdR r = p * 5 + x - 1
               unfold hdR
               rw [e2, e3])
            | (refine next M2 f1 f2 f3 (fun r2 s2 hw2 => h77 ?_)
               have hw2 : y.2.2.2.2[k]? = some r2 ∧ r2.1 = p ∧ x :: s = r2.2.1 :: s2 ∧ lm y.2.2.2.2 (-6) r2.2.2.1 (dgs r2.2.2.2.1 ++ s2) q t = some (W - r2.2.2.2.2, n - 1) := hw2
               have e1 := hw2.1
               rw [hr2] at e1
               cases e1
               have e3 := (List.cons.inj hw2.2.2.1).2
               have e4 := hw2.2.2.2
               rw [← e3] at e4
               exact li.mpr e4)
        · refine v_aload_n (j := 0) (q := 82) rfl dX3_advance_81 rfl ?_
          refine v_iload (j := 5) (q := 84) rfl dX3_advance_82 rfl ?_
          refine v_cVV1 (q := 87) dX3_advance_84 mlX3_149 mdX3_apply (by decide) (sr0 hc) rfl rfl ⟨Nat.le_refl 0, Nat.le_refl 0⟩ (by exact Nat.le_of_ble_eq_true rfl) rfl (c_X3_apply c M2 y (-6) q t s k r h0 (f1.sq hq1 hc hlt) f3 f2 hcap hr2) ?_
          rintro M3 ⟨g1, g2, g3⟩
          refine v_iload (j := 5) (q := 89) rfl dX3_advance_87 rfl ?_
          refine v_iret dX3_advance_89 ?_
          have lm9 := li.mp h77
          refine ⟨_, rfl, k, (r.2.2.1, dgs r.2.2.2.1 ++ s, W - r.2.2.2.2, n - 1), ⟨⟨r, s, ⟨hr2, x1.1, by show x :: s = _; rw [x1.2], lm9⟩, rfl⟩, fun j2 hj2 => hw j2 hj2⟩, rfl, hk, lm9, (hf.trans f1).trans g1, g2, g3⟩
theorem c_X3_advance (c : Nat) (mem : Mem) (y : Sy) (q : Int) (t s : List Int) (p x W n : Int) (h0 : SQ0 y (-6) q t c) (hq : SQ y (-6) q t mem c) (hs : SOK y (-6) q t mem c (x :: s)) (hh : mem c 1 = s.length + 1) (hcap : s.length + 1 < capS c) (hp : 0 ≤ p ∧ p < y.1) (hx : 1 ≤ x ∧ x ≤ y.2.1) (hl : lm y.2.2.2.2 (-6) p (x :: s) q t = some (W, n)) (hn : 0 < n ∧ n ≤ W ∧ W ≤ 1000000) : CtrI mX3_advance [aR c, aI p, aL (W * 16777216 + n)] mem (advQ y q t c (p, x :: s, W, n) mem) := by
  obtain ⟨ok, hc, hex, hq2, ht, hlt⟩ := id h0
  have hcp : capS c ≤ 310 := by unfold capS; split <;> omega
  have hl2 := hgt_low ok.1.2 hs.2.2 (s.length : Int)
  have hG := ok.2.1
  have hS := ok.1
  refine Ctr.ofV (ls := [aR c, aI p, aL (W * 16777216 + n), aU, aU, aU]) rfl (by decide) rfl (Nat.le_of_ble_eq_true rfl) ?_
  refine v_aload_n (j := 0) (q := 1) rfl dX3_advance_0 rfl ?_
  refine v_getI (j := 1) (q := 4) dX3_advance_1 fl_X3_17 (sr0 hc) rfl rfl rfl ?_
  refine v_if_ne (tgt := 9) (q := 7) dX3_advance_4 (by decide) rfl (by omega) (fun h4 => ?_) (fun h4 => ?_)
  · refine v_iload_n (j := 1) (q := 10) rfl dX3_advance_9 rfl ?_
    refine v_aload_n (j := 0) (q := 11) rfl dX3_advance_10 rfl ?_
    refine v_cVI0 (q := 14) dX3_advance_11 mlX3_141 mdX3_top (by decide) (sr0 hc) rfl rfl ⟨Nat.le_refl 0, Nat.le_refl 0⟩ (by exact Nat.le_of_ble_eq_true rfl) rfl (c_X3_top c mem y (-6) q t (x :: s) h0 hs (by rw [hh, List.length_cons]; omega) (by rw [List.length_cons]; omega)) ?_
    rintro _ _ ⟨rfl, rfl⟩
    refine v_cSNI2 (q := 17) dX3_advance_14 mlX3_86 mdX9_headOf (by decide) ⟨Nat.le_refl 0, Nat.le_refl 0⟩ (by exact Nat.le_of_ble_eq_true rfl) rfl (c_X9_headOf p x _) ?_
    rintro _ _ ⟨rfl, rfl⟩
    refine v_ist4 (q := 19) rfl dX3_advance_17 (by decide) rfl ?_
    refine v_aload_n (j := 0) (q := 20) rfl dX3_advance_19 rfl ?_
    refine v_dup (q := 21) rfl dX3_advance_20 rfl ?_
    refine v_getI (j := 1) (q := 24) dX3_advance_21 fl_X3_17 (sr0 hc) rfl rfl rfl ?_
    rw [hh]
    refine v_iconst (q := 25) dX3_advance_24 rfl ?_
    refine v_isub (q := 26) dX3_advance_25 rfl ?_
    rw [show (s.length : Int) + 1 - 1 = s.length by omega]
    refine v_putI (j := 1) (q := 29) dX3_advance_26 fl_X3_17 (sr0 hc) rfl rfl rfl ?_
    refine v_iconst (q := 30) dX3_advance_29 rfl ?_
    refine v_ist5 (q := 32) rfl dX3_advance_30 (by decide) rfl ?_
    exact l_X3_adv c mem y q t s p x W n h0 hq hcap hp hx hl hn y.2.2.2.2.length 0 _ (by omega) hl2.2.1 hl2.2.2 hl2.1 (fun j hj => absurd hj (by omega))
  · exact absurd h4 (by omega)
