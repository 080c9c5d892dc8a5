/-! ===== Machine.listArcs ===== -/
def bsI (y : Sy) (e : Int) : Int := if e < 20 then wx (e / 5) (e % 5 + 1) e else if e = 20 then wx y.2.2.1 (stS y 0) e else wx (e + 3) (stS y (e - 20)) e
def tgts (y : Sy) (e : Int) : List Int := bsI y e :: y.2.2.2.2.map (fun r => wx (tgS r) (tgL r) e)
def Jn (y : Sy) : Nat → List Int
  | 0 => []
  | n + 1 => Jn y n ++ tgts y n
theorem Jn_len {y : Sy} : ∀ n : Nat, (Jn y n).length = n * (y.2.2.2.2.length + 1)
  | 0 => by rw [Nat.zero_mul]; rfl
  | n + 1 => by
    rw [Jn, List.length_append, Jn_len n, Nat.succ_mul]
    unfold tgts
    rw [List.length_cons, List.length_map]
theorem Jn_mem {y : Sy} {e : Nat} {x : Int} (h : x ∈ tgts y e) : ∀ {n : Nat}, e < n → x ∈ Jn y n
  | 0, h9 => absurd h9 (by omega)
  | n + 1, h9 => by
    rw [Jn]
    by_cases g : e = n
    · subst g
      exact List.mem_append_right _ h
    · exact List.mem_append_left _ (Jn_mem h (by omega))
theorem BI.cap {y : Sy} (ok : okS y) {m : Mem} (h : BI y m (DnF y m)) : cP (fun i => m 84 i ≠ -6) 4032 ≤ 504 := by
  have h1 : cP (fun i => m 84 i ≠ -6) 4032 ≤ cP (fun i => i ∈ Jn y 24) 4032 := cP_le (fun i hi hp => by
    have hf : rg ((i : Int) / 144) ((i : Int) / 24 % 6) := ⟨by omega, by omega⟩
    obtain ⟨e, he⟩ : ∃ e : Nat, e = i % 24 := ⟨_, rfl⟩
    have ei : wx ((i : Int) / 144) ((i : Int) / 24 % 6) e = i := by unfold wx; omega
    rw [← ei] at hp ⊢
    have hD : DnF y m e := by
      by_cases hD : DnF y m e
      · exact hD
      · exact absurd ((h.2.2.2.2.1 e (by omega) hD).2 _ _ hf) hp
    have fe := (h.2.2.2.1 e (by omega) hD).1
    refine Jn_mem (e := e) ?_ (by omega)
    rcases fe.2.1 _ _ hf with g | ⟨g1, g2⟩ | ⟨k, r, g1, g2, g3, g4, g5⟩
    · exact absurd g hp
    · have : wx ((i : Int) / 144) ((i : Int) / 24 % 6) e = bsI y e := by
        unfold bsI
        rcases g1 with ⟨a, b, c⟩ | ⟨a, b, c⟩ | ⟨a, b, c⟩
        · rw [if_pos a, b, c]
        · rw [if_neg (by omega), if_pos a, b, c]
        · rw [if_neg (by omega), if_neg (by omega), b, c]
      rw [this]
      exact List.mem_cons_self
    · rw [g3, g4]
      exact List.mem_cons_of_mem _ (List.mem_map.mpr ⟨r, List.mem_of_getElem? g1, rfl⟩))
  have h2 := cP_mem (Jn y 24) 4032
  rw [Jn_len] at h2
  have := ok.2.2.2.2.1
  omega
def LSi (w : Int → Int) (m : Mem) (n : Nat) : Prop := m 83 1 = cP (fun i => w i ≠ -6) n ∧ ∀ i : Nat, i < n → w i ≠ -6 → m 113 (cP (fun i => w i ≠ -6) i) = (i : Int) / 144 ∧ m 114 (cP (fun i => w i ≠ -6) i) = (i : Int) / 24 % 6 ∧ m 115 (cP (fun i => w i ≠ -6) i) = (i : Int) % 24
def frL (mem m : Mem) : Prop := (∀ p, p < 83 ∨ (83 < p ∧ p < 113) ∨ 115 < p → m p = mem p) ∧ ∀ j, j ≠ 1 → m 83 j = mem 83 j
theorem l_X1_listArcs (mem : Mem) (hw : TWr (mem 84)) (hcap : cP (fun i => mem 84 i ≠ -6) 4032 ≤ 504) :
    ∀ (n j : Nat) (f l e : Int) (M : Mem), j + n = 4031 → (j : Int) = wx f l e → rg f l → 0 ≤ e → e < 24 → frL mem M → LSi (mem 84) M j →
    V cX1_listArcs RX1 5 none (rmk 0 0) (mE (fun r m => r = aU ∧ frL mem m ∧ LSi (mem 84) m 4032)) 26 [aR 83, aI j, aI f, aI l, aI e] [] M := by
  intro n
  induction n with
  | zero =>
    intro j f l e M h1 h2 hf e0 e1 h4 h5
    unfold wx at h2
    have ef : f = 27 := by have := hf.1; have := hf.2; omega
    have el : l = 5 := by have := hf.2; omega
    have ee : e = 23 := by omega
    subst ef; subst el; subst ee
    have ej : j = 4031 := by omega
    subst ej
    have e84 : M 84 = mem 84 := h4.1 84 (by omega)
    have wr := hw ((4031 : Nat) : Int) (by omega) (by omega)
    have nxt : ∀ m, frL mem m → LSi (mem 84) m 4032 → V cX1_listArcs RX1 5 none (rmk 0 0) (mE (fun r m => r = aU ∧ frL mem m ∧ LSi (mem 84) m 4032)) 95 [aR 83, aI ((4031 : Nat) : Int), aI 27, aI 5, aI 23] [] m := fun m g1 g2 => by
      refine v_iinc1 (q := 98) rfl dX1_listArcs_95 (by decide) rfl ?_
      refine v_iinc4 (q := 101) rfl dX1_listArcs_98 (by decide) rfl ?_
      refine v_goto (q := 26) dX1_listArcs_101 (by decide) ?_
      refine v_iload (j := 4) (q := 28) rfl dX1_listArcs_26 rfl ?_
      refine v_bipush (q := 30) (by decide) dX1_listArcs_28 rfl ?_
      refine v_icmp_ge (tgt := 104) (q := 33) dX1_listArcs_30 (by decide) rfl (by omega) (by omega) (fun h30 => ?_) (fun h30 => ?_)
      · refine v_iinc3 (q := 107) rfl dX1_listArcs_104 (by decide) rfl ?_
        refine v_goto (q := 17) dX1_listArcs_107 (by decide) ?_
        refine v_iload_n (j := 3) (q := 18) rfl dX1_listArcs_17 rfl ?_
        refine v_bipush (q := 20) (by decide) dX1_listArcs_18 rfl ?_
        refine v_icmp_ge (tgt := 110) (q := 23) dX1_listArcs_20 (by decide) rfl (by omega) (by omega) (fun h20 => ?_) (fun h20 => ?_)
        · refine v_iinc2 (q := 113) rfl dX1_listArcs_110 (by decide) rfl ?_
          refine v_goto (q := 9) dX1_listArcs_113 (by decide) ?_
          refine v_iload_n (j := 2) (q := 10) rfl dX1_listArcs_9 rfl ?_
          refine v_bipush (q := 12) (by decide) dX1_listArcs_10 rfl ?_
          refine v_icmp_ge (tgt := 116) (q := 15) dX1_listArcs_12 (by decide) rfl (by omega) (by omega) (fun h12 => ?_) (fun h12 => ?_)
          · refine v_vret dX1_listArcs_116 ?_
            exact ⟨rfl, g1, g2⟩
          · exact absurd h12 (by omega)
        · exact absurd h20 (by omega)
      · exact absurd h30 (by omega)
    have e84' : M 84 = mem 84 := e84
    obtain ⟨c, hc⟩ : ∃ c, c = cP (fun i => mem 84 i ≠ -6) 4031 := ⟨_, rfl⟩
    have hc9 : M 83 1 = c := by rw [hc]; exact h5.1
    have hcr := cP_rng (fun i => mem 84 i ≠ -6) 4031
    rw [← hc] at hcr
    have u1 : um M 113 c 27 83 1 = c := by rw [um_ne _ _ _ (by decide)]; exact hc9
    have u2 : um (um M 113 c 27) 114 c 5 83 1 = c := by rw [um_ne _ _ _ (by decide)]; exact u1
    have u3 : um (um (um M 113 c 27) 114 c 5) 115 c 23 83 1 = c := by rw [um_ne _ _ _ (by decide)]; exact u2
    refine v_iload (j := 4) (q := 28) rfl dX1_listArcs_26 rfl ?_
    refine v_bipush (q := 30) (by decide) dX1_listArcs_28 rfl ?_
    refine v_icmp_ge (tgt := 104) (q := 33) dX1_listArcs_30 (by decide) rfl (by omega) (by omega) (fun h30 => ?_) (fun h30 => ?_)
    · exact absurd h30 (by omega)
    · refine v_aload_n (j := 0) (q := 34) rfl dX1_listArcs_33 rfl ?_
      refine v_getR (p' := 84) (q := 37) dX1_listArcs_34 fl_X1_19 kd_83 rfl (rfc_1_4 kd_83) rfl ?_
      refine v_iload_n (j := 1) (q := 38) rfl dX1_listArcs_37 rfl ?_
      refine v_iald (q := 39) dX1_listArcs_38 kd_84 (by omega) (by omega) rfl ?_
      rw [e84]
      refine v_bipush (q := 41) (by decide) dX1_listArcs_39 rfl ?_
      refine v_icmp_eq (tgt := 95) (q := 44) dX1_listArcs_41 (by decide) rfl (by omega) (by omega) (fun h41 => ?_) (fun h41 => ?_)
      · first
          | (refine nxt M h4 ⟨?_, fun i hi hp => ?_⟩
             · rw [cP_f (P := fun i => mem 84 i ≠ -6) (n := 4031) (fun h => h h41)]
               exact h5.1
             · by_cases e9 : i = 4031
               · exact absurd h41 (by rw [e9] at hp; exact hp)
               · exact h5.2 i (by omega) hp)
          | (obtain ⟨M9, hM9⟩ : ∃ M9, M9 = um (um (um (um M 113 c 27) 114 c 5) 115 c 23) 83 1 (c + 1) := ⟨_, rfl⟩
             rw [← hM9]
             have m113 : M9 113 = ui (M 113) c 27 := by rw [hM9, um_ne _ _ _ (by decide), um_ne _ _ _ (by decide), um_ne _ _ _ (by decide), um_same]
             have m114 : M9 114 = ui (M 114) c 5 := by rw [hM9, um_ne _ _ _ (by decide), um_ne _ _ _ (by decide), um_same, um_ne _ _ _ (by decide)]
             have m115 : M9 115 = ui (M 115) c 23 := by rw [hM9, um_ne _ _ _ (by decide), um_same, um_ne _ _ _ (by decide), um_ne _ _ _ (by decide)]
             refine nxt M9 ⟨fun p hp => ?_, fun q hq => ?_⟩ ⟨?_, fun i hi hp => ?_⟩
             · rw [hM9, um_ne _ _ _ (by omega), um_ne _ _ _ (by omega), um_ne _ _ _ (by omega), um_ne _ _ _ (by omega)]
               exact h4.1 p hp
             · rw [hM9, um_same, ui_ne _ _ hq, um_ne _ _ _ (by decide), um_ne _ _ _ (by decide), um_ne _ _ _ (by decide)]
               exact h4.2 q hq
             · rw [hM9, um_same, ui_same, cP_t (P := fun i => mem 84 i ≠ -6) (n := 4031) h41, hc]
             · rw [m113, m114, m115]
               by_cases e9 : i = 4031
               · rw [e9, ← hc, ui_same, ui_same, ui_same]
                 omega
               · have hi2 := cP_lt (P := fun i => mem 84 i ≠ -6) (m := i) (n := 4031) (by omega) hp
                 rw [ui_ne _ _ (by omega), ui_ne _ _ (by omega), ui_ne _ _ (by omega)]
                 exact h5.2 i (by omega) hp)
      · have hlt := cP_lt (P := fun i => mem 84 i ≠ -6) (m := 4031) (n := 4032) (by omega) h41
        rw [← hc] at hlt
        refine v_aload_n (j := 0) (q := 45) rfl dX1_listArcs_44 rfl ?_
        refine v_getI (j := 1) (q := 48) dX1_listArcs_45 fl_X1_15 kd_83 rfl rfl rfl ?_
        rw [hc9]
        refine v_sipush (q := 51) (by decide) dX1_listArcs_48 rfl ?_
        refine v_icmp_ge (tgt := 95) (q := 54) dX1_listArcs_51 (by decide) rfl (by omega) (by omega) (fun h51 => ?_) (fun h51 => ?_)
        · exact absurd h51 (by omega)
        · refine v_aload_n (j := 0) (q := 55) rfl dX1_listArcs_54 rfl ?_
          refine v_getR (p' := 113) (q := 58) dX1_listArcs_55 fl_X1_42 kd_83 rfl (rfc_1_10 kd_83) rfl ?_
          refine v_aload_n (j := 0) (q := 59) rfl dX1_listArcs_58 rfl ?_
          refine v_getI (j := 1) (q := 62) dX1_listArcs_59 fl_X1_15 kd_83 rfl rfl rfl ?_
          rw [hc9]
          refine v_iload_n (j := 2) (q := 63) rfl dX1_listArcs_62 rfl ?_
          refine v_iast (q := 64) dX1_listArcs_63 kd_113 (by omega) (by omega) rfl ?_
          refine v_aload_n (j := 0) (q := 65) rfl dX1_listArcs_64 rfl ?_
          refine v_getR (p' := 114) (q := 68) dX1_listArcs_65 fl_X1_45 kd_83 rfl (rfc_1_11 kd_83) rfl ?_
          refine v_aload_n (j := 0) (q := 69) rfl dX1_listArcs_68 rfl ?_
          refine v_getI (j := 1) (q := 72) dX1_listArcs_69 fl_X1_15 kd_83 rfl rfl rfl ?_
          rw [u1]
          refine v_iload_n (j := 3) (q := 73) rfl dX1_listArcs_72 rfl ?_
          refine v_iast (q := 74) dX1_listArcs_73 kd_114 (by omega) (by omega) rfl ?_
          refine v_aload_n (j := 0) (q := 75) rfl dX1_listArcs_74 rfl ?_
          refine v_getR (p' := 115) (q := 78) dX1_listArcs_75 fl_X1_48 kd_83 rfl (rfc_1_12 kd_83) rfl ?_
          refine v_aload_n (j := 0) (q := 79) rfl dX1_listArcs_78 rfl ?_
          refine v_getI (j := 1) (q := 82) dX1_listArcs_79 fl_X1_15 kd_83 rfl rfl rfl ?_
          rw [u2]
          refine v_iload (j := 4) (q := 84) rfl dX1_listArcs_82 rfl ?_
          refine v_iast (q := 85) dX1_listArcs_84 kd_115 (by omega) (by omega) rfl ?_
          refine v_aload_n (j := 0) (q := 86) rfl dX1_listArcs_85 rfl ?_
          refine v_dup (q := 87) rfl dX1_listArcs_86 rfl ?_
          refine v_getI (j := 1) (q := 90) dX1_listArcs_87 fl_X1_15 kd_83 rfl rfl rfl ?_
          rw [u3]
          refine v_iconst (q := 91) dX1_listArcs_90 rfl ?_
          refine v_iadd (q := 92) dX1_listArcs_91 rfl ?_
          refine v_putI (j := 1) (q := 95) dX1_listArcs_92 fl_X1_15 kd_83 rfl rfl rfl ?_
          first
            | (refine nxt M h4 ⟨?_, fun i hi hp => ?_⟩
               · rw [cP_f (P := fun i => mem 84 i ≠ -6) (n := 4031) (fun h => h h41)]
                 exact h5.1
               · by_cases e9 : i = 4031
                 · exact absurd h41 (by rw [e9] at hp; exact hp)
                 · exact h5.2 i (by omega) hp)
            | (obtain ⟨M9, hM9⟩ : ∃ M9, M9 = um (um (um (um M 113 c 27) 114 c 5) 115 c 23) 83 1 (c + 1) := ⟨_, rfl⟩
               rw [← hM9]
               have m113 : M9 113 = ui (M 113) c 27 := by rw [hM9, um_ne _ _ _ (by decide), um_ne _ _ _ (by decide), um_ne _ _ _ (by decide), um_same]
               have m114 : M9 114 = ui (M 114) c 5 := by rw [hM9, um_ne _ _ _ (by decide), um_ne _ _ _ (by decide), um_same, um_ne _ _ _ (by decide)]
               have m115 : M9 115 = ui (M 115) c 23 := by rw [hM9, um_ne _ _ _ (by decide), um_same, um_ne _ _ _ (by decide), um_ne _ _ _ (by decide)]
               refine nxt M9 ⟨fun p hp => ?_, fun q hq => ?_⟩ ⟨?_, fun i hi hp => ?_⟩
               · rw [hM9, um_ne _ _ _ (by omega), um_ne _ _ _ (by omega), um_ne _ _ _ (by omega), um_ne _ _ _ (by omega)]
                 exact h4.1 p hp
               · rw [hM9, um_same, ui_ne _ _ hq, um_ne _ _ _ (by decide), um_ne _ _ _ (by decide), um_ne _ _ _ (by decide)]
                 exact h4.2 q hq
               · rw [hM9, um_same, ui_same, cP_t (P := fun i => mem 84 i ≠ -6) (n := 4031) h41, hc]
               · rw [m113, m114, m115]
                 by_cases e9 : i = 4031
                 · rw [e9, ← hc, ui_same, ui_same, ui_same]
                   omega
                 · have hi2 := cP_lt (P := fun i => mem 84 i ≠ -6) (m := i) (n := 4031) (by omega) hp
                   rw [ui_ne _ _ (by omega), ui_ne _ _ (by omega), ui_ne _ _ (by omega)]
                   exact h5.2 i (by omega) hp)
  | succ n ih =>
    intro j f l e M h1 h2 hf e0 e1 h4 h5
    unfold wx at h2
    obtain ⟨hf1, hf2⟩ := id hf
    have e84 : M 84 = mem 84 := h4.1 84 (by omega)
    have wr := hw j (by omega) (by omega)
    have nxt : ∀ m, frL mem m → LSi (mem 84) m (j + 1) → V cX1_listArcs RX1 5 none (rmk 0 0) (mE (fun r m => r = aU ∧ frL mem m ∧ LSi (mem 84) m 4032)) 95 [aR 83, aI (j : Int), aI f, aI l, aI e] [] m := fun m g1 g2 => by
      by_cases c1 : e + 1 < 24
      · skip
        refine v_iinc1 (q := 98) rfl dX1_listArcs_95 (by decide) rfl ?_
        refine v_iinc4 (q := 101) rfl dX1_listArcs_98 (by decide) rfl ?_
        refine v_goto (q := 26) dX1_listArcs_101 (by decide) ?_
        exact ih (j + 1) f l (e + 1) m (by omega) (by unfold wx; omega) hf (by omega) c1 g1 g2
      · have e23 : e = 23 := by omega
        subst e23
        by_cases c2 : l + 1 < 6
        · have hk := ih (j + 1) f (l + 1) 0 m (by omega) (by unfold wx; omega) ⟨by omega, by omega⟩ (by omega) (by omega) g1 g2
          refine v_iinc1 (q := 98) rfl dX1_listArcs_95 (by decide) rfl ?_
          refine v_iinc4 (q := 101) rfl dX1_listArcs_98 (by decide) rfl ?_
          refine v_goto (q := 26) dX1_listArcs_101 (by decide) ?_
          refine v_iload (j := 4) (q := 28) rfl dX1_listArcs_26 rfl ?_
          refine v_bipush (q := 30) (by decide) dX1_listArcs_28 rfl ?_
          refine v_icmp_ge (tgt := 104) (q := 33) dX1_listArcs_30 (by decide) rfl (by omega) (by omega) (fun h30 => ?_) (fun h30 => ?_)
          · refine v_iinc3 (q := 107) rfl dX1_listArcs_104 (by decide) rfl ?_
            refine v_goto (q := 17) dX1_listArcs_107 (by decide) ?_
            refine v_iload_n (j := 3) (q := 18) rfl dX1_listArcs_17 rfl ?_
            refine v_bipush (q := 20) (by decide) dX1_listArcs_18 rfl ?_
            refine v_icmp_ge (tgt := 110) (q := 23) dX1_listArcs_20 (by decide) rfl (by omega) (by omega) (fun h20 => ?_) (fun h20 => ?_)
            · exact absurd h20 (by omega)
            · refine v_iconst (q := 24) dX1_listArcs_23 rfl ?_
              refine v_ist4 (q := 26) rfl dX1_listArcs_24 (by decide) rfl ?_
              exact hk
          · exact absurd h30 (by omega)
        · have l5 : l = 5 := by omega
          subst l5
          have hk := ih (j + 1) (f + 1) 0 0 m (by omega) (by unfold wx; omega) ⟨by omega, by omega⟩ (by omega) (by omega) g1 g2
          refine v_iinc1 (q := 98) rfl dX1_listArcs_95 (by decide) rfl ?_
          refine v_iinc4 (q := 101) rfl dX1_listArcs_98 (by decide) rfl ?_
          refine v_goto (q := 26) dX1_listArcs_101 (by decide) ?_
          refine v_iload (j := 4) (q := 28) rfl dX1_listArcs_26 rfl ?_
          refine v_bipush (q := 30) (by decide) dX1_listArcs_28 rfl ?_
          refine v_icmp_ge (tgt := 104) (q := 33) dX1_listArcs_30 (by decide) rfl (by omega) (by omega) (fun h30 => ?_) (fun h30 => ?_)
          · refine v_iinc3 (q := 107) rfl dX1_listArcs_104 (by decide) rfl ?_
            refine v_goto (q := 17) dX1_listArcs_107 (by decide) ?_
            refine v_iload_n (j := 3) (q := 18) rfl dX1_listArcs_17 rfl ?_
            refine v_bipush (q := 20) (by decide) dX1_listArcs_18 rfl ?_
            refine v_icmp_ge (tgt := 110) (q := 23) dX1_listArcs_20 (by decide) rfl (by omega) (by omega) (fun h20 => ?_) (fun h20 => ?_)
            · refine v_iinc2 (q := 113) rfl dX1_listArcs_110 (by decide) rfl ?_
              refine v_goto (q := 9) dX1_listArcs_113 (by decide) ?_
              refine v_iload_n (j := 2) (q := 10) rfl dX1_listArcs_9 rfl ?_
              refine v_bipush (q := 12) (by decide) dX1_listArcs_10 rfl ?_
              refine v_icmp_ge (tgt := 116) (q := 15) dX1_listArcs_12 (by decide) rfl (by omega) (by omega) (fun h12 => ?_) (fun h12 => ?_)
              · exact absurd h12 (by omega)
              · refine v_iconst (q := 16) dX1_listArcs_15 rfl ?_
                refine v_ist3 (q := 17) rfl dX1_listArcs_16 (by decide) rfl ?_
                refine v_iload_n (j := 3) (q := 18) rfl dX1_listArcs_17 rfl ?_
                refine v_bipush (q := 20) (by decide) dX1_listArcs_18 rfl ?_
                refine v_icmp_ge (tgt := 110) (q := 23) dX1_listArcs_20 (by decide) rfl (by omega) (by omega) (fun h20 => ?_) (fun h20 => ?_)
                · exact absurd h20 (by omega)
                · refine v_iconst (q := 24) dX1_listArcs_23 rfl ?_
                  refine v_ist4 (q := 26) rfl dX1_listArcs_24 (by decide) rfl ?_
                  exact hk
            · exact absurd h20 (by omega)
          · exact absurd h30 (by omega)
    have e84' : M 84 = mem 84 := e84
    obtain ⟨c, hc⟩ : ∃ c, c = cP (fun i => mem 84 i ≠ -6) j := ⟨_, rfl⟩
    have hc9 : M 83 1 = c := by rw [hc]; exact h5.1
    have hcr := cP_rng (fun i => mem 84 i ≠ -6) j
    rw [← hc] at hcr
    have u1 : um M 113 c f 83 1 = c := by rw [um_ne _ _ _ (by decide)]; exact hc9
    have u2 : um (um M 113 c f) 114 c l 83 1 = c := by rw [um_ne _ _ _ (by decide)]; exact u1
    have u3 : um (um (um M 113 c f) 114 c l) 115 c e 83 1 = c := by rw [um_ne _ _ _ (by decide)]; exact u2
    refine v_iload (j := 4) (q := 28) rfl dX1_listArcs_26 rfl ?_
    refine v_bipush (q := 30) (by decide) dX1_listArcs_28 rfl ?_
    refine v_icmp_ge (tgt := 104) (q := 33) dX1_listArcs_30 (by decide) rfl (by omega) (by omega) (fun h30 => ?_) (fun h30 => ?_)
    · exact absurd h30 (by omega)
    · refine v_aload_n (j := 0) (q := 34) rfl dX1_listArcs_33 rfl ?_
      refine v_getR (p' := 84) (q := 37) dX1_listArcs_34 fl_X1_19 kd_83 rfl (rfc_1_4 kd_83) rfl ?_
      refine v_iload_n (j := 1) (q := 38) rfl dX1_listArcs_37 rfl ?_
      refine v_iald (q := 39) dX1_listArcs_38 kd_84 (by omega) (by omega) rfl ?_
      rw [e84]
      refine v_bipush (q := 41) (by decide) dX1_listArcs_39 rfl ?_
      refine v_icmp_eq (tgt := 95) (q := 44) dX1_listArcs_41 (by decide) rfl (by omega) (by omega) (fun h41 => ?_) (fun h41 => ?_)
      · first
          | (refine nxt M h4 ⟨?_, fun i hi hp => ?_⟩
             · rw [cP_f (P := fun i => mem 84 i ≠ -6) (n := j) (fun h => h h41)]
               exact h5.1
             · by_cases e9 : i = j
               · exact absurd h41 (by rw [e9] at hp; exact hp)
               · exact h5.2 i (by omega) hp)
          | (obtain ⟨M9, hM9⟩ : ∃ M9, M9 = um (um (um (um M 113 c f) 114 c l) 115 c e) 83 1 (c + 1) := ⟨_, rfl⟩
             rw [← hM9]
             have m113 : M9 113 = ui (M 113) c f := by rw [hM9, um_ne _ _ _ (by decide), um_ne _ _ _ (by decide), um_ne _ _ _ (by decide), um_same]
             have m114 : M9 114 = ui (M 114) c l := by rw [hM9, um_ne _ _ _ (by decide), um_ne _ _ _ (by decide), um_same, um_ne _ _ _ (by decide)]
             have m115 : M9 115 = ui (M 115) c e := by rw [hM9, um_ne _ _ _ (by decide), um_same, um_ne _ _ _ (by decide), um_ne _ _ _ (by decide)]
             refine nxt M9 ⟨fun p hp => ?_, fun q hq => ?_⟩ ⟨?_, fun i hi hp => ?_⟩
             · rw [hM9, um_ne _ _ _ (by omega), um_ne _ _ _ (by omega), um_ne _ _ _ (by omega), um_ne _ _ _ (by omega)]
               exact h4.1 p hp
             · rw [hM9, um_same, ui_ne _ _ hq, um_ne _ _ _ (by decide), um_ne _ _ _ (by decide), um_ne _ _ _ (by decide)]
               exact h4.2 q hq
             · rw [hM9, um_same, ui_same, cP_t (P := fun i => mem 84 i ≠ -6) (n := j) h41, hc]
             · rw [m113, m114, m115]
               by_cases e9 : i = j
               · rw [e9, ← hc, ui_same, ui_same, ui_same]
                 omega
               · have hi2 := cP_lt (P := fun i => mem 84 i ≠ -6) (m := i) (n := j) (by omega) hp
                 rw [ui_ne _ _ (by omega), ui_ne _ _ (by omega), ui_ne _ _ (by omega)]
                 exact h5.2 i (by omega) hp)
      · have hlt := cP_lt (P := fun i => mem 84 i ≠ -6) (m := j) (n := 4032) (by omega) h41
        rw [← hc] at hlt
        refine v_aload_n (j := 0) (q := 45) rfl dX1_listArcs_44 rfl ?_
        refine v_getI (j := 1) (q := 48) dX1_listArcs_45 fl_X1_15 kd_83 rfl rfl rfl ?_
        rw [hc9]
        refine v_sipush (q := 51) (by decide) dX1_listArcs_48 rfl ?_
        refine v_icmp_ge (tgt := 95) (q := 54) dX1_listArcs_51 (by decide) rfl (by omega) (by omega) (fun h51 => ?_) (fun h51 => ?_)
        · exact absurd h51 (by omega)
        · refine v_aload_n (j := 0) (q := 55) rfl dX1_listArcs_54 rfl ?_
          refine v_getR (p' := 113) (q := 58) dX1_listArcs_55 fl_X1_42 kd_83 rfl (rfc_1_10 kd_83) rfl ?_
          refine v_aload_n (j := 0) (q := 59) rfl dX1_listArcs_58 rfl ?_
          refine v_getI (j := 1) (q := 62) dX1_listArcs_59 fl_X1_15 kd_83 rfl rfl rfl ?_
          rw [hc9]
          refine v_iload_n (j := 2) (q := 63) rfl dX1_listArcs_62 rfl ?_
          refine v_iast (q := 64) dX1_listArcs_63 kd_113 (by omega) (by omega) rfl ?_
          refine v_aload_n (j := 0) (q := 65) rfl dX1_listArcs_64 rfl ?_
          refine v_getR (p' := 114) (q := 68) dX1_listArcs_65 fl_X1_45 kd_83 rfl (rfc_1_11 kd_83) rfl ?_
          refine v_aload_n (j := 0) (q := 69) rfl dX1_listArcs_68 rfl ?_
          refine v_getI (j := 1) (q := 72) dX1_listArcs_69 fl_X1_15 kd_83 rfl rfl rfl ?_
          rw [u1]
          refine v_iload_n (j := 3) (q := 73) rfl dX1_listArcs_72 rfl ?_
          refine v_iast (q := 74) dX1_listArcs_73 kd_114 (by omega) (by omega) rfl ?_
          refine v_aload_n (j := 0) (q := 75) rfl dX1_listArcs_74 rfl ?_
          refine v_getR (p' := 115) (q := 78) dX1_listArcs_75 fl_X1_48 kd_83 rfl (rfc_1_12 kd_83) rfl ?_
          refine v_aload_n (j := 0) (q := 79) rfl dX1_listArcs_78 rfl ?_
          refine v_getI (j := 1) (q := 82) dX1_listArcs_79 fl_X1_15 kd_83 rfl rfl rfl ?_
          rw [u2]
          refine v_iload (j := 4) (q := 84) rfl dX1_listArcs_82 rfl ?_
          refine v_iast (q := 85) dX1_listArcs_84 kd_115 (by omega) (by omega) rfl ?_
          refine v_aload_n (j := 0) (q := 86) rfl dX1_listArcs_85 rfl ?_
          refine v_dup (q := 87) rfl dX1_listArcs_86 rfl ?_
          refine v_getI (j := 1) (q := 90) dX1_listArcs_87 fl_X1_15 kd_83 rfl rfl rfl ?_
          rw [u3]
          refine v_iconst (q := 91) dX1_listArcs_90 rfl ?_
          refine v_iadd (q := 92) dX1_listArcs_91 rfl ?_
          refine v_putI (j := 1) (q := 95) dX1_listArcs_92 fl_X1_15 kd_83 rfl rfl rfl ?_
          first
            | (refine nxt M h4 ⟨?_, fun i hi hp => ?_⟩
               · rw [cP_f (P := fun i => mem 84 i ≠ -6) (n := j) (fun h => h h41)]
                 exact h5.1
               · by_cases e9 : i = j
                 · exact absurd h41 (by rw [e9] at hp; exact hp)
                 · exact h5.2 i (by omega) hp)
            | (obtain ⟨M9, hM9⟩ : ∃ M9, M9 = um (um (um (um M 113 c f) 114 c l) 115 c e) 83 1 (c + 1) := ⟨_, rfl⟩
               rw [← hM9]
               have m113 : M9 113 = ui (M 113) c f := by rw [hM9, um_ne _ _ _ (by decide), um_ne _ _ _ (by decide), um_ne _ _ _ (by decide), um_same]
               have m114 : M9 114 = ui (M 114) c l := by rw [hM9, um_ne _ _ _ (by decide), um_ne _ _ _ (by decide), um_same, um_ne _ _ _ (by decide)]
               have m115 : M9 115 = ui (M 115) c e := by rw [hM9, um_ne _ _ _ (by decide), um_same, um_ne _ _ _ (by decide), um_ne _ _ _ (by decide)]
               refine nxt M9 ⟨fun p hp => ?_, fun q hq => ?_⟩ ⟨?_, fun i hi hp => ?_⟩
               · rw [hM9, um_ne _ _ _ (by omega), um_ne _ _ _ (by omega), um_ne _ _ _ (by omega), um_ne _ _ _ (by omega)]
                 exact h4.1 p hp
               · rw [hM9, um_same, ui_ne _ _ hq, um_ne _ _ _ (by decide), um_ne _ _ _ (by decide), um_ne _ _ _ (by decide)]
                 exact h4.2 q hq
               · rw [hM9, um_same, ui_same, cP_t (P := fun i => mem 84 i ≠ -6) (n := j) h41, hc]
               · rw [m113, m114, m115]
                 by_cases e9 : i = j
                 · rw [e9, ← hc, ui_same, ui_same, ui_same]
                   omega
                 · have hi2 := cP_lt (P := fun i => mem 84 i ≠ -6) (m := i) (n := j) (by omega) hp
                   rw [ui_ne _ _ (by omega), ui_ne _ _ (by omega), ui_ne _ _ (by omega)]
                   exact h5.2 i (by omega) hp)
theorem c_X1_listArcs (mem : Mem) (hw : TWr (mem 84)) (hcap : cP (fun i => mem 84 i ≠ -6) 4032 ≤ 504) : CtrV mX1_listArcs [aR 83] mem (fun m => frL mem m ∧ LSi (mem 84) m 4032) := by
  refine Ctr.ofV (ls := [aR 83, aU, aU, aU, aU]) rfl (by decide) rfl (Nat.le_of_ble_eq_true rfl) ?_
  refine v_aload_n (j := 0) (q := 1) rfl dX1_listArcs_0 rfl ?_
  refine v_iconst (q := 2) dX1_listArcs_1 rfl ?_
  refine v_putI (j := 1) (q := 5) dX1_listArcs_2 fl_X1_15 kd_83 rfl rfl rfl ?_
  refine v_iconst (q := 6) dX1_listArcs_5 rfl ?_
  refine v_ist1 (q := 7) rfl dX1_listArcs_6 (by decide) rfl ?_
  refine v_iconst (q := 8) dX1_listArcs_7 rfl ?_
  refine v_ist2 (q := 9) rfl dX1_listArcs_8 (by decide) rfl ?_
  refine v_iload_n (j := 2) (q := 10) rfl dX1_listArcs_9 rfl ?_
  refine v_bipush (q := 12) (by decide) dX1_listArcs_10 rfl ?_
  refine v_icmp_ge (tgt := 116) (q := 15) dX1_listArcs_12 (by decide) rfl (by omega) (by omega) (fun h12 => ?_) (fun h12 => ?_)
  · exact absurd h12 (by omega)
  · refine v_iconst (q := 16) dX1_listArcs_15 rfl ?_
    refine v_ist3 (q := 17) rfl dX1_listArcs_16 (by decide) rfl ?_
    refine v_iload_n (j := 3) (q := 18) rfl dX1_listArcs_17 rfl ?_
    refine v_bipush (q := 20) (by decide) dX1_listArcs_18 rfl ?_
    refine v_icmp_ge (tgt := 110) (q := 23) dX1_listArcs_20 (by decide) rfl (by omega) (by omega) (fun h20 => ?_) (fun h20 => ?_)
    · exact absurd h20 (by omega)
    · refine v_iconst (q := 24) dX1_listArcs_23 rfl ?_
      refine v_ist4 (q := 26) rfl dX1_listArcs_24 (by decide) rfl ?_
      refine l_X1_listArcs mem hw hcap 4031 0 0 0 0 (um mem 83 1 0) (by omega) (by unfold wx; omega) ⟨by omega, by omega⟩ (by omega) (by omega) ⟨fun p hp => um_ne _ _ _ (by omega), fun j hj => by rw [um_same, ui_ne _ _ hj]⟩ ⟨by rw [um_same, ui_same]; rfl, fun i hi => absurd hi (by omega)⟩
