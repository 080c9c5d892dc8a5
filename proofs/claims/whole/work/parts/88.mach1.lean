/-! ===== Machine: keepLeast, weightAt, openHead, addArcsBy ===== -/
def wx (f l e : Int) : Int := (f * 6 + l) * 24 + e
theorem wx_inj {f l e f2 l2 e2 : Int} (hl : 0 ≤ l ∧ l < 6) (he : 0 ≤ e ∧ e < 24) (hl2 : 0 ≤ l2 ∧ l2 < 6) (he2 : 0 ≤ e2 ∧ e2 < 24) (h : wx f l e = wx f2 l2 e2) : f = f2 ∧ l = l2 ∧ e = e2 := by
  unfold wx at h
  omega
theorem wx_rng {f l e : Int} (hf : 0 ≤ f ∧ f < 28) (hl : 0 ≤ l ∧ l < 6) (he : 0 ≤ e ∧ e < 24) : 0 ≤ wx f l e ∧ wx f l e < 4032 := by
  unfold wx
  omega
/-- a table of weights as it may be; with a cost kept -/
def TWr (w : Int → Int) : Prop := ∀ i, 0 ≤ i → i < 4032 → w i = -6 ∨ (0 ≤ w i ∧ w i ≤ 1000000)
def kl (w : Int → Int) (i c : Int) : Int → Int := if c < 16777232777216 ∧ (w i = -6 ∨ c / 16777216 < w i) then ui w i (c / 16777216) else w
theorem kl_ne (w : Int → Int) {i j : Int} (c : Int) (h : j ≠ i) : kl w i c j = w j := by
  unfold kl
  split
  · exact ui_ne _ _ h
  · rfl
theorem kl_at (w : Int → Int) (i c : Int) : kl w i c i = w i ∨ (c < 16777232777216 ∧ kl w i c i = c / 16777216) := by
  unfold kl
  split
  · rename_i h
    exact Or.inr ⟨h.1, ui_same _ _ _⟩
  · exact Or.inl rfl
theorem kl_le (w : Int → Int) (i c : Int) (h0 : 0 ≤ c) (h : w i ≠ -6) : kl w i c i ≠ -6 ∧ kl w i c i ≤ w i := by
  unfold kl
  split
  · rename_i h2
    rw [ui_same]
    have := h2.2.resolve_left h
    omega
  · exact ⟨h, Int.le_refl _⟩
theorem kl_c (w : Int → Int) (i c : Int) (h0 : 0 ≤ c) (h : c < 16777232777216) : kl w i c i ≠ -6 ∧ kl w i c i ≤ c / 16777216 := by
  unfold kl
  split
  · rw [ui_same]
    omega
  · rename_i h2
    have : w i ≠ -6 := fun e => h2 ⟨h, Or.inl e⟩
    have : ¬ c / 16777216 < w i := fun e => h2 ⟨h, Or.inr e⟩
    omega
theorem TWr.kl {w : Int → Int} (h : TWr w) {i c : Int} (h0 : 0 ≤ c) : TWr (kl w i c) := fun j j0 j1 => by
  by_cases e : j = i
  · subst e
    rcases kl_at w j c with e | ⟨e1, e2⟩
    · rw [e]; exact h j j0 j1
    · rw [e2]; omega
  · rw [kl_ne _ _ e]; exact h j j0 j1
theorem c_X1_keepLeast (f l e c : Int) (mem : Mem) (hf : 0 ≤ f ∧ f < 28) (hl : 0 ≤ l ∧ l < 6) (he : 0 ≤ e ∧ e < 24) (hc : 0 ≤ c ∧ c ≤ 100000000000000) (hw : TWr (mem 84)) : CtrV mX1_keepLeast [aR 83, aI f, aI l, aI e, aL c] mem (fun m => sm mem 84 (kl (mem 84) (wx f l e) c) = m) := by
  have r := wx_rng hf hl he
  have w := hw _ r.1 r.2
  obtain ⟨i, hi⟩ : ∃ i, i = wx f l e := ⟨_, rfl⟩
  have hi2 : (f * 6 + l) * 24 + e = i := hi.symm
  rw [← hi] at r w ⊢
  have same : ¬ (c < 16777232777216 ∧ (mem 84 i = -6 ∨ c / 16777216 < mem 84 i)) → sm mem 84 (kl (mem 84) i c) = mem := fun h => by
    unfold kl
    rw [if_neg h]
    exact sm_id mem 84 (fun _ => rfl)
  have new : (c < 16777232777216 ∧ (mem 84 i = -6 ∨ c / 16777216 < mem 84 i)) → sm mem 84 (kl (mem 84) i c) = um mem 84 i (c / 16777216) := fun h => by
    unfold kl
    rw [if_pos h]
    exact (um_sm _ _ _ _).symm
  refine Ctr.ofV (ls := [aR 83, aI f, aI l, aI e, aL c, aU, aU, aU]) rfl (by decide) rfl (Nat.le_of_ble_eq_true rfl) ?_
  refine v_iload_n (j := 1) (q := 1) rfl dX1_keepLeast_0 rfl ?_
  refine v_bipush (q := 3) (by decide) dX1_keepLeast_1 rfl ?_
  refine v_imul (q := 4) dX1_keepLeast_3 rfl ?_
  refine v_iload_n (j := 2) (q := 5) rfl dX1_keepLeast_4 rfl ?_
  refine v_iadd (q := 6) dX1_keepLeast_5 rfl ?_
  refine v_bipush (q := 8) (by decide) dX1_keepLeast_6 rfl ?_
  refine v_imul (q := 9) dX1_keepLeast_8 rfl ?_
  refine v_iload_n (j := 3) (q := 10) rfl dX1_keepLeast_9 rfl ?_
  refine v_iadd (q := 11) dX1_keepLeast_10 rfl ?_
  rw [hi2]
  refine v_ist6 (q := 13) rfl dX1_keepLeast_11 (by decide) rfl ?_
  refine v_lload (j := 4) (q := 15) rfl dX1_keepLeast_13 rfl ?_
  refine v_cSNI1 (q := 18) dX1_keepLeast_15 mlX1_158 mdX9_weightOf (by decide) ⟨Nat.le_refl 0, Nat.le_refl 0⟩ (by exact Nat.le_of_ble_eq_true rfl) rfl (c_X9_weightOf c mem (by omega)) ?_
  rintro _ _ ⟨rfl, rfl⟩
  refine v_ist7 (q := 20) rfl dX1_keepLeast_18 (by decide) rfl ?_
  refine v_lload (j := 4) (q := 22) rfl dX1_keepLeast_20 rfl ?_
  refine v_ldc2 (n := 16777232777216) (q := 25) klX1_65 rfl dX1_keepLeast_22 rfl ?_
  refine v_lcmp_ge (tgt := 62) (q := 29) dX1_keepLeast_25 dX1_keepLeast_26 (by decide) rfl (by omega) (by omega) (fun h25 => ?_) (fun h25 => ?_)
  · refine v_vret dX1_keepLeast_62 ?_
    refine ⟨rfl, ?_⟩
    first
      | exact same (fun h => by omega)
      | exact new (by omega)
  · refine v_aload_n (j := 0) (q := 30) rfl dX1_keepLeast_29 rfl ?_
    refine v_getR (p' := 84) (q := 33) dX1_keepLeast_30 fl_X1_19 kd_83 rfl (rfc_1_4 kd_83) rfl ?_
    refine v_iload (j := 6) (q := 35) rfl dX1_keepLeast_33 rfl ?_
    refine v_iald (q := 36) dX1_keepLeast_35 kd_84 (by omega) (by omega) rfl ?_
    refine v_bipush (q := 38) (by decide) dX1_keepLeast_36 rfl ?_
    refine v_icmp_eq (tgt := 53) (q := 41) dX1_keepLeast_38 (by decide) rfl (by omega) (by omega) (fun h38 => ?_) (fun h38 => ?_)
    · refine v_aload_n (j := 0) (q := 54) rfl dX1_keepLeast_53 rfl ?_
      refine v_getR (p' := 84) (q := 57) dX1_keepLeast_54 fl_X1_19 kd_83 rfl (rfc_1_4 kd_83) rfl ?_
      refine v_iload (j := 6) (q := 59) rfl dX1_keepLeast_57 rfl ?_
      refine v_iload (j := 7) (q := 61) rfl dX1_keepLeast_59 rfl ?_
      refine v_iast (q := 62) dX1_keepLeast_61 kd_84 (by omega) (by omega) rfl ?_
      refine v_vret dX1_keepLeast_62 ?_
      refine ⟨rfl, ?_⟩
      first
        | exact same (fun h => by omega)
        | exact new (by omega)
    · refine v_iload (j := 7) (q := 43) rfl dX1_keepLeast_41 rfl ?_
      refine v_aload_n (j := 0) (q := 44) rfl dX1_keepLeast_43 rfl ?_
      refine v_getR (p' := 84) (q := 47) dX1_keepLeast_44 fl_X1_19 kd_83 rfl (rfc_1_4 kd_83) rfl ?_
      refine v_iload (j := 6) (q := 49) rfl dX1_keepLeast_47 rfl ?_
      refine v_iald (q := 50) dX1_keepLeast_49 kd_84 (by omega) (by omega) rfl ?_
      refine v_icmp_ge (tgt := 62) (q := 53) dX1_keepLeast_50 (by decide) rfl (by omega) (by omega) (fun h50 => ?_) (fun h50 => ?_)
      · refine v_vret dX1_keepLeast_62 ?_
        refine ⟨rfl, ?_⟩
        first
          | exact same (fun h => by omega)
          | exact new (by omega)
      · refine v_aload_n (j := 0) (q := 54) rfl dX1_keepLeast_53 rfl ?_
        refine v_getR (p' := 84) (q := 57) dX1_keepLeast_54 fl_X1_19 kd_83 rfl (rfc_1_4 kd_83) rfl ?_
        refine v_iload (j := 6) (q := 59) rfl dX1_keepLeast_57 rfl ?_
        refine v_iload (j := 7) (q := 61) rfl dX1_keepLeast_59 rfl ?_
        refine v_iast (q := 62) dX1_keepLeast_61 kd_84 (by omega) (by omega) rfl ?_
        refine v_vret dX1_keepLeast_62 ?_
        refine ⟨rfl, ?_⟩
        first
          | exact same (fun h => by omega)
          | exact new (by omega)
theorem c_X1_weightAt (f l e : Int) (mem : Mem) (hf : 0 ≤ f ∧ f < 28) (hl : 0 ≤ l ∧ l < 6) (he : 0 ≤ e ∧ e < 24) : CtrI mX1_weightAt [aR 83, aI f, aI l, aI e] mem (fun z m => mem = m ∧ mem 84 (wx f l e) = z) := by
  refine Ctr.ofV (ls := [aR 83, aI f, aI l, aI e]) rfl (by decide) rfl (Nat.le_of_ble_eq_true rfl) ?_
  refine v_aload_n (j := 0) (q := 1) rfl dX1_weightAt_0 rfl ?_
  refine v_getR (p' := 84) (q := 4) dX1_weightAt_1 fl_X1_19 kd_83 rfl (rfc_1_4 kd_83) rfl ?_
  refine v_iload_n (j := 1) (q := 5) rfl dX1_weightAt_4 rfl ?_
  refine v_bipush (q := 7) (by decide) dX1_weightAt_5 rfl ?_
  refine v_imul (q := 8) dX1_weightAt_7 rfl ?_
  refine v_iload_n (j := 2) (q := 9) rfl dX1_weightAt_8 rfl ?_
  refine v_iadd (q := 10) dX1_weightAt_9 rfl ?_
  refine v_bipush (q := 12) (by decide) dX1_weightAt_10 rfl ?_
  refine v_imul (q := 13) dX1_weightAt_12 rfl ?_
  refine v_iload_n (j := 3) (q := 14) rfl dX1_weightAt_13 rfl ?_
  refine v_iadd (q := 15) dX1_weightAt_14 rfl ?_
  refine v_iald (q := 16) dX1_weightAt_15 kd_84 (by omega) (by omega) rfl ?_
  refine v_iret dX1_weightAt_16 ?_
  exact ⟨_, rfl, rfl, rfl⟩
/-- the heads that are open, and their queue -/
def sumO (f : Int → Int) : Nat → Int
  | 0 => 0
  | n + 1 => sumO f n + f n
theorem sumO_le {f : Int → Int} {N : Nat} (h : ∀ i : Int, 0 ≤ i → i < N → f i = 0 ∨ f i = 1) : ∀ n : Nat, n ≤ N → 0 ≤ sumO f n ∧ sumO f n ≤ n
  | 0, _ => ⟨Int.le_refl _, Int.le_refl _⟩
  | n + 1, hn => by
    have := sumO_le h n (by omega)
    have := h n (by omega) (by omega)
    unfold sumO
    omega
theorem sumO_lt {f : Int → Int} {N : Nat} (h : ∀ i : Int, 0 ≤ i → i < N → f i = 0 ∨ f i = 1) {i : Int} (i0 : 0 ≤ i) (hi : f i = 0) : ∀ n : Nat, n ≤ N → i < n → sumO f n < n
  | 0, _, h9 => absurd h9 (by omega)
  | n + 1, hn, h9 => by
    have h2 := h n (by omega) (by omega)
    unfold sumO
    by_cases e : i = n
    · subst e
      have := (sumO_le h n (by omega)).2
      omega
    · have := sumO_lt h i0 hi n (by omega) (by omega)
      omega
theorem sumO_ui {f : Int → Int} {i : Int} (i0 : 0 ≤ i) (hi : f i = 0) : ∀ n : Nat, sumO (ui f i 1) n = sumO f n + (if i < n then 1 else 0)
  | 0 => by rw [if_neg (by omega)]; rfl
  | n + 1 => by
    have ih := sumO_ui i0 hi n
    unfold sumO
    rw [ih]
    by_cases e : i = n
    · subst e
      rw [ui_same, if_neg (by omega), if_pos (by omega), hi]
    · rw [ui_ne _ _ (by omega)]
      by_cases e2 : i < n
      · rw [if_pos e2, if_pos (by omega)]; omega
      · rw [if_neg e2, if_neg (by omega)]; omega
def OQ (m : Mem) : Prop := m 83 9 = sumO (m 111) 20 ∧ (∀ h, 0 ≤ h → h < 20 → m 111 h = 0 ∨ m 111 h = 1) ∧ (∀ j, 0 ≤ j → j < m 83 9 → (0 ≤ m 112 j ∧ m 112 j < 20) ∧ m 111 (m 112 j) = 1) ∧ (∀ h, 0 ≤ h → h < 20 → m 111 h = 1 → ∃ j, 0 ≤ j ∧ j < m 83 9 ∧ m 112 j = h) ∧ ∀ i j, 0 ≤ i → i < j → j < m 83 9 → m 112 i ≠ m 112 j
theorem OQ.rng {m : Mem} (h : OQ m) : 0 ≤ m 83 9 ∧ m 83 9 ≤ 20 := by rw [h.1]; exact sumO_le (N := 20) h.2.1 20 (Nat.le_refl _)
theorem OQ.congr {m m1 : Mem} (h : OQ m) (h1 : m1 83 9 = m 83 9) (h2 : m1 111 = m 111) (h3 : m1 112 = m 112) : OQ m1 := by
  unfold OQ
  rw [h1, h2, h3]
  exact h
/-- more heads are open -/
def OX (mem m : Mem) (H : Int → Prop) : Prop := OQ m ∧ mem 83 9 ≤ m 83 9 ∧ (∀ j, 0 ≤ j → j < mem 83 9 → m 112 j = mem 112 j) ∧ (∀ h, 0 ≤ h → h < 20 → (m 111 h = 1 ↔ mem 111 h = 1 ∨ H h)) ∧ ∀ j, j ≠ 9 → m 83 j = mem 83 j
theorem OX.refl {m : Mem} (h : OQ m) {H : Int → Prop} (hH : ∀ x, 0 ≤ x → x < 20 → H x → m 111 x = 1) : OX m m H := ⟨h, Int.le_refl _, fun _ _ _ => rfl, fun x h0 h1 => ⟨Or.inl, fun h => h.elim id (hH x h0 h1)⟩, fun _ _ => rfl⟩
theorem OX.trans {a b c : Mem} {H K L : Int → Prop} (h : OX a b H) (h2 : OX b c K) (hL : ∀ x, 0 ≤ x → x < 20 → (L x ↔ H x ∨ K x)) : OX a c L := by
  obtain ⟨a1, a2, a3, a4, a5⟩ := h
  obtain ⟨b1, b2, b3, b4, b5⟩ := h2
  refine ⟨b1, by omega, fun j h0 h1 => by rw [b3 j h0 (by omega), a3 j h0 h1], fun x x0 x1 => ?_, fun j hj => by rw [b5 j hj, a5 j hj]⟩
  rw [b4 x x0 x1, a4 x x0 x1, hL x x0 x1, or_assoc]
theorem c_X1_openHead (h : Int) (mem : Mem) (hh : 0 ≤ h ∧ h < 20) (ho : OQ mem) : CtrV mX1_openHead [aR 83, aI h] mem (fun m => (∀ p, p ≠ 83 → p ≠ 111 → p ≠ 112 → m p = mem p) ∧ OX mem m (fun x => x = h)) := by
  have h01 := ho.2.1 h hh.1 hh.2
  have hr := ho.rng
  refine Ctr.ofV (ls := [aR 83, aI h]) rfl (by decide) rfl (Nat.le_of_ble_eq_true rfl) ?_
  refine v_aload_n (j := 0) (q := 1) rfl dX1_openHead_0 rfl ?_
  refine v_getR (p' := 111) (q := 4) dX1_openHead_1 fl_X1_32 kd_83 rfl (rfc_1_7 kd_83) rfl ?_
  refine v_iload_n (j := 1) (q := 5) rfl dX1_openHead_4 rfl ?_
  refine v_zald (q := 6) dX1_openHead_5 kd_111 (by omega) (by omega) rfl ?_
  refine v_if_ne (tgt := 45) (q := 9) dX1_openHead_6 (by decide) rfl (by omega) (fun h6 => ?_) (fun h6 => ?_)
  · refine v_vret dX1_openHead_45 ?_
    first
      | exact ⟨rfl, fun _ _ _ _ => rfl, OX.refl ho (fun x _ _ e => by rw [e]; omega)⟩
      | (obtain ⟨M, hM⟩ : ∃ M, M = um (um (um mem 111 h 1) 112 (mem 83 9) h) 83 9 (mem 83 9 + 1) := ⟨_, rfl⟩
         rw [← hM]
         have m83 : M 83 = ui (mem 83) 9 (mem 83 9 + 1) := by rw [hM, um_same, um_ne _ _ _ (by decide), um_ne _ _ _ (by decide)]
         have m111 : M 111 = ui (mem 111) h 1 := by rw [hM, um_ne _ _ _ (by decide), um_ne _ _ _ (by decide), um_same]
         have m112 : M 112 = ui (mem 112) (mem 83 9) h := by rw [hM, um_ne _ _ _ (by decide), um_same, um_ne _ _ _ (by decide)]
         have n9 : M 83 9 = mem 83 9 + 1 := by rw [m83, ui_same]
         have old : ∀ j, 0 ≤ j → j < mem 83 9 → M 112 j = mem 112 j := fun j j0 j1 => by rw [m112, ui_ne _ _ (by omega)]
         have newj : M 112 (mem 83 9) = h := by rw [m112, ui_same]
         have opn : ∀ x, (M 111 x = 1 ↔ mem 111 x = 1 ∨ x = h) := fun x => by
           rw [m111]
           by_cases e : x = h
           · rw [e, ui_same]; exact ⟨fun _ => Or.inr rfl, fun _ => rfl⟩
           · rw [ui_ne _ _ e]; exact ⟨Or.inl, fun q => q.resolve_right e⟩
         refine ⟨rfl, fun p h1 h2 h3 => by rw [hM, um_ne _ _ _ h1, um_ne _ _ _ h3, um_ne _ _ _ h2], ⟨?_, ?_, ?_, ?_, ?_⟩, by omega, old, fun x _ _ => opn x, fun j hj => by rw [m83, ui_ne _ _ hj]⟩
         · rw [n9, m111, sumO_ui hh.1 (by omega) 20, if_pos (by omega), ho.1]
         · intro x x0 x1
           rw [m111]
           unfold ui
           split
           · exact Or.inr rfl
           · exact ho.2.1 x x0 x1
         · intro j j0 j1
           by_cases e : j = mem 83 9
           · rw [e, newj]; exact ⟨hh, (opn h).mpr (Or.inr rfl)⟩
           · rw [old j j0 (by omega)]
             have := ho.2.2.1 j j0 (by omega)
             exact ⟨this.1, (opn _).mpr (Or.inl this.2)⟩
         · intro x x0 x1 hx
           rcases (opn x).mp hx with hx | hx
           · obtain ⟨j, j0, j1, j2⟩ := ho.2.2.2.1 x x0 x1 hx
             exact ⟨j, j0, by omega, by rw [old j j0 j1]; exact j2⟩
           · exact ⟨mem 83 9, by omega, by omega, by rw [newj, hx]⟩
         · intro i j i0 ij j1
           rw [old i i0 (by omega)]
           by_cases e : j = mem 83 9
           · rw [e, newj]
             intro e2
             have := (ho.2.2.1 i i0 (by omega)).2
             rw [e2] at this
             omega
           · rw [old j (by omega) (by omega)]
             exact ho.2.2.2.2 i j i0 ij (by omega))
  · have hlt : mem 83 9 < 20 := (by rw [ho.1]; exact sumO_lt (N := 20) ho.2.1 hh.1 (by omega) 20 (Nat.le_refl _) hh.2)
    have e1 : um mem 111 h 1 83 9 = mem 83 9 := by rw [um_ne _ _ _ (by decide)]
    have e2 : um (um mem 111 h 1) 112 (mem 83 9) h 83 9 = mem 83 9 := by rw [um_ne _ _ _ (by decide), e1]
    refine v_aload_n (j := 0) (q := 10) rfl dX1_openHead_9 rfl ?_
    refine v_getI (j := 9) (q := 13) dX1_openHead_10 fl_X1_39 kd_83 rfl rfl rfl ?_
    refine v_bipush (q := 15) (by decide) dX1_openHead_13 rfl ?_
    refine v_icmp_ge (tgt := 45) (q := 18) dX1_openHead_15 (by decide) rfl (by omega) (by omega) (fun h15 => ?_) (fun h15 => ?_)
    · exact absurd h15 (by omega)
    · refine v_aload_n (j := 0) (q := 19) rfl dX1_openHead_18 rfl ?_
      refine v_getR (p' := 111) (q := 22) dX1_openHead_19 fl_X1_32 kd_83 rfl (rfc_1_7 kd_83) rfl ?_
      refine v_iload_n (j := 1) (q := 23) rfl dX1_openHead_22 rfl ?_
      refine v_iconst (q := 24) dX1_openHead_23 rfl ?_
      refine v_zast (q := 25) (by first | exact Or.inl rfl | exact Or.inr rfl | exact bI_01 _ | omega) dX1_openHead_24 kd_111 (by omega) (by omega) rfl ?_
      refine v_aload_n (j := 0) (q := 26) rfl dX1_openHead_25 rfl ?_
      refine v_getR (p' := 112) (q := 29) dX1_openHead_26 fl_X1_36 kd_83 rfl (rfc_1_8 kd_83) rfl ?_
      refine v_aload_n (j := 0) (q := 30) rfl dX1_openHead_29 rfl ?_
      refine v_getI (j := 9) (q := 33) dX1_openHead_30 fl_X1_39 kd_83 rfl rfl rfl ?_
      rw [e1]
      refine v_iload_n (j := 1) (q := 34) rfl dX1_openHead_33 rfl ?_
      refine v_iast (q := 35) dX1_openHead_34 kd_112 (by omega) (by omega) rfl ?_
      refine v_aload_n (j := 0) (q := 36) rfl dX1_openHead_35 rfl ?_
      refine v_dup (q := 37) rfl dX1_openHead_36 rfl ?_
      refine v_getI (j := 9) (q := 40) dX1_openHead_37 fl_X1_39 kd_83 rfl rfl rfl ?_
      rw [e2]
      refine v_iconst (q := 41) dX1_openHead_40 rfl ?_
      refine v_iadd (q := 42) dX1_openHead_41 rfl ?_
      refine v_putI (j := 9) (q := 45) dX1_openHead_42 fl_X1_39 kd_83 rfl rfl rfl ?_
      refine v_vret dX1_openHead_45 ?_
      first
        | exact ⟨rfl, fun _ _ _ _ => rfl, OX.refl ho (fun x _ _ e => by rw [e]; omega)⟩
        | (obtain ⟨M, hM⟩ : ∃ M, M = um (um (um mem 111 h 1) 112 (mem 83 9) h) 83 9 (mem 83 9 + 1) := ⟨_, rfl⟩
           rw [← hM]
           have m83 : M 83 = ui (mem 83) 9 (mem 83 9 + 1) := by rw [hM, um_same, um_ne _ _ _ (by decide), um_ne _ _ _ (by decide)]
           have m111 : M 111 = ui (mem 111) h 1 := by rw [hM, um_ne _ _ _ (by decide), um_ne _ _ _ (by decide), um_same]
           have m112 : M 112 = ui (mem 112) (mem 83 9) h := by rw [hM, um_ne _ _ _ (by decide), um_same, um_ne _ _ _ (by decide)]
           have n9 : M 83 9 = mem 83 9 + 1 := by rw [m83, ui_same]
           have old : ∀ j, 0 ≤ j → j < mem 83 9 → M 112 j = mem 112 j := fun j j0 j1 => by rw [m112, ui_ne _ _ (by omega)]
           have newj : M 112 (mem 83 9) = h := by rw [m112, ui_same]
           have opn : ∀ x, (M 111 x = 1 ↔ mem 111 x = 1 ∨ x = h) := fun x => by
             rw [m111]
             by_cases e : x = h
             · rw [e, ui_same]; exact ⟨fun _ => Or.inr rfl, fun _ => rfl⟩
             · rw [ui_ne _ _ e]; exact ⟨Or.inl, fun q => q.resolve_right e⟩
           refine ⟨rfl, fun p h1 h2 h3 => by rw [hM, um_ne _ _ _ h1, um_ne _ _ _ h3, um_ne _ _ _ h2], ⟨?_, ?_, ?_, ?_, ?_⟩, by omega, old, fun x _ _ => opn x, fun j hj => by rw [m83, ui_ne _ _ hj]⟩
           · rw [n9, m111, sumO_ui hh.1 (by omega) 20, if_pos (by omega), ho.1]
           · intro x x0 x1
             rw [m111]
             unfold ui
             split
             · exact Or.inr rfl
             · exact ho.2.1 x x0 x1
           · intro j j0 j1
             by_cases e : j = mem 83 9
             · rw [e, newj]; exact ⟨hh, (opn h).mpr (Or.inr rfl)⟩
             · rw [old j j0 (by omega)]
               have := ho.2.2.1 j j0 (by omega)
               exact ⟨this.1, (opn _).mpr (Or.inl this.2)⟩
           · intro x x0 x1 hx
             rcases (opn x).mp hx with hx | hx
             · obtain ⟨j, j0, j1, j2⟩ := ho.2.2.2.1 x x0 x1 hx
               exact ⟨j, j0, by omega, by rw [old j j0 j1]; exact j2⟩
             · exact ⟨mem 83 9, by omega, by omega, by rw [newj, hx]⟩
           · intro i j i0 ij j1
             rw [old i i0 (by omega)]
             by_cases e : j = mem 83 9
             · rw [e, newj]
               intro e2
               have := (ho.2.2.1 i i0 (by omega)).2
               rw [e2] at this
               omega
             · rw [old j (by omega) (by omega)]
               exact ho.2.2.2.2 i j i0 ij (by omega))
def tgS (r : Rl) : Int := if nd r.2.2.2.1 = 2 then 4 + nxR r else r.2.2.1
def tgL (r : Rl) : Int := if nd r.2.2.2.1 = 0 then 0 else if nd r.2.2.2.1 = 1 then r.2.2.2.1 else blR r
theorem tg_rng {y : Sy} (ok : okS y) {k : Nat} {r : Rl} (hr : y.2.2.2.2[k]? = some r) : (0 ≤ tgS r ∧ tgS r < 28) ∧ (0 ≤ tgL r ∧ tgL r < 6) := by
  have okr := ok.2.2.2.2.2 r (List.mem_of_getElem? hr)
  obtain ⟨c1, c2, c3⟩ := rl_cases okr ok.2.1.2 ok.1.2
  have hS := ok.1
  have hG := ok.2.1
  have q0 := okr.2.2.1
  unfold tgS tgL
  rcases c3 with ⟨n0, d0⟩ | ⟨n1, d1, d2, d3, d4⟩ | ⟨n2, d1, d2, d3, d4, d5, d6⟩
  · rw [if_neg (by omega), if_pos n0]; omega
  · rw [if_neg (by omega), if_neg (by omega), if_pos n1]; omega
  · rw [if_pos n2, if_neg (by omega), if_neg (by omega)]; omega
theorem c_X1_addArcsBy (kk : Nat) (e c : Int) (mem : Mem) (y : Sy) (r : Rl) (ok : okS y) (hr : y.2.2.2.2[kk]? = some r) (hpl : PLk mem kk r) (he : 0 ≤ e ∧ e < 24) (hc : 0 ≤ c ∧ c ≤ 100000000000000) (hw : TWr (mem 84)) (ho : OQ mem) : CtrV mX1_addArcsBy [aR 83, aI (kk : Int), aI e, aL c] mem (fun m => (∀ p, p ≠ 83 → p ≠ 84 → p ≠ 111 → p ≠ 112 → m p = mem p) ∧ m 84 = kl (mem 84) (wx (tgS r) (tgL r) e) c ∧ OX mem m (fun x => nd r.2.2.2.1 = 2 ∧ x = nxR r)) := by
  have okr := ok.2.2.2.2.2 r (List.mem_of_getElem? hr)
  have hk20 : kk < 20 := by have := (List.getElem?_eq_some_iff.mp hr).1; have := ok.2.2.2.2.1; omega
  obtain ⟨c1, c2, c3⟩ := rl_cases okr ok.2.1.2 ok.1.2
  have hS := ok.1
  have hG := ok.2.1
  have q0 := okr.2.2.1
  obtain ⟨p32, p33, p34, p35, p36, p37⟩ := hpl
  have tr := tg_rng ok hr
  have hn0 := nd_nn r.2.2.2.1
  have hn2 := okr.2.2.2.1.2
  have fin : ∀ m, sm mem 84 (kl (mem 84) (wx (tgS r) (tgL r) e) c) = m → ¬ nd r.2.2.2.1 = 2 → (∀ p, p ≠ 83 → p ≠ 84 → p ≠ 111 → p ≠ 112 → m p = mem p) ∧ m 84 = kl (mem 84) (wx (tgS r) (tgL r) e) c ∧ OX mem m (fun x => nd r.2.2.2.1 = 2 ∧ x = nxR r) := fun m hm hn => by
    subst hm
    have o : ∀ p, p ≠ 84 → sm mem 84 (kl (mem 84) (wx (tgS r) (tgL r) e) c) p = mem p := fun p hp => sm_ne _ _ hp
    refine ⟨fun p _ h2 _ _ => o p h2, sm_same _ _ _, ho.congr (by rw [o 83 (by decide)]) (o 111 (by decide)) (o 112 (by decide)), by rw [o 83 (by decide)]; exact Int.le_refl _, fun j _ _ => by rw [o 112 (by decide)], fun x _ _ => by rw [o 111 (by decide)]; exact ⟨Or.inl, fun q => q.resolve_right (fun q => hn q.1)⟩, fun j _ => by rw [o 83 (by decide)]⟩
  refine Ctr.ofV (ls := [aR 83, aI (kk : Int), aI e, aL c, aU, aU]) rfl (by decide) rfl (Nat.le_of_ble_eq_true rfl) ?_
  refine v_aload_n (j := 0) (q := 1) rfl dX1_addArcsBy_0 rfl ?_
  refine v_getR (p' := 29) (q := 4) dX1_addArcsBy_1 fl_X1_51 kd_83 rfl (rfc_1_2 kd_83) rfl ?_
  refine v_getR (p' := 35) (q := 7) dX1_addArcsBy_4 fl_X1_143 kd_29 rfl (rfc_2_7 kd_29) rfl ?_
  refine v_iload_n (j := 1) (q := 8) rfl dX1_addArcsBy_7 rfl ?_
  refine v_iald (q := 9) dX1_addArcsBy_8 kd_35 (by omega) (by omega) rfl ?_
  rw [p35]
  refine v_ist5 (q := 11) rfl dX1_addArcsBy_9 (by decide) rfl ?_
  refine v_aload_n (j := 0) (q := 12) rfl dX1_addArcsBy_11 rfl ?_
  refine v_getR (p' := 29) (q := 15) dX1_addArcsBy_12 fl_X1_51 kd_83 rfl (rfc_1_2 kd_83) rfl ?_
  refine v_getR (p' := 34) (q := 18) dX1_addArcsBy_15 fl_X1_146 kd_29 rfl (rfc_2_6 kd_29) rfl ?_
  refine v_iload_n (j := 1) (q := 19) rfl dX1_addArcsBy_18 rfl ?_
  refine v_iald (q := 20) dX1_addArcsBy_19 kd_34 (by omega) (by omega) rfl ?_
  rw [p34]
  refine v_if_ne (tgt := 42) (q := 23) dX1_addArcsBy_20 (by decide) rfl (by omega) (fun h20 => ?_) (fun h20 => ?_)
  · refine v_aload_n (j := 0) (q := 43) rfl dX1_addArcsBy_42 rfl ?_
    refine v_getR (p' := 29) (q := 46) dX1_addArcsBy_43 fl_X1_51 kd_83 rfl (rfc_1_2 kd_83) rfl ?_
    refine v_getR (p' := 34) (q := 49) dX1_addArcsBy_46 fl_X1_146 kd_29 rfl (rfc_2_6 kd_29) rfl ?_
    refine v_iload_n (j := 1) (q := 50) rfl dX1_addArcsBy_49 rfl ?_
    refine v_iald (q := 51) dX1_addArcsBy_50 kd_34 (by omega) (by omega) rfl ?_
    rw [p34]
    refine v_iconst (q := 52) dX1_addArcsBy_51 rfl ?_
    refine v_icmp_ne (tgt := 79) (q := 55) dX1_addArcsBy_52 (by decide) rfl (by omega) (by omega) (fun h52 => ?_) (fun h52 => ?_)
    · obtain ⟨z1, z2, z3, z4, z5, z6, z7⟩ := (c3.resolve_left (fun h => by have := h.1; omega)).resolve_left (fun h => by have := h.1; omega)
      refine v_aload_n (j := 0) (q := 80) rfl dX1_addArcsBy_79 rfl ?_
      refine v_iload (j := 5) (q := 82) rfl dX1_addArcsBy_80 rfl ?_
      refine v_cVV1 (q := 85) dX1_addArcsBy_82 mlX1_152 mdX1_openHead (by decide) kd_83 rfl rfl ⟨Nat.le_refl 0, Nat.le_refl 0⟩ (by exact Nat.le_of_ble_eq_true rfl) rfl (c_X1_openHead (nxR r) mem (by omega) ho) ?_
      rintro m1 ⟨g1, g2⟩
      have e36 : m1 36 kk = blR r := (by rw [g1 36 (by decide) (by decide) (by decide)]; exact p36)
      have e84 : m1 84 = mem 84 := g1 84 (by decide) (by decide) (by decide)
      refine v_aload_n (j := 0) (q := 86) rfl dX1_addArcsBy_85 rfl ?_
      refine v_iconst (q := 87) dX1_addArcsBy_86 rfl ?_
      refine v_iload (j := 5) (q := 89) rfl dX1_addArcsBy_87 rfl ?_
      refine v_iadd (q := 90) dX1_addArcsBy_89 rfl ?_
      refine v_aload_n (j := 0) (q := 91) rfl dX1_addArcsBy_90 rfl ?_
      refine v_getR (p' := 29) (q := 94) dX1_addArcsBy_91 fl_X1_51 kd_83 rfl (rfc_1_2 kd_83) rfl ?_
      refine v_getR (p' := 36) (q := 97) dX1_addArcsBy_94 fl_X1_155 kd_29 rfl (rfc_2_8 kd_29) rfl ?_
      refine v_iload_n (j := 1) (q := 98) rfl dX1_addArcsBy_97 rfl ?_
      refine v_iald (q := 99) dX1_addArcsBy_98 kd_36 (by omega) (by omega) rfl ?_
      rw [e36]
      refine v_iload_n (j := 2) (q := 100) rfl dX1_addArcsBy_99 rfl ?_
      refine v_lload_n (j := 3) (q := 101) rfl dX1_addArcsBy_100 rfl ?_
      refine v_cVV4 (q := 104) dX1_addArcsBy_101 mlX1_104 mdX1_keepLeast (by decide) kd_83 rfl rfl ⟨Nat.le_refl 0, Nat.le_refl 0⟩ (by exact Nat.le_of_ble_eq_true rfl) rfl (c_X1_keepLeast (4 + nxR r) (blR r) e c m1 (by omega) (by omega) he hc (by rw [e84]; exact hw)) ?_
      rw [e84]
      rintro m hm
      refine v_vret dX1_addArcsBy_104 ?_
      first
        | (refine ⟨rfl, fin m ?_ (by omega)⟩
           rw [← hm]
           unfold tgS tgL
           rw [if_neg (by omega), if_pos (by omega)])
        | (refine ⟨rfl, fin m ?_ (by omega)⟩
           rw [← hm]
           unfold tgS tgL
           rw [if_neg (by omega), if_neg (by omega), if_pos (by omega)])
        | (subst hm
           have o : ∀ p, p ≠ 84 → sm m1 84 (kl (mem 84) (wx (4 + nxR r) (blR r) e) c) p = m1 p := fun p hp => sm_ne _ _ hp
           refine ⟨rfl, fun p h1 h2 h3 h4 => by rw [o p h2]; exact g1 p h1 h3 h4, ?_, g2.1.congr (by rw [o 83 (by decide)]) (o 111 (by decide)) (o 112 (by decide)), by rw [o 83 (by decide)]; exact g2.2.1, fun j j0 j1 => by rw [o 112 (by decide)]; exact g2.2.2.1 j j0 j1, fun x x0 x1 => ?_, fun j hj => by rw [o 83 (by decide)]; exact g2.2.2.2.2 j hj⟩
           · rw [sm_same]
             unfold tgS tgL
             rw [if_pos (by omega), if_neg (by omega), if_neg (by omega)]
           · rw [o 111 (by decide), g2.2.2.2.1 x x0 x1]
             exact ⟨fun q => q.imp id (fun e => ⟨by omega, e⟩), fun q => q.imp id (fun e => e.2)⟩)
    · obtain ⟨z1, z2, z3, z4, z5⟩ := (c3.resolve_left (fun h => by have := h.1; omega)).resolve_right (fun h => by have := h.1; omega)
      refine v_aload_n (j := 0) (q := 56) rfl dX1_addArcsBy_55 rfl ?_
      refine v_aload_n (j := 0) (q := 57) rfl dX1_addArcsBy_56 rfl ?_
      refine v_getR (p' := 29) (q := 60) dX1_addArcsBy_57 fl_X1_51 kd_83 rfl (rfc_1_2 kd_83) rfl ?_
      refine v_getR (p' := 33) (q := 63) dX1_addArcsBy_60 fl_X1_149 kd_29 rfl (rfc_2_5 kd_29) rfl ?_
      refine v_iload_n (j := 1) (q := 64) rfl dX1_addArcsBy_63 rfl ?_
      refine v_iald (q := 65) dX1_addArcsBy_64 kd_33 (by omega) (by omega) rfl ?_
      rw [p33]
      refine v_iload (j := 5) (q := 67) rfl dX1_addArcsBy_65 rfl ?_
      refine v_iconst (q := 68) dX1_addArcsBy_67 rfl ?_
      refine v_irem (q := 69) (by omega) (by omega) dX1_addArcsBy_68 rfl ?_
      refine v_iconst (q := 70) dX1_addArcsBy_69 rfl ?_
      refine v_iadd (q := 71) dX1_addArcsBy_70 rfl ?_
      rw [show nxR r % 5 + 1 = r.2.2.2.1 by omega]
      refine v_iload_n (j := 2) (q := 72) rfl dX1_addArcsBy_71 rfl ?_
      refine v_lload_n (j := 3) (q := 73) rfl dX1_addArcsBy_72 rfl ?_
      refine v_cVV4 (q := 76) dX1_addArcsBy_73 mlX1_104 mdX1_keepLeast (by decide) kd_83 rfl rfl ⟨Nat.le_refl 0, Nat.le_refl 0⟩ (by exact Nat.le_of_ble_eq_true rfl) rfl (c_X1_keepLeast r.2.2.1 r.2.2.2.1 e c mem (by omega) (by omega) he hc hw) ?_
      rintro m hm
      refine v_goto (q := 104) dX1_addArcsBy_76 (by decide) ?_
      refine v_vret dX1_addArcsBy_104 ?_
      first
        | (refine ⟨rfl, fin m ?_ (by omega)⟩
           rw [← hm]
           unfold tgS tgL
           rw [if_neg (by omega), if_pos (by omega)])
        | (refine ⟨rfl, fin m ?_ (by omega)⟩
           rw [← hm]
           unfold tgS tgL
           rw [if_neg (by omega), if_neg (by omega), if_pos (by omega)])
        | (subst hm
           have o : ∀ p, p ≠ 84 → sm m1 84 (kl (mem 84) (wx (4 + nxR r) (blR r) e) c) p = m1 p := fun p hp => sm_ne _ _ hp
           refine ⟨rfl, fun p h1 h2 h3 h4 => by rw [o p h2]; exact g1 p h1 h3 h4, ?_, g2.1.congr (by rw [o 83 (by decide)]) (o 111 (by decide)) (o 112 (by decide)), by rw [o 83 (by decide)]; exact g2.2.1, fun j j0 j1 => by rw [o 112 (by decide)]; exact g2.2.2.1 j j0 j1, fun x x0 x1 => ?_, fun j hj => by rw [o 83 (by decide)]; exact g2.2.2.2.2 j hj⟩
           · rw [sm_same]
             unfold tgS tgL
             rw [if_pos (by omega), if_neg (by omega), if_neg (by omega)]
           · rw [o 111 (by decide), g2.2.2.2.1 x x0 x1]
             exact ⟨fun q => q.imp id (fun e => ⟨by omega, e⟩), fun q => q.imp id (fun e => e.2)⟩)
  · refine v_aload_n (j := 0) (q := 24) rfl dX1_addArcsBy_23 rfl ?_
    refine v_aload_n (j := 0) (q := 25) rfl dX1_addArcsBy_24 rfl ?_
    refine v_getR (p' := 29) (q := 28) dX1_addArcsBy_25 fl_X1_51 kd_83 rfl (rfc_1_2 kd_83) rfl ?_
    refine v_getR (p' := 33) (q := 31) dX1_addArcsBy_28 fl_X1_149 kd_29 rfl (rfc_2_5 kd_29) rfl ?_
    refine v_iload_n (j := 1) (q := 32) rfl dX1_addArcsBy_31 rfl ?_
    refine v_iald (q := 33) dX1_addArcsBy_32 kd_33 (by omega) (by omega) rfl ?_
    rw [p33]
    refine v_iconst (q := 34) dX1_addArcsBy_33 rfl ?_
    refine v_iload_n (j := 2) (q := 35) rfl dX1_addArcsBy_34 rfl ?_
    refine v_lload_n (j := 3) (q := 36) rfl dX1_addArcsBy_35 rfl ?_
    refine v_cVV4 (q := 39) dX1_addArcsBy_36 mlX1_104 mdX1_keepLeast (by decide) kd_83 rfl rfl ⟨Nat.le_refl 0, Nat.le_refl 0⟩ (by exact Nat.le_of_ble_eq_true rfl) rfl (c_X1_keepLeast r.2.2.1 0 e c mem (by omega) (by omega) he hc hw) ?_
    rintro m hm
    refine v_goto (q := 104) dX1_addArcsBy_39 (by decide) ?_
    refine v_vret dX1_addArcsBy_104 ?_
    first
      | (refine ⟨rfl, fin m ?_ (by omega)⟩
         rw [← hm]
         unfold tgS tgL
         rw [if_neg (by omega), if_pos (by omega)])
      | (refine ⟨rfl, fin m ?_ (by omega)⟩
         rw [← hm]
         unfold tgS tgL
         rw [if_neg (by omega), if_neg (by omega), if_pos (by omega)])
      | (subst hm
         have o : ∀ p, p ≠ 84 → sm m1 84 (kl (mem 84) (wx (4 + nxR r) (blR r) e) c) p = m1 p := fun p hp => sm_ne _ _ hp
         refine ⟨rfl, fun p h1 h2 h3 h4 => by rw [o p h2]; exact g1 p h1 h3 h4, ?_, g2.1.congr (by rw [o 83 (by decide)]) (o 111 (by decide)) (o 112 (by decide)), by rw [o 83 (by decide)]; exact g2.2.1, fun j j0 j1 => by rw [o 112 (by decide)]; exact g2.2.2.1 j j0 j1, fun x x0 x1 => ?_, fun j hj => by rw [o 83 (by decide)]; exact g2.2.2.2.2 j hj⟩
         · rw [sm_same]
           unfold tgS tgL
           rw [if_pos (by omega), if_neg (by omega), if_neg (by omega)]
         · rw [o 111 (by decide), g2.2.2.2.1 x x0 x1]
           exact ⟨fun q => q.imp id (fun e => ⟨by omega, e⟩), fun q => q.imp id (fun e => e.2)⟩)
