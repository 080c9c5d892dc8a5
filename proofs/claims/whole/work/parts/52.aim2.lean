/-! ===== Search.aimAt ===== -/
def aimF (mem : Mem) (c : Nat) (q n : Int) : Mem := um (um (um mem c 2 1) c 3 q) c 4 n
theorem aimF_ne (mem : Mem) {c p : Nat} (q n : Int) (h : p ≠ c) : aimF mem c q n p = mem p := by unfold aimF; rw [um_ne _ _ _ h, um_ne _ _ _ h, um_ne _ _ _ h]
theorem AimOK.congr {y : Sy} {ex q : Int} {t : List Int} {m m1 : Mem} {c n : Nat} (h : AimOK y ex q t m c n) (h1 : ∀ i : Nat, i < n → m1 (c + 1) i = m (c + 1) i) (h2 : ∀ i : Nat, i < n → m1 (c + 3 + i) = m (c + 3 + i)) : AimOK y ex q t m1 c n := ⟨fun i hi => by rw [h1 i hi]; exact h.1 i hi, fun i hi => by rw [h2 i hi]; exact h.2 i hi⟩
theorem l_X3_aim (c w : Nat) (hc : isSr c) (hw : isWd w) (mem : Mem) (y : Sy) (ex q : Int) (t : List Int) (ok : okS y) (hpl : PL mem y) (hS0 : mem (sumS c) 0 = ex) (hex : -6 ≤ ex ∧ ex < 20) (hpr : PRok y.2.2.2.2 ex (mem (sumS c + 1))) (hq2 : 0 ≤ q ∧ q < y.1) (ht : ∀ d ∈ t, 1 ≤ d ∧ d ≤ y.2.1) (hlt : t.length ≤ 6) (hwd : WdIs mem w t) :
    ∀ (j i : Nat) (M : Mem), i + j = t.length → (∀ p, p ≤ c ∨ c + 8 < p ∨ p = c + 2 → M p = aimF mem c q t.length p) → AimOK y ex q t M c i →
    V cX3_aimAt RX3 4 none (rmk 4 97) (mE (fun r m => r = aU ∧ (∀ p, p ≤ c ∨ c + 8 < p ∨ p = c + 2 → m p = aimF mem c q t.length p) ∧ AimOK y ex q t m c t.length)) 25 [aR c, aI q, aR w, aI i] [] M := by
  have hc2 := hc.ge
  have hsum := sumS_le (c := c)
  have hw2 : w + 1 < 42 := by
    unfold isWd at hw
    simp at hw
    omega
  have e4 : aimF mem c q t.length c 4 = t.length := by unfold aimF; rw [um_same, ui_same]
  have e3 : aimF mem c q t.length c 3 = q := by unfold aimF; rw [um_same, ui_ne _ _ (by omega), um_same, ui_same]
  intro j
  induction j with
  | zero =>
    intro i M h1 hM ha
    have hi : i = t.length := by omega
    subst hi
    have f4 : M c 4 = t.length := by rw [hM c (by omega)]; exact e4
    refine v_iload_n (j := 3) (q := 26) rfl dX3_aimAt_25 rfl ?_
    refine v_aload_n (j := 0) (q := 27) rfl dX3_aimAt_26 rfl ?_
    refine v_getI (j := 4) (q := 30) dX3_aimAt_27 fl_X3_28 (sr0 hc) rfl rfl rfl ?_
    rw [f4]
    refine v_icmp_ge (tgt := 56) (q := 33) dX3_aimAt_30 (by decide) rfl (by omega) (by omega) (fun h30 => ?_) (fun h30 => ?_)
    · refine v_vret dX3_aimAt_56 ?_
      exact ⟨rfl, hM, ha⟩
    · exact absurd h30 (by omega)
  | succ j ih =>
    intro i M h1 hM ha
    have hi : i < t.length := by omega
    have f4 : M c 4 = t.length := by rw [hM c (by omega)]; exact e4
    have fw : M (w + 1) i = t.getD i 0 := by rw [hM _ (by omega), aimF_ne _ _ _ (by omega)]; exact hwd.2 i hi
    have lo : ∀ p, p < 42 → M p = mem p := fun p hp => by rw [hM _ (by omega), aimF_ne _ _ _ (by omega)]
    have lo2 : ∀ p z, p < 42 → um M (c + 1) i z p = mem p := fun p z hp => by rw [um_ne _ _ _ (by omega)]; exact lo p hp
    have ha2 : AimOK y ex q t (um M (c + 1) i (t.getD i 0)) c i := ha.congr (fun k hk => by rw [um_same, ui_ne _ _ (by omega)]) (fun k hk => um_ne _ _ _ (by omega))
    have a3 : um M (c + 1) i (t.getD i 0) (c + 1) i = t.getD i 0 := by rw [um_same, ui_same]
    refine v_iload_n (j := 3) (q := 26) rfl dX3_aimAt_25 rfl ?_
    refine v_aload_n (j := 0) (q := 27) rfl dX3_aimAt_26 rfl ?_
    refine v_getI (j := 4) (q := 30) dX3_aimAt_27 fl_X3_28 (sr0 hc) rfl rfl rfl ?_
    rw [f4]
    refine v_icmp_ge (tgt := 56) (q := 33) dX3_aimAt_30 (by decide) rfl (by omega) (by omega) (fun h30 => ?_) (fun h30 => ?_)
    · exact absurd h30 (by omega)
    · refine v_aload_n (j := 0) (q := 34) rfl dX3_aimAt_33 rfl ?_
      refine v_getR (p' := c + 1) (q := 37) dX3_aimAt_34 fl_X3_31 (sr0 hc) rfl (rfc_3_5 (sr0 hc)) rfl ?_
      refine v_iload_n (j := 3) (q := 38) rfl dX3_aimAt_37 rfl ?_
      refine v_aload_n (j := 2) (q := 39) rfl dX3_aimAt_38 rfl ?_
      refine v_getR (p' := w + 1) (q := 42) dX3_aimAt_39 fl_X3_67 (wd1 hw) rfl (rfc_8_1 (wd1 hw)) rfl ?_
      refine v_iload_n (j := 3) (q := 43) rfl dX3_aimAt_42 rfl ?_
      refine v_iald (q := 44) dX3_aimAt_43 (wd2 hw) (by omega) (by omega) rfl ?_
      rw [fw]
      refine v_iast (q := 45) dX3_aimAt_44 (sr1 hc) (by omega) (by omega) rfl ?_
      refine v_aload_n (j := 0) (q := 46) rfl dX3_aimAt_45 rfl ?_
      refine v_iload_n (j := 3) (q := 47) rfl dX3_aimAt_46 rfl ?_
      refine v_cVV1 (q := 50) dX3_aimAt_47 mlX3_76 mdX3_fillLevel (by decide) (sr0 hc) rfl rfl ⟨Nat.le_refl 0, Nat.le_refl 0⟩ (by exact Nat.le_of_ble_eq_true rfl) rfl (c_X3_fillLevel c i hc (by omega) _ y ex q t ok (hpl.congr (fun p _ _ => lo2 p _ (by omega))) (by rw [lo2 _ _ (by omega)]; exact hS0) hex (by rw [lo2 _ _ (by omega)]; exact hpr) (by rw [um_ne _ _ _ (by omega), hM c (by omega)]; exact e3) hq2 ht hi ha2 a3) ?_
      rintro _ ⟨v', rfl, hv'⟩
      refine v_iinc3 (q := 53) rfl dX3_aimAt_50 (by decide) rfl ?_
      refine v_goto (q := 25) dX3_aimAt_53 (by decide) ?_
      refine ih (i + 1) _ (by omega) (fun p hp => ?_) ⟨fun k hk => ?_, fun k hk h h0 h1 => ?_⟩
      · rw [sm_ne _ _ (by omega), um_ne _ _ _ (by omega)]; exact hM p hp
      · rw [sm_ne _ _ (by omega)]
        by_cases e : k = i
        · rw [e]; exact a3
        · exact ha2.1 k (by omega)
      · by_cases e : k = i
        · rw [e, sm_same]; exact hv' h h0 h1
        · rw [sm_ne _ _ (by omega)]; exact ha2.2 k (by omega) h h0 h1
theorem c_X3_aimAt (c w : Nat) (hc : isSr c) (hw : isWd w) (mem : Mem) (y : Sy) (ex q : Int) (t : List Int) (ok : okS y) (hpl : PL mem y) (hS0 : mem (sumS c) 0 = ex) (hex : -6 ≤ ex ∧ ex < 20) (hpr : PRok y.2.2.2.2 ex (mem (sumS c + 1))) (hq2 : 0 ≤ q ∧ q < y.1) (ht : ∀ d ∈ t, 1 ≤ d ∧ d ≤ y.2.1) (hlt : t.length ≤ 6) (hwd : WdIs mem w t) : CtrV mX3_aimAt [aR c, aI q, aR w] mem (fun m => (∀ p, p ≤ c ∨ c + 8 < p ∨ p = c + 2 → m p = aimF mem c q t.length p) ∧ AimOK y ex q t m c t.length) := by
  have hw2 : w ≠ c := by
    have := hc.ge
    unfold isWd at hw
    simp at hw
    omega
  have e0 : um (um mem c 2 1) c 3 q w 0 = t.length := by rw [um_ne _ _ _ hw2, um_ne _ _ _ hw2]; exact hwd.1
  have hmin : min (t.length : Int) 6 = t.length := by omega
  refine Ctr.ofV (ls := [aR c, aI q, aR w, aU]) rfl (by decide) rfl (Nat.le_of_ble_eq_true rfl) ?_
  refine v_aload_n (j := 0) (q := 1) rfl dX3_aimAt_0 rfl ?_
  refine v_iconst (q := 2) dX3_aimAt_1 rfl ?_
  refine v_putZ (j := 2) (q := 5) (by first | exact Or.inl rfl | exact Or.inr rfl | exact bI_01 _ | omega) dX3_aimAt_2 fl_X3_21 (sr0 hc) rfl rfl rfl ?_
  refine v_aload_n (j := 0) (q := 6) rfl dX3_aimAt_5 rfl ?_
  refine v_iload_n (j := 1) (q := 7) rfl dX3_aimAt_6 rfl ?_
  refine v_putI (j := 3) (q := 10) dX3_aimAt_7 fl_X3_25 (sr0 hc) rfl rfl rfl ?_
  refine v_aload_n (j := 0) (q := 11) rfl dX3_aimAt_10 rfl ?_
  refine v_aload_n (j := 2) (q := 12) rfl dX3_aimAt_11 rfl ?_
  refine v_getI (j := 0) (q := 15) dX3_aimAt_12 fl_X3_62 (wd1 hw) rfl rfl rfl ?_
  rw [e0]
  refine v_bipush (q := 17) (by decide) dX3_aimAt_15 rfl ?_
  refine v_mmin (q := 20) dX3_aimAt_17 mlX3_70 (by decide) ⟨Nat.le_refl 0, Nat.le_refl 0⟩ (by exact Nat.le_of_ble_eq_true rfl) rfl (by omega) (by omega) ?_
  rw [hmin]
  refine v_putI (j := 4) (q := 23) dX3_aimAt_20 fl_X3_28 (sr0 hc) rfl rfl rfl ?_
  refine v_iconst (q := 24) dX3_aimAt_23 rfl ?_
  refine v_ist3 (q := 25) rfl dX3_aimAt_24 (by decide) rfl ?_
  exact l_X3_aim c w hc hw mem y ex q t ok hpl hS0 hex hpr hq2 ht hlt hwd t.length 0 _ (by omega) (fun _ _ => rfl) ⟨fun _ h => absurd h (by omega), fun _ h => absurd h (by omega)⟩
