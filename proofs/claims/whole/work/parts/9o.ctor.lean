/-! ===== the constructors ===== -/
theorem dfs_0 (ad : Nat → Nat) (j : Nat) (hj : j < 2) : defaultValue (tyC 0 j) = vp_V (([aI 0, aU] : List AV).map (cv ad)) j := by
  rcases (show j = 0 ∨ j = 1 by omega) with rfl | rfl <;> rfl
theorem dfs_1 (ad : Nat → Nat) (j : Nat) (hj : j < 13) : defaultValue (tyC 1 j) = vp_V (([aI 0, aI 0, aU, aU, aU, aU, aU, aU, aU, aI 0, aU, aU, aU] : List AV).map (cv ad)) j := by
  rcases (show j = 0 ∨ j = 1 ∨ j = 2 ∨ j = 3 ∨ j = 4 ∨ j = 5 ∨ j = 6 ∨ j = 7 ∨ j = 8 ∨ j = 9 ∨ j = 10 ∨ j = 11 ∨ j = 12 by omega) with rfl | rfl | rfl | rfl | rfl | rfl | rfl | rfl | rfl | rfl | rfl | rfl | rfl <;> rfl
theorem dfs_2 (ad : Nat → Nat) (j : Nat) (hj : j < 10) : defaultValue (tyC 2 j) = vp_V (([aI 0, aI 0, aI 0, aU, aU, aU, aU, aU, aU, aU] : List AV).map (cv ad)) j := by
  rcases (show j = 0 ∨ j = 1 ∨ j = 2 ∨ j = 3 ∨ j = 4 ∨ j = 5 ∨ j = 6 ∨ j = 7 ∨ j = 8 ∨ j = 9 by omega) with rfl | rfl | rfl | rfl | rfl | rfl | rfl | rfl | rfl | rfl <;> rfl
theorem dfs_3 (ad : Nat → Nat) (j : Nat) (hj : j < 13) : defaultValue (tyC 3 j) = vp_V (([aL 0, aI 0, aI 0, aI 0, aI 0, aU, aU, aU, aU, aI 0, aU, aU, aU] : List AV).map (cv ad)) j := by
  rcases (show j = 0 ∨ j = 1 ∨ j = 2 ∨ j = 3 ∨ j = 4 ∨ j = 5 ∨ j = 6 ∨ j = 7 ∨ j = 8 ∨ j = 9 ∨ j = 10 ∨ j = 11 ∨ j = 12 by omega) with rfl | rfl | rfl | rfl | rfl | rfl | rfl | rfl | rfl | rfl | rfl | rfl | rfl <;> rfl
theorem dfs_4 (ad : Nat → Nat) (j : Nat) (hj : j < 6) : defaultValue (tyC 4 j) = vp_V (([aI 0, aI 0, aI 0, aI 0, aI 0, aU] : List AV).map (cv ad)) j := by
  rcases (show j = 0 ∨ j = 1 ∨ j = 2 ∨ j = 3 ∨ j = 4 ∨ j = 5 by omega) with rfl | rfl | rfl | rfl | rfl | rfl <;> rfl
theorem dfs_5 (ad : Nat → Nat) (j : Nat) (hj : j < 3) : defaultValue (tyC 5 j) = vp_V (([aI 0, aU, aU] : List AV).map (cv ad)) j := by
  rcases (show j = 0 ∨ j = 1 ∨ j = 2 by omega) with rfl | rfl | rfl <;> rfl
theorem dfs_6 (ad : Nat → Nat) (j : Nat) (hj : j < 3) : defaultValue (tyC 6 j) = vp_V (([aI 0, aI 0, aU] : List AV).map (cv ad)) j := by
  rcases (show j = 0 ∨ j = 1 ∨ j = 2 by omega) with rfl | rfl | rfl <;> rfl
theorem dfs_7 (ad : Nat → Nat) (j : Nat) (hj : j < 8) : defaultValue (tyC 7 j) = vp_V (([aI 0, aI 0, aI 0, aI 0, aU, aU, aU, aU] : List AV).map (cv ad)) j := by
  rcases (show j = 0 ∨ j = 1 ∨ j = 2 ∨ j = 3 ∨ j = 4 ∨ j = 5 ∨ j = 6 ∨ j = 7 by omega) with rfl | rfl | rfl | rfl | rfl | rfl | rfl | rfl <;> rfl
theorem dfs_8 (ad : Nat → Nat) (j : Nat) (hj : j < 2) : defaultValue (tyC 8 j) = vp_V (([aI 0, aU] : List AV).map (cv ad)) j := by
  rcases (show j = 0 ∨ j = 1 by omega) with rfl | rfl <;> rfl
theorem dfs_9 (ad : Nat → Nat) (j : Nat) (hj : j < 15) : defaultValue (tyC 9 j) = vp_V (([aU, aU, aU, aU, aU, aU, aU, aU, aU, aU, aU, aU, aU, aU, aI 0] : List AV).map (cv ad)) j := by
  rcases (show j = 0 ∨ j = 1 ∨ j = 2 ∨ j = 3 ∨ j = 4 ∨ j = 5 ∨ j = 6 ∨ j = 7 ∨ j = 8 ∨ j = 9 ∨ j = 10 ∨ j = 11 ∨ j = 12 ∨ j = 13 ∨ j = 14 by omega) with rfl | rfl | rfl | rfl | rfl | rfl | rfl | rfl | rfl | rfl | rfl | rfl | rfl | rfl | rfl <;> rfl
theorem dfs_10 (ad : Nat → Nat) (j : Nat) (hj : j < 20) : defaultValue (tyC 10 j) = vp_V (([aU, aU, aI 0, aI 0, aU, aI 0, aU, aI 0, aI 0, aU, aU, aI 0, aU, aU, aU, aU, aI 0, aI 0, aU, aI 0] : List AV).map (cv ad)) j := by
  rcases (show j = 0 ∨ j = 1 ∨ j = 2 ∨ j = 3 ∨ j = 4 ∨ j = 5 ∨ j = 6 ∨ j = 7 ∨ j = 8 ∨ j = 9 ∨ j = 10 ∨ j = 11 ∨ j = 12 ∨ j = 13 ∨ j = 14 ∨ j = 15 ∨ j = 16 ∨ j = 17 ∨ j = 18 ∨ j = 19 by omega) with rfl | rfl | rfl | rfl | rfl | rfl | rfl | rfl | rfl | rfl | rfl | rfl | rfl | rfl | rfl | rfl | rfl | rfl | rfl | rfl <;> rfl
theorem miX0 : mdI mX0_init 0 := ⟨(gw_in (tb_at 147 (by decide +kernel)) rfl), (gw_in (tb_at 85 (by decide +kernel)) rfl), (gw_in (tb_at 148 (by decide +kernel)) rfl), rfl, rfl, ⟨by decide, by decide, by decide +kernel⟩⟩
theorem miX1 : mdI mX1_init 2 := ⟨(gw_in (tb_at 375 (by decide +kernel)) rfl), (gw_in (tb_at 92 (by decide +kernel)) rfl), (gw_in (tb_at 376 (by decide +kernel)) rfl), rfl, rfl, ⟨by decide, by decide, by decide +kernel⟩⟩
theorem miX2 : mdI mX2_init 0 := ⟨(gw_in (tb_at 199 (by decide +kernel)) rfl), (gw_in (tb_at 88 (by decide +kernel)) rfl), (gw_in (tb_at 200 (by decide +kernel)) rfl), rfl, rfl, ⟨by decide, by decide, by decide +kernel⟩⟩
theorem miX3 : mdI mX3_init 3 := ⟨(gw_in (tb_at 288 (by decide +kernel)) rfl), (gw_in (tb_at 90 (by decide +kernel)) rfl), (gw_in (tb_at 289 (by decide +kernel)) rfl), rfl, rfl, ⟨by decide, by decide, by decide +kernel⟩⟩
theorem miX4 : mdI mX4_init 0 := ⟨(gw_in (tb_at 108 (by decide +kernel)) rfl), (gw_in (tb_at 84 (by decide +kernel)) rfl), (gw_in (tb_at 109 (by decide +kernel)) rfl), rfl, rfl, ⟨by decide, by decide, by decide +kernel⟩⟩
theorem miX5 : mdI mX5_init 1 := ⟨(gw_in (tb_at 271 (by decide +kernel)) rfl), (gw_in (tb_at 89 (by decide +kernel)) rfl), (gw_in (tb_at 272 (by decide +kernel)) rfl), rfl, rfl, ⟨by decide, by decide, by decide +kernel⟩⟩
theorem miX6 : mdI mX6_init 0 := ⟨(gw_in (tb_at 164 (by decide +kernel)) rfl), (gw_in (tb_at 86 (by decide +kernel)) rfl), (gw_in (tb_at 165 (by decide +kernel)) rfl), rfl, rfl, ⟨by decide, by decide, by decide +kernel⟩⟩
theorem miX7 : mdI mX7_init 0 := ⟨(gw_in (tb_at 340 (by decide +kernel)) rfl), (gw_in (tb_at 91 (by decide +kernel)) rfl), (gw_in (tb_at 341 (by decide +kernel)) rfl), rfl, rfl, ⟨by decide, by decide, by decide +kernel⟩⟩
theorem miX8 : mdI mX8_init 0 := ⟨(gw_in (tb_at 181 (by decide +kernel)) rfl), (gw_in (tb_at 87 (by decide +kernel)) rfl), (gw_in (tb_at 182 (by decide +kernel)) rfl), rfl, rfl, ⟨by decide, by decide, by decide +kernel⟩⟩
theorem miX9 : mdI mX9_init 0 := ⟨(gw_in (tb_at 100 (by decide +kernel)) rfl), (gw_in (tb_at 83 (by decide +kernel)) rfl), (gw_in (tb_at 101 (by decide +kernel)) rfl), rfl, rfl, ⟨by decide, by decide, by decide +kernel⟩⟩
theorem miX10 : mdI mX10_init 0 := ⟨(gw_in (tb_at 957 (by decide +kernel)) rfl), (gw_in (tb_at 93 (by decide +kernel)) rfl), (gw_in (tb_at 958 (by decide +kernel)) rfl), rfl, rfl, ⟨by decide, by decide, by decide +kernel⟩⟩
def setupC (d : Nat) : List AC := [cO 4 [aI 2, aI 3, aI 0, aI 1, aI 0, aR (d + 1)], cN 0 100 (fun _ => 0)]
theorem c_X4_init (d : Nat) (hd : d + 2 ≤ 128) : CtrN mX4_init 1 100 d [] (cO 4 [aI 0, aI 0, aI 0, aI 0, aI 0, aU]) (setupC d) := by
  refine CtrN.ofVN (ls := [aR d]) rfl rfl (by decide) rfl (Nat.le_of_ble_eq_true rfl) ?_
  refine n_aload_n (j := 0) (q := 1) rfl dX4_init_0 rfl ?_
  refine n_obj (q := 4) dX4_init_1 (gw_in (tb_at 110 (by decide +kernel)) rfl) (by decide) rfl ?_
  refine n_aload_n (j := 0) (q := 5) rfl dX4_init_4 rfl ?_
  refine n_iconst (q := 6) dX4_init_5 rfl ?_
  refine n_put (jj := 0) (fs := [aI 0, aI 0, aI 0, aI 0, aI 0, aU]) (q := 9) dX4_init_6 fl_X4_9 rfl (fun _ => ⟨rfl, rfl⟩) rfl rfl (Nat.le_of_ble_eq_true rfl) rfl ?_
  show VN _ _ _ _ _ _ 9 [aR d] [] ([cO 4 [aI 2, aI 0, aI 0, aI 0, aI 0, aU]], 0, 0)
  refine n_aload_n (j := 0) (q := 10) rfl dX4_init_9 rfl ?_
  refine n_iconst (q := 11) dX4_init_10 rfl ?_
  refine n_put (jj := 0) (fs := [aI 2, aI 0, aI 0, aI 0, aI 0, aU]) (q := 14) dX4_init_11 fl_X4_15 rfl (fun _ => ⟨rfl, rfl⟩) rfl rfl (Nat.le_of_ble_eq_true rfl) rfl ?_
  show VN _ _ _ _ _ _ 14 [aR d] [] ([cO 4 [aI 2, aI 3, aI 0, aI 0, aI 0, aU]], 0, 0)
  refine n_aload_n (j := 0) (q := 15) rfl dX4_init_14 rfl ?_
  refine n_iconst (q := 16) dX4_init_15 rfl ?_
  refine n_put (jj := 0) (fs := [aI 2, aI 3, aI 0, aI 0, aI 0, aU]) (q := 19) dX4_init_16 fl_X4_18 rfl (fun _ => ⟨rfl, rfl⟩) rfl rfl (Nat.le_of_ble_eq_true rfl) rfl ?_
  show VN _ _ _ _ _ _ 19 [aR d] [] ([cO 4 [aI 2, aI 3, aI 0, aI 0, aI 0, aU]], 0, 0)
  refine n_aload_n (j := 0) (q := 20) rfl dX4_init_19 rfl ?_
  refine n_iconst (q := 21) dX4_init_20 rfl ?_
  refine n_put (jj := 0) (fs := [aI 2, aI 3, aI 0, aI 0, aI 0, aU]) (q := 24) dX4_init_21 fl_X4_21 rfl (fun _ => ⟨rfl, rfl⟩) rfl rfl (Nat.le_of_ble_eq_true rfl) rfl ?_
  show VN _ _ _ _ _ _ 24 [aR d] [] ([cO 4 [aI 2, aI 3, aI 0, aI 1, aI 0, aU]], 0, 0)
  refine n_aload_n (j := 0) (q := 25) rfl dX4_init_24 rfl ?_
  refine n_iconst (q := 26) dX4_init_25 rfl ?_
  refine n_put (jj := 0) (fs := [aI 2, aI 3, aI 0, aI 1, aI 0, aU]) (q := 29) dX4_init_26 fl_X4_24 rfl (fun _ => ⟨rfl, rfl⟩) rfl rfl (Nat.le_of_ble_eq_true rfl) rfl ?_
  show VN _ _ _ _ _ _ 29 [aR d] [] ([cO 4 [aI 2, aI 3, aI 0, aI 1, aI 0, aU]], 0, 0)
  refine n_aload_n (j := 0) (q := 30) rfl dX4_init_29 rfl ?_
  refine n_bipush (q := 32) (by decide) dX4_init_30 rfl ?_
  refine n_newI (N := 100) (q := 34) dX4_init_32 rfl (by decide) (by decide) (by show d + 1 < 128; omega) (by decide) (by decide) ?_
  show VN _ _ _ _ _ _ 34 [aR d] [aR (d + 1), aR d] ([cO 4 [aI 2, aI 3, aI 0, aI 1, aI 0, aU], cN 0 100 (fun _ => 0)], 1, 100)
  refine n_putF (nE_i _ _ _ _) (jj := 0) (fs := [aI 2, aI 3, aI 0, aI 1, aI 0, aU]) (q := 37) dX4_init_34 fl_X4_27 (fun w h => by cases h; rfl) rfl (fun _ => ⟨rfl, rfl⟩) rfl rfl (Nat.le_of_ble_eq_true rfl) rfl ?_
  show VN _ _ _ _ _ _ 37 [aR d] [] ([cO 4 [aI 2, aI 3, aI 0, aI 1, aI 0, aR (d + 1)], cN 0 100 (fun _ => 0)], 1, 100)
  exact n_ret dX4_init_37
def wordC (d : Nat) : List AC := [cO 8 [aI 0, aR (d + 1)], cN 0 10 (fun _ => 0)]
theorem c_X8_init (d : Nat) (hd : d + 2 ≤ 128) : CtrN mX8_init 1 10 d [] (cO 8 [aI 0, aU]) (wordC d) := by
  refine CtrN.ofVN (ls := [aR d]) rfl rfl (by decide) rfl (Nat.le_of_ble_eq_true rfl) ?_
  refine n_aload_n (j := 0) (q := 1) rfl dX8_init_0 rfl ?_
  refine n_obj (q := 4) dX8_init_1 (gw_in (tb_at 183 (by decide +kernel)) rfl) (by decide) rfl ?_
  refine n_aload_n (j := 0) (q := 5) rfl dX8_init_4 rfl ?_
  refine n_iconst (q := 6) dX8_init_5 rfl ?_
  refine n_put (jj := 0) (fs := [aI 0, aU]) (q := 9) dX8_init_6 fl_X8_9 rfl (fun _ => ⟨rfl, rfl⟩) rfl rfl (Nat.le_of_ble_eq_true rfl) rfl ?_
  show VN _ _ _ _ _ _ 9 [aR d] [] ([cO 8 [aI 0, aU]], 0, 0)
  refine n_aload_n (j := 0) (q := 10) rfl dX8_init_9 rfl ?_
  refine n_bipush (q := 12) (by decide) dX8_init_10 rfl ?_
  refine n_newI (N := 10) (q := 14) dX8_init_12 rfl (by decide) (by decide) (by show d + 1 < 128; omega) (by decide) (by decide) ?_
  show VN _ _ _ _ _ _ 14 [aR d] [aR (d + 1), aR d] ([cO 8 [aI 0, aU], cN 0 10 (fun _ => 0)], 1, 10)
  refine n_putF (nE_i _ _ _ _) (jj := 0) (fs := [aI 0, aU]) (q := 17) dX8_init_14 fl_X8_15 (fun w h => by cases h; rfl) rfl (fun _ => ⟨rfl, rfl⟩) rfl rfl (Nat.le_of_ble_eq_true rfl) rfl ?_
  show VN _ _ _ _ _ _ 17 [aR d] [] ([cO 8 [aI 0, aR (d + 1)], cN 0 10 (fun _ => 0)], 1, 10)
  exact n_ret dX8_init_17
def textC (d : Nat) : List AC := [cO 6 [aI 0, aI 0, aR (d + 1)], cN 0 200 (fun _ => 0)]
theorem c_X6_init (d : Nat) (hd : d + 2 ≤ 128) : CtrN mX6_init 1 200 d [] (cO 6 [aI 0, aI 0, aU]) (textC d) := by
  refine CtrN.ofVN (ls := [aR d]) rfl rfl (by decide) rfl (Nat.le_of_ble_eq_true rfl) ?_
  refine n_aload_n (j := 0) (q := 1) rfl dX6_init_0 rfl ?_
  refine n_obj (q := 4) dX6_init_1 (gw_in (tb_at 166 (by decide +kernel)) rfl) (by decide) rfl ?_
  refine n_aload_n (j := 0) (q := 5) rfl dX6_init_4 rfl ?_
  refine n_iconst (q := 6) dX6_init_5 rfl ?_
  refine n_put (jj := 0) (fs := [aI 0, aI 0, aU]) (q := 9) dX6_init_6 fl_X6_9 rfl (fun _ => ⟨rfl, rfl⟩) rfl rfl (Nat.le_of_ble_eq_true rfl) rfl ?_
  show VN _ _ _ _ _ _ 9 [aR d] [] ([cO 6 [aI 0, aI 0, aU]], 0, 0)
  refine n_aload_n (j := 0) (q := 10) rfl dX6_init_9 rfl ?_
  refine n_iconst (q := 11) dX6_init_10 rfl ?_
  refine n_put (jj := 0) (fs := [aI 0, aI 0, aU]) (q := 14) dX6_init_11 fl_X6_15 rfl (fun _ => ⟨rfl, rfl⟩) rfl rfl (Nat.le_of_ble_eq_true rfl) rfl ?_
  show VN _ _ _ _ _ _ 14 [aR d] [] ([cO 6 [aI 0, aI 0, aU]], 0, 0)
  refine n_aload_n (j := 0) (q := 15) rfl dX6_init_14 rfl ?_
  refine n_sipush (q := 18) (by decide) dX6_init_15 rfl ?_
  refine n_newI (N := 200) (q := 20) dX6_init_18 rfl (by decide) (by decide) (by show d + 1 < 128; omega) (by decide) (by decide) ?_
  show VN _ _ _ _ _ _ 20 [aR d] [aR (d + 1), aR d] ([cO 6 [aI 0, aI 0, aU], cN 0 200 (fun _ => 0)], 1, 200)
  refine n_putF (nE_i _ _ _ _) (jj := 0) (fs := [aI 0, aI 0, aU]) (q := 23) dX6_init_20 fl_X6_18 (fun w h => by cases h; rfl) rfl (fun _ => ⟨rfl, rfl⟩) rfl rfl (Nat.le_of_ble_eq_true rfl) rfl ?_
  show VN _ _ _ _ _ _ 23 [aR d] [] ([cO 6 [aI 0, aI 0, aR (d + 1)], cN 0 200 (fun _ => 0)], 1, 200)
  exact n_ret dX6_init_23
def planC (d : Nat) : List AC := [cO 2 [aI 0, aI 0, aI 0, aR (d + 1), aR (d + 3), aR (d + 4), aR (d + 5), aR (d + 6), aR (d + 7), aR (d + 8)], cO 8 [aI 0, aR (d + 2)], cN 0 10 (fun _ => 0), cN 0 20 (fun _ => 0), cN 0 20 (fun _ => 0), cN 0 20 (fun _ => 0), cN 0 20 (fun _ => 0), cN 0 20 (fun _ => 0), cN 1 20 (fun _ => 0)]
theorem c_X2_init (d : Nat) (hd : d + 9 ≤ 128) : CtrN mX2_init 8 132 d [] (cO 2 [aI 0, aI 0, aI 0, aU, aU, aU, aU, aU, aU, aU]) (planC d) := by
  refine CtrN.ofVN (ls := [aR d]) rfl rfl (by decide) rfl (Nat.le_of_ble_eq_true rfl) ?_
  refine n_aload_n (j := 0) (q := 1) rfl dX2_init_0 rfl ?_
  refine n_obj (q := 4) dX2_init_1 (gw_in (tb_at 201 (by decide +kernel)) rfl) (by decide) rfl ?_
  refine n_aload_n (j := 0) (q := 5) rfl dX2_init_4 rfl ?_
  refine n_iconst (q := 6) dX2_init_5 rfl ?_
  refine n_put (jj := 0) (fs := [aI 0, aI 0, aI 0, aU, aU, aU, aU, aU, aU, aU]) (q := 9) dX2_init_6 fl_X2_9 rfl (fun _ => ⟨rfl, rfl⟩) rfl rfl (Nat.le_of_ble_eq_true rfl) rfl ?_
  show VN _ _ _ _ _ _ 9 [aR d] [] ([cO 2 [aI 0, aI 0, aI 0, aU, aU, aU, aU, aU, aU, aU]], 0, 0)
  refine n_aload_n (j := 0) (q := 10) rfl dX2_init_9 rfl ?_
  refine n_iconst (q := 11) dX2_init_10 rfl ?_
  refine n_put (jj := 0) (fs := [aI 0, aI 0, aI 0, aU, aU, aU, aU, aU, aU, aU]) (q := 14) dX2_init_11 fl_X2_15 rfl (fun _ => ⟨rfl, rfl⟩) rfl rfl (Nat.le_of_ble_eq_true rfl) rfl ?_
  show VN _ _ _ _ _ _ 14 [aR d] [] ([cO 2 [aI 0, aI 0, aI 0, aU, aU, aU, aU, aU, aU, aU]], 0, 0)
  refine n_aload_n (j := 0) (q := 15) rfl dX2_init_14 rfl ?_
  refine n_iconst (q := 16) dX2_init_15 rfl ?_
  refine n_put (jj := 0) (fs := [aI 0, aI 0, aI 0, aU, aU, aU, aU, aU, aU, aU]) (q := 19) dX2_init_16 fl_X2_18 rfl (fun _ => ⟨rfl, rfl⟩) rfl rfl (Nat.le_of_ble_eq_true rfl) rfl ?_
  show VN _ _ _ _ _ _ 19 [aR d] [] ([cO 2 [aI 0, aI 0, aI 0, aU, aU, aU, aU, aU, aU, aU]], 0, 0)
  refine n_aload_n (j := 0) (q := 20) rfl dX2_init_19 rfl ?_
  refine n_new (ci := 8) (C := RX8) (T := TX8) (N := 2) (fs := [aI 0, aU]) (q := 23) dX2_init_20 rfl (gw_in (tb_at 202 (by decide +kernel)) rfl) (gw_in (tb_at 179 (by decide +kernel)) rfl) (gw_in (tb_at 87 (by decide +kernel)) rfl) dfs_8 rfl (by show d + 1 < 128; omega) (by decide) (by decide) ?_
  show VN _ _ _ _ _ _ 23 [aR d] [aR (d + 1), aR d] (([cO 2 [aI 0, aI 0, aI 0, aU, aU, aU, aU, aU, aU, aU]]) ++ [cO 8 [aI 0, aU]], 1, 2)
  refine n_dup (q := 24) rfl dX2_init_23 rfl ?_
  refine n_ctorN (host := "StackLab") (M := mX8_init) (q := 27) (st := [aR (d + 1), aR d]) (pd := (d + 1)) (mc := 1) (ms := 10) (as := []) (es0 := [cO 2 [aI 0, aI 0, aI 0, aU, aU, aU, aU, aU, aU, aU]]) (fin := wordC (d + 1)) dX2_init_24 (List.mem_filter.mpr ⟨tb_at 203 (by decide +kernel), rfl⟩) miX8 (by decide) (by decide) rfl (by show d + (1 + 2) ≤ 128; omega) rfl rfl (Nat.le_of_ble_eq_true rfl) (c_X8_init (d + 1)  (by omega)) rfl ?_
  show VN _ _ _ _ _ _ 27 [aR d] [aR (d + 1), aR d] ([cO 2 [aI 0, aI 0, aI 0, aU, aU, aU, aU, aU, aU, aU], cO 8 [aI 0, aR (d + 2)], cN 0 10 (fun _ => 0)], 2, 12)
  refine n_putF (nE_i _ _ _ _) (jj := 0) (fs := [aI 0, aI 0, aI 0, aU, aU, aU, aU, aU, aU, aU]) (q := 30) dX2_init_27 fl_X2_24 (fun w h => by cases h; rfl) rfl (fun _ => ⟨rfl, rfl⟩) rfl rfl (Nat.le_of_ble_eq_true rfl) rfl ?_
  show VN _ _ _ _ _ _ 30 [aR d] [] ([cO 2 [aI 0, aI 0, aI 0, aR (d + 1), aU, aU, aU, aU, aU, aU], cO 8 [aI 0, aR (d + 2)], cN 0 10 (fun _ => 0)], 2, 12)
  refine n_aload_n (j := 0) (q := 31) rfl dX2_init_30 rfl ?_
  refine n_bipush (q := 33) (by decide) dX2_init_31 rfl ?_
  refine n_newI (N := 20) (q := 35) dX2_init_33 rfl (by decide) (by decide) (by show d + 3 < 128; omega) (by decide) (by decide) ?_
  show VN _ _ _ _ _ _ 35 [aR d] [aR (d + 3), aR d] ([cO 2 [aI 0, aI 0, aI 0, aR (d + 1), aU, aU, aU, aU, aU, aU], cO 8 [aI 0, aR (d + 2)], cN 0 10 (fun _ => 0), cN 0 20 (fun _ => 0)], 3, 32)
  refine n_putF (nE_i _ _ _ _) (jj := 0) (fs := [aI 0, aI 0, aI 0, aR (d + 1), aU, aU, aU, aU, aU, aU]) (q := 38) dX2_init_35 fl_X2_28 (fun w h => by cases h; rfl) rfl (fun _ => ⟨rfl, rfl⟩) rfl rfl (Nat.le_of_ble_eq_true rfl) rfl ?_
  show VN _ _ _ _ _ _ 38 [aR d] [] ([cO 2 [aI 0, aI 0, aI 0, aR (d + 1), aR (d + 3), aU, aU, aU, aU, aU], cO 8 [aI 0, aR (d + 2)], cN 0 10 (fun _ => 0), cN 0 20 (fun _ => 0)], 3, 32)
  refine n_aload_n (j := 0) (q := 39) rfl dX2_init_38 rfl ?_
  refine n_bipush (q := 41) (by decide) dX2_init_39 rfl ?_
  refine n_newI (N := 20) (q := 43) dX2_init_41 rfl (by decide) (by decide) (by show d + 4 < 128; omega) (by decide) (by decide) ?_
  show VN _ _ _ _ _ _ 43 [aR d] [aR (d + 4), aR d] ([cO 2 [aI 0, aI 0, aI 0, aR (d + 1), aR (d + 3), aU, aU, aU, aU, aU], cO 8 [aI 0, aR (d + 2)], cN 0 10 (fun _ => 0), cN 0 20 (fun _ => 0), cN 0 20 (fun _ => 0)], 4, 52)
  refine n_putF (nE_i _ _ _ _) (jj := 0) (fs := [aI 0, aI 0, aI 0, aR (d + 1), aR (d + 3), aU, aU, aU, aU, aU]) (q := 46) dX2_init_43 fl_X2_32 (fun w h => by cases h; rfl) rfl (fun _ => ⟨rfl, rfl⟩) rfl rfl (Nat.le_of_ble_eq_true rfl) rfl ?_
  show VN _ _ _ _ _ _ 46 [aR d] [] ([cO 2 [aI 0, aI 0, aI 0, aR (d + 1), aR (d + 3), aR (d + 4), aU, aU, aU, aU], cO 8 [aI 0, aR (d + 2)], cN 0 10 (fun _ => 0), cN 0 20 (fun _ => 0), cN 0 20 (fun _ => 0)], 4, 52)
  refine n_aload_n (j := 0) (q := 47) rfl dX2_init_46 rfl ?_
  refine n_bipush (q := 49) (by decide) dX2_init_47 rfl ?_
  refine n_newI (N := 20) (q := 51) dX2_init_49 rfl (by decide) (by decide) (by show d + 5 < 128; omega) (by decide) (by decide) ?_
  show VN _ _ _ _ _ _ 51 [aR d] [aR (d + 5), aR d] ([cO 2 [aI 0, aI 0, aI 0, aR (d + 1), aR (d + 3), aR (d + 4), aU, aU, aU, aU], cO 8 [aI 0, aR (d + 2)], cN 0 10 (fun _ => 0), cN 0 20 (fun _ => 0), cN 0 20 (fun _ => 0), cN 0 20 (fun _ => 0)], 5, 72)
  refine n_putF (nE_i _ _ _ _) (jj := 0) (fs := [aI 0, aI 0, aI 0, aR (d + 1), aR (d + 3), aR (d + 4), aU, aU, aU, aU]) (q := 54) dX2_init_51 fl_X2_35 (fun w h => by cases h; rfl) rfl (fun _ => ⟨rfl, rfl⟩) rfl rfl (Nat.le_of_ble_eq_true rfl) rfl ?_
  show VN _ _ _ _ _ _ 54 [aR d] [] ([cO 2 [aI 0, aI 0, aI 0, aR (d + 1), aR (d + 3), aR (d + 4), aR (d + 5), aU, aU, aU], cO 8 [aI 0, aR (d + 2)], cN 0 10 (fun _ => 0), cN 0 20 (fun _ => 0), cN 0 20 (fun _ => 0), cN 0 20 (fun _ => 0)], 5, 72)
  refine n_aload_n (j := 0) (q := 55) rfl dX2_init_54 rfl ?_
  refine n_bipush (q := 57) (by decide) dX2_init_55 rfl ?_
  refine n_newI (N := 20) (q := 59) dX2_init_57 rfl (by decide) (by decide) (by show d + 6 < 128; omega) (by decide) (by decide) ?_
  show VN _ _ _ _ _ _ 59 [aR d] [aR (d + 6), aR d] ([cO 2 [aI 0, aI 0, aI 0, aR (d + 1), aR (d + 3), aR (d + 4), aR (d + 5), aU, aU, aU], cO 8 [aI 0, aR (d + 2)], cN 0 10 (fun _ => 0), cN 0 20 (fun _ => 0), cN 0 20 (fun _ => 0), cN 0 20 (fun _ => 0), cN 0 20 (fun _ => 0)], 6, 92)
  refine n_putF (nE_i _ _ _ _) (jj := 0) (fs := [aI 0, aI 0, aI 0, aR (d + 1), aR (d + 3), aR (d + 4), aR (d + 5), aU, aU, aU]) (q := 62) dX2_init_59 fl_X2_38 (fun w h => by cases h; rfl) rfl (fun _ => ⟨rfl, rfl⟩) rfl rfl (Nat.le_of_ble_eq_true rfl) rfl ?_
  show VN _ _ _ _ _ _ 62 [aR d] [] ([cO 2 [aI 0, aI 0, aI 0, aR (d + 1), aR (d + 3), aR (d + 4), aR (d + 5), aR (d + 6), aU, aU], cO 8 [aI 0, aR (d + 2)], cN 0 10 (fun _ => 0), cN 0 20 (fun _ => 0), cN 0 20 (fun _ => 0), cN 0 20 (fun _ => 0), cN 0 20 (fun _ => 0)], 6, 92)
  refine n_aload_n (j := 0) (q := 63) rfl dX2_init_62 rfl ?_
  refine n_bipush (q := 65) (by decide) dX2_init_63 rfl ?_
  refine n_newI (N := 20) (q := 67) dX2_init_65 rfl (by decide) (by decide) (by show d + 7 < 128; omega) (by decide) (by decide) ?_
  show VN _ _ _ _ _ _ 67 [aR d] [aR (d + 7), aR d] ([cO 2 [aI 0, aI 0, aI 0, aR (d + 1), aR (d + 3), aR (d + 4), aR (d + 5), aR (d + 6), aU, aU], cO 8 [aI 0, aR (d + 2)], cN 0 10 (fun _ => 0), cN 0 20 (fun _ => 0), cN 0 20 (fun _ => 0), cN 0 20 (fun _ => 0), cN 0 20 (fun _ => 0), cN 0 20 (fun _ => 0)], 7, 112)
  refine n_putF (nE_i _ _ _ _) (jj := 0) (fs := [aI 0, aI 0, aI 0, aR (d + 1), aR (d + 3), aR (d + 4), aR (d + 5), aR (d + 6), aU, aU]) (q := 70) dX2_init_67 fl_X2_41 (fun w h => by cases h; rfl) rfl (fun _ => ⟨rfl, rfl⟩) rfl rfl (Nat.le_of_ble_eq_true rfl) rfl ?_
  show VN _ _ _ _ _ _ 70 [aR d] [] ([cO 2 [aI 0, aI 0, aI 0, aR (d + 1), aR (d + 3), aR (d + 4), aR (d + 5), aR (d + 6), aR (d + 7), aU], cO 8 [aI 0, aR (d + 2)], cN 0 10 (fun _ => 0), cN 0 20 (fun _ => 0), cN 0 20 (fun _ => 0), cN 0 20 (fun _ => 0), cN 0 20 (fun _ => 0), cN 0 20 (fun _ => 0)], 7, 112)
  refine n_aload_n (j := 0) (q := 71) rfl dX2_init_70 rfl ?_
  refine n_bipush (q := 73) (by decide) dX2_init_71 rfl ?_
  refine n_newL (N := 20) (q := 75) dX2_init_73 rfl (by decide) (by decide) (by show d + 8 < 128; omega) (by decide) (by decide) ?_
  show VN _ _ _ _ _ _ 75 [aR d] [aR (d + 8), aR d] ([cO 2 [aI 0, aI 0, aI 0, aR (d + 1), aR (d + 3), aR (d + 4), aR (d + 5), aR (d + 6), aR (d + 7), aU], cO 8 [aI 0, aR (d + 2)], cN 0 10 (fun _ => 0), cN 0 20 (fun _ => 0), cN 0 20 (fun _ => 0), cN 0 20 (fun _ => 0), cN 0 20 (fun _ => 0), cN 0 20 (fun _ => 0), cN 1 20 (fun _ => 0)], 8, 132)
  refine n_putF (nE_i _ _ _ _) (jj := 0) (fs := [aI 0, aI 0, aI 0, aR (d + 1), aR (d + 3), aR (d + 4), aR (d + 5), aR (d + 6), aR (d + 7), aU]) (q := 78) dX2_init_75 fl_X2_44 (fun w h => by cases h; rfl) rfl (fun _ => ⟨rfl, rfl⟩) rfl rfl (Nat.le_of_ble_eq_true rfl) rfl ?_
  show VN _ _ _ _ _ _ 78 [aR d] [] ([cO 2 [aI 0, aI 0, aI 0, aR (d + 1), aR (d + 3), aR (d + 4), aR (d + 5), aR (d + 6), aR (d + 7), aR (d + 8)], cO 8 [aI 0, aR (d + 2)], cN 0 10 (fun _ => 0), cN 0 20 (fun _ => 0), cN 0 20 (fun _ => 0), cN 0 20 (fun _ => 0), cN 0 20 (fun _ => 0), cN 0 20 (fun _ => 0), cN 1 20 (fun _ => 0)], 8, 132)
  exact n_ret dX2_init_78
def sumC (d : Nat) (p1 : Nat) : List AC := [cO 5 [aI (-6), aR p1, aR (d + 1)], cN 1 80 (fun _ => 0)]
theorem c_X5_init (d : Nat) (p1 : Nat) (hd : d + 2 ≤ 128) : CtrN mX5_init 1 80 d [aR p1] (cO 5 [aI 0, aU, aU]) (sumC d p1) := by
  refine CtrN.ofVN (ls := [aR d, aR p1]) rfl rfl (by decide) rfl (Nat.le_of_ble_eq_true rfl) ?_
  refine n_aload_n (j := 0) (q := 1) rfl dX5_init_0 rfl ?_
  refine n_obj (q := 4) dX5_init_1 (gw_in (tb_at 273 (by decide +kernel)) rfl) (by decide) rfl ?_
  refine n_aload_n (j := 0) (q := 5) rfl dX5_init_4 rfl ?_
  refine n_bipush (q := 7) (by decide) dX5_init_5 rfl ?_
  refine n_put (jj := 0) (fs := [aI 0, aU, aU]) (q := 10) dX5_init_7 fl_X5_9 rfl (fun _ => ⟨rfl, rfl⟩) rfl rfl (Nat.le_of_ble_eq_true rfl) rfl ?_
  show VN _ _ _ _ _ _ 10 [aR d, aR p1] [] ([cO 5 [aI (-6), aU, aU]], 0, 0)
  refine n_aload_n (j := 0) (q := 11) rfl dX5_init_10 rfl ?_
  refine n_bipush (q := 13) (by decide) dX5_init_11 rfl ?_
  refine n_newL (N := 80) (q := 15) dX5_init_13 rfl (by decide) (by decide) (by show d + 1 < 128; omega) (by decide) (by decide) ?_
  show VN _ _ _ _ _ _ 15 [aR d, aR p1] [aR (d + 1), aR d] ([cO 5 [aI (-6), aU, aU], cN 1 80 (fun _ => 0)], 1, 80)
  refine n_putF (nE_i _ _ _ _) (jj := 0) (fs := [aI (-6), aU, aU]) (q := 18) dX5_init_15 fl_X5_15 (fun w h => by cases h; rfl) rfl (fun _ => ⟨rfl, rfl⟩) rfl rfl (Nat.le_of_ble_eq_true rfl) rfl ?_
  show VN _ _ _ _ _ _ 18 [aR d, aR p1] [] ([cO 5 [aI (-6), aU, aR (d + 1)], cN 1 80 (fun _ => 0)], 1, 80)
  refine n_aload_n (j := 0) (q := 19) rfl dX5_init_18 rfl ?_
  refine n_aload_n (j := 1) (q := 20) rfl dX5_init_19 rfl ?_
  refine n_putF (nE_i _ _ _ _) (jj := 0) (fs := [aI (-6), aU, aR (d + 1)]) (q := 23) dX5_init_20 fl_X5_19 (fun w h => by cases h; rfl) rfl (fun _ => ⟨rfl, rfl⟩) rfl rfl (Nat.le_of_ble_eq_true rfl) rfl ?_
  show VN _ _ _ _ _ _ 23 [aR d, aR p1] [] ([cO 5 [aI (-6), aR p1, aR (d + 1)], cN 1 80 (fun _ => 0)], 1, 80)
  exact n_ret dX5_init_23
def seaC (d : Nat) (p1 p2 : Nat) : List AC := [cO 3 [aL 16777232777216, aI 0, aI 0, aI 0, aI 0, aR (d + 1), aR (d + 2), aR p1, aR p2, aI 310, aR (d + 9), aR (d + 10), aR (d + 11)], cN 0 6 (fun _ => 0), cQ 3 6 (fun j => some ((d + 3) + j)), cN 1 20 (fun _ => 0), cN 1 20 (fun _ => 0), cN 1 20 (fun _ => 0), cN 1 20 (fun _ => 0), cN 1 20 (fun _ => 0), cN 1 20 (fun _ => 0), cN 0 310 (fun _ => 0), cN 1 1244 (fun _ => 0), cN 2 311 (fun _ => 0)]
theorem c_X3_310_init (d : Nat) (p1 p2 : Nat) (hd : d + 12 ≤ 128) : CtrN mX3_init 11 1997 d [aR p1, aR p2, aI 310] (cO 3 [aL 0, aI 0, aI 0, aI 0, aI 0, aU, aU, aU, aU, aI 0, aU, aU, aU]) (seaC d p1 p2) := by
  refine CtrN.ofVN (ls := [aR d, aR p1, aR p2, aI 310]) rfl rfl (by decide) rfl (Nat.le_of_ble_eq_true rfl) ?_
  refine n_aload_n (j := 0) (q := 1) rfl dX3_init_0 rfl ?_
  refine n_obj (q := 4) dX3_init_1 (gw_in (tb_at 290 (by decide +kernel)) rfl) (by decide) rfl ?_
  refine n_aload_n (j := 0) (q := 5) rfl dX3_init_4 rfl ?_
  refine n_ldc2 (n := 16777232777216) (q := 8) klX3_9 rfl dX3_init_5 rfl ?_
  refine n_put (jj := 0) (fs := [aL 0, aI 0, aI 0, aI 0, aI 0, aU, aU, aU, aU, aI 0, aU, aU, aU]) (q := 11) dX3_init_8 fl_X3_11 rfl (fun _ => ⟨rfl, rfl⟩) rfl rfl (Nat.le_of_ble_eq_true rfl) rfl ?_
  show VN _ _ _ _ _ _ 11 [aR d, aR p1, aR p2, aI 310] [] ([cO 3 [aL 16777232777216, aI 0, aI 0, aI 0, aI 0, aU, aU, aU, aU, aI 0, aU, aU, aU]], 0, 0)
  refine n_aload_n (j := 0) (q := 12) rfl dX3_init_11 rfl ?_
  refine n_iconst (q := 13) dX3_init_12 rfl ?_
  refine n_put (jj := 0) (fs := [aL 16777232777216, aI 0, aI 0, aI 0, aI 0, aU, aU, aU, aU, aI 0, aU, aU, aU]) (q := 16) dX3_init_13 fl_X3_17 rfl (fun _ => ⟨rfl, rfl⟩) rfl rfl (Nat.le_of_ble_eq_true rfl) rfl ?_
  show VN _ _ _ _ _ _ 16 [aR d, aR p1, aR p2, aI 310] [] ([cO 3 [aL 16777232777216, aI 0, aI 0, aI 0, aI 0, aU, aU, aU, aU, aI 0, aU, aU, aU]], 0, 0)
  refine n_aload_n (j := 0) (q := 17) rfl dX3_init_16 rfl ?_
  refine n_iconst (q := 18) dX3_init_17 rfl ?_
  refine n_put (jj := 0) (fs := [aL 16777232777216, aI 0, aI 0, aI 0, aI 0, aU, aU, aU, aU, aI 0, aU, aU, aU]) (q := 21) dX3_init_18 fl_X3_21 rfl (fun _ => ⟨rfl, rfl⟩) rfl rfl (Nat.le_of_ble_eq_true rfl) rfl ?_
  show VN _ _ _ _ _ _ 21 [aR d, aR p1, aR p2, aI 310] [] ([cO 3 [aL 16777232777216, aI 0, aI 0, aI 0, aI 0, aU, aU, aU, aU, aI 0, aU, aU, aU]], 0, 0)
  refine n_aload_n (j := 0) (q := 22) rfl dX3_init_21 rfl ?_
  refine n_iconst (q := 23) dX3_init_22 rfl ?_
  refine n_put (jj := 0) (fs := [aL 16777232777216, aI 0, aI 0, aI 0, aI 0, aU, aU, aU, aU, aI 0, aU, aU, aU]) (q := 26) dX3_init_23 fl_X3_25 rfl (fun _ => ⟨rfl, rfl⟩) rfl rfl (Nat.le_of_ble_eq_true rfl) rfl ?_
  show VN _ _ _ _ _ _ 26 [aR d, aR p1, aR p2, aI 310] [] ([cO 3 [aL 16777232777216, aI 0, aI 0, aI 0, aI 0, aU, aU, aU, aU, aI 0, aU, aU, aU]], 0, 0)
  refine n_aload_n (j := 0) (q := 27) rfl dX3_init_26 rfl ?_
  refine n_iconst (q := 28) dX3_init_27 rfl ?_
  refine n_put (jj := 0) (fs := [aL 16777232777216, aI 0, aI 0, aI 0, aI 0, aU, aU, aU, aU, aI 0, aU, aU, aU]) (q := 31) dX3_init_28 fl_X3_28 rfl (fun _ => ⟨rfl, rfl⟩) rfl rfl (Nat.le_of_ble_eq_true rfl) rfl ?_
  show VN _ _ _ _ _ _ 31 [aR d, aR p1, aR p2, aI 310] [] ([cO 3 [aL 16777232777216, aI 0, aI 0, aI 0, aI 0, aU, aU, aU, aU, aI 0, aU, aU, aU]], 0, 0)
  refine n_aload_n (j := 0) (q := 32) rfl dX3_init_31 rfl ?_
  refine n_bipush (q := 34) (by decide) dX3_init_32 rfl ?_
  refine n_newI (N := 6) (q := 36) dX3_init_34 rfl (by decide) (by decide) (by show d + 1 < 128; omega) (by decide) (by decide) ?_
  show VN _ _ _ _ _ _ 36 [aR d, aR p1, aR p2, aI 310] [aR (d + 1), aR d] ([cO 3 [aL 16777232777216, aI 0, aI 0, aI 0, aI 0, aU, aU, aU, aU, aI 0, aU, aU, aU], cN 0 6 (fun _ => 0)], 1, 6)
  refine n_putF (nE_i _ _ _ _) (jj := 0) (fs := [aL 16777232777216, aI 0, aI 0, aI 0, aI 0, aU, aU, aU, aU, aI 0, aU, aU, aU]) (q := 39) dX3_init_36 fl_X3_31 (fun w h => by cases h; rfl) rfl (fun _ => ⟨rfl, rfl⟩) rfl rfl (Nat.le_of_ble_eq_true rfl) rfl ?_
  show VN _ _ _ _ _ _ 39 [aR d, aR p1, aR p2, aI 310] [] ([cO 3 [aL 16777232777216, aI 0, aI 0, aI 0, aI 0, aR (d + 1), aU, aU, aU, aI 0, aU, aU, aU], cN 0 6 (fun _ => 0)], 1, 6)
  refine n_aload_n (j := 0) (q := 40) rfl dX3_init_39 rfl ?_
  refine n_bipush (q := 42) (by decide) dX3_init_40 rfl ?_
  refine n_bipush (q := 44) (by decide) dX3_init_42 rfl ?_
  refine n_mna (N := 6) (K := 20) (q := 48) dX3_init_44 (gw_in (tb_at 292 (by decide +kernel)) rfl) (by decide) (by decide) (by decide) (by decide) (by show d + (2 + (1 + 6)) ≤ 128; omega) (by decide) (by decide) rfl ?_
  show VN _ _ _ _ _ _ 48 [aR d, aR p1, aR p2, aI 310] [aR (d + 2), aR d] ([cO 3 [aL 16777232777216, aI 0, aI 0, aI 0, aI 0, aR (d + 1), aU, aU, aU, aI 0, aU, aU, aU], cN 0 6 (fun _ => 0), cQ 3 6 (fun j => some ((d + 3) + j)), cN 1 20 (fun _ => 0), cN 1 20 (fun _ => 0), cN 1 20 (fun _ => 0), cN 1 20 (fun _ => 0), cN 1 20 (fun _ => 0), cN 1 20 (fun _ => 0)], 8, 132)
  refine n_putF (nE_i _ _ _ _) (jj := 0) (fs := [aL 16777232777216, aI 0, aI 0, aI 0, aI 0, aR (d + 1), aU, aU, aU, aI 0, aU, aU, aU]) (q := 51) dX3_init_48 fl_X3_37 (fun w h => by cases h; rfl) rfl (fun _ => ⟨rfl, rfl⟩) rfl rfl (Nat.le_of_ble_eq_true rfl) rfl ?_
  show VN _ _ _ _ _ _ 51 [aR d, aR p1, aR p2, aI 310] [] ([cO 3 [aL 16777232777216, aI 0, aI 0, aI 0, aI 0, aR (d + 1), aR (d + 2), aU, aU, aI 0, aU, aU, aU], cN 0 6 (fun _ => 0), cQ 3 6 (fun j => some ((d + 3) + j)), cN 1 20 (fun _ => 0), cN 1 20 (fun _ => 0), cN 1 20 (fun _ => 0), cN 1 20 (fun _ => 0), cN 1 20 (fun _ => 0), cN 1 20 (fun _ => 0)], 8, 132)
  refine n_aload_n (j := 0) (q := 52) rfl dX3_init_51 rfl ?_
  refine n_aload_n (j := 1) (q := 53) rfl dX3_init_52 rfl ?_
  refine n_putF (nE_i _ _ _ _) (jj := 0) (fs := [aL 16777232777216, aI 0, aI 0, aI 0, aI 0, aR (d + 1), aR (d + 2), aU, aU, aI 0, aU, aU, aU]) (q := 56) dX3_init_53 fl_X3_40 (fun w h => by cases h; rfl) rfl (fun _ => ⟨rfl, rfl⟩) rfl rfl (Nat.le_of_ble_eq_true rfl) rfl ?_
  show VN _ _ _ _ _ _ 56 [aR d, aR p1, aR p2, aI 310] [] ([cO 3 [aL 16777232777216, aI 0, aI 0, aI 0, aI 0, aR (d + 1), aR (d + 2), aR p1, aU, aI 0, aU, aU, aU], cN 0 6 (fun _ => 0), cQ 3 6 (fun j => some ((d + 3) + j)), cN 1 20 (fun _ => 0), cN 1 20 (fun _ => 0), cN 1 20 (fun _ => 0), cN 1 20 (fun _ => 0), cN 1 20 (fun _ => 0), cN 1 20 (fun _ => 0)], 8, 132)
  refine n_aload_n (j := 0) (q := 57) rfl dX3_init_56 rfl ?_
  refine n_aload_n (j := 2) (q := 58) rfl dX3_init_57 rfl ?_
  refine n_putF (nE_i _ _ _ _) (jj := 0) (fs := [aL 16777232777216, aI 0, aI 0, aI 0, aI 0, aR (d + 1), aR (d + 2), aR p1, aU, aI 0, aU, aU, aU]) (q := 61) dX3_init_58 fl_X3_44 (fun w h => by cases h; rfl) rfl (fun _ => ⟨rfl, rfl⟩) rfl rfl (Nat.le_of_ble_eq_true rfl) rfl ?_
  show VN _ _ _ _ _ _ 61 [aR d, aR p1, aR p2, aI 310] [] ([cO 3 [aL 16777232777216, aI 0, aI 0, aI 0, aI 0, aR (d + 1), aR (d + 2), aR p1, aR p2, aI 0, aU, aU, aU], cN 0 6 (fun _ => 0), cQ 3 6 (fun j => some ((d + 3) + j)), cN 1 20 (fun _ => 0), cN 1 20 (fun _ => 0), cN 1 20 (fun _ => 0), cN 1 20 (fun _ => 0), cN 1 20 (fun _ => 0), cN 1 20 (fun _ => 0)], 8, 132)
  refine n_aload_n (j := 0) (q := 62) rfl dX3_init_61 rfl ?_
  refine n_iload_n (j := 3) (q := 63) rfl dX3_init_62 rfl ?_
  refine n_bipush (q := 65) (by decide) dX3_init_63 rfl ?_
  refine n_icmp_ge (tgt := 73) (q := 68) dX3_init_65 (by decide) rfl (by omega) (by omega) (fun _ => ?_) (fun h => absurd (by decide) h)
  refine n_iload_n (j := 3) (q := 74) rfl dX3_init_73 rfl ?_
  refine n_putF (nE_i _ _ _ _) (jj := 0) (fs := [aL 16777232777216, aI 0, aI 0, aI 0, aI 0, aR (d + 1), aR (d + 2), aR p1, aR p2, aI 0, aU, aU, aU]) (q := 77) dX3_init_74 fl_X3_48 (fun w h => by cases h; rfl) rfl (fun _ => ⟨rfl, rfl⟩) rfl rfl (Nat.le_of_ble_eq_true rfl) rfl ?_
  show VN _ _ _ _ _ _ 77 [aR d, aR p1, aR p2, aI 310] [] ([cO 3 [aL 16777232777216, aI 0, aI 0, aI 0, aI 0, aR (d + 1), aR (d + 2), aR p1, aR p2, aI 310, aU, aU, aU], cN 0 6 (fun _ => 0), cQ 3 6 (fun j => some ((d + 3) + j)), cN 1 20 (fun _ => 0), cN 1 20 (fun _ => 0), cN 1 20 (fun _ => 0), cN 1 20 (fun _ => 0), cN 1 20 (fun _ => 0), cN 1 20 (fun _ => 0)], 8, 132)
  refine n_aload_n (j := 0) (q := 78) rfl dX3_init_77 rfl ?_
  refine n_aload_n (j := 0) (q := 79) rfl dX3_init_78 rfl ?_
  refine n_get (jj := 0) (fs := [aL 16777232777216, aI 0, aI 0, aI 0, aI 0, aR (d + 1), aR (d + 2), aR p1, aR p2, aI 310, aU, aU, aU]) (v := aI 310) (q := 82) dX3_init_79 fl_X3_48 rfl rfl rfl rfl ?_
  refine n_newI (N := 310) (q := 84) dX3_init_82 rfl (by decide) (by decide) (by show d + 9 < 128; omega) (by decide) (by decide) ?_
  show VN _ _ _ _ _ _ 84 [aR d, aR p1, aR p2, aI 310] [aR (d + 9), aR d] ([cO 3 [aL 16777232777216, aI 0, aI 0, aI 0, aI 0, aR (d + 1), aR (d + 2), aR p1, aR p2, aI 310, aU, aU, aU], cN 0 6 (fun _ => 0), cQ 3 6 (fun j => some ((d + 3) + j)), cN 1 20 (fun _ => 0), cN 1 20 (fun _ => 0), cN 1 20 (fun _ => 0), cN 1 20 (fun _ => 0), cN 1 20 (fun _ => 0), cN 1 20 (fun _ => 0), cN 0 310 (fun _ => 0)], 9, 442)
  refine n_putF (nE_i _ _ _ _) (jj := 0) (fs := [aL 16777232777216, aI 0, aI 0, aI 0, aI 0, aR (d + 1), aR (d + 2), aR p1, aR p2, aI 310, aU, aU, aU]) (q := 87) dX3_init_84 fl_X3_51 (fun w h => by cases h; rfl) rfl (fun _ => ⟨rfl, rfl⟩) rfl rfl (Nat.le_of_ble_eq_true rfl) rfl ?_
  show VN _ _ _ _ _ _ 87 [aR d, aR p1, aR p2, aI 310] [] ([cO 3 [aL 16777232777216, aI 0, aI 0, aI 0, aI 0, aR (d + 1), aR (d + 2), aR p1, aR p2, aI 310, aR (d + 9), aU, aU], cN 0 6 (fun _ => 0), cQ 3 6 (fun j => some ((d + 3) + j)), cN 1 20 (fun _ => 0), cN 1 20 (fun _ => 0), cN 1 20 (fun _ => 0), cN 1 20 (fun _ => 0), cN 1 20 (fun _ => 0), cN 1 20 (fun _ => 0), cN 0 310 (fun _ => 0)], 9, 442)
  refine n_aload_n (j := 0) (q := 88) rfl dX3_init_87 rfl ?_
  refine n_aload_n (j := 0) (q := 89) rfl dX3_init_88 rfl ?_
  refine n_get (jj := 0) (fs := [aL 16777232777216, aI 0, aI 0, aI 0, aI 0, aR (d + 1), aR (d + 2), aR p1, aR p2, aI 310, aR (d + 9), aU, aU]) (v := aI 310) (q := 92) dX3_init_89 fl_X3_48 rfl rfl rfl rfl ?_
  refine n_iconst (q := 93) dX3_init_92 rfl ?_
  refine n_iadd (q := 94) dX3_init_93 rfl ?_
  show VN _ _ _ _ _ _ 94 [aR d, aR p1, aR p2, aI 310] [aI 311, aR d] ([cO 3 [aL 16777232777216, aI 0, aI 0, aI 0, aI 0, aR (d + 1), aR (d + 2), aR p1, aR p2, aI 310, aR (d + 9), aU, aU], cN 0 6 (fun _ => 0), cQ 3 6 (fun j => some ((d + 3) + j)), cN 1 20 (fun _ => 0), cN 1 20 (fun _ => 0), cN 1 20 (fun _ => 0), cN 1 20 (fun _ => 0), cN 1 20 (fun _ => 0), cN 1 20 (fun _ => 0), cN 0 310 (fun _ => 0)], 9, 442)
  refine n_iconst (q := 95) dX3_init_94 rfl ?_
  refine n_imul (q := 96) dX3_init_95 rfl ?_
  show VN _ _ _ _ _ _ 96 [aR d, aR p1, aR p2, aI 310] [aI 1244, aR d] ([cO 3 [aL 16777232777216, aI 0, aI 0, aI 0, aI 0, aR (d + 1), aR (d + 2), aR p1, aR p2, aI 310, aR (d + 9), aU, aU], cN 0 6 (fun _ => 0), cQ 3 6 (fun j => some ((d + 3) + j)), cN 1 20 (fun _ => 0), cN 1 20 (fun _ => 0), cN 1 20 (fun _ => 0), cN 1 20 (fun _ => 0), cN 1 20 (fun _ => 0), cN 1 20 (fun _ => 0), cN 0 310 (fun _ => 0)], 9, 442)
  refine n_newL (N := 1244) (q := 98) dX3_init_96 rfl (by decide) (by decide) (by show d + 10 < 128; omega) (by decide) (by decide) ?_
  show VN _ _ _ _ _ _ 98 [aR d, aR p1, aR p2, aI 310] [aR (d + 10), aR d] ([cO 3 [aL 16777232777216, aI 0, aI 0, aI 0, aI 0, aR (d + 1), aR (d + 2), aR p1, aR p2, aI 310, aR (d + 9), aU, aU], cN 0 6 (fun _ => 0), cQ 3 6 (fun j => some ((d + 3) + j)), cN 1 20 (fun _ => 0), cN 1 20 (fun _ => 0), cN 1 20 (fun _ => 0), cN 1 20 (fun _ => 0), cN 1 20 (fun _ => 0), cN 1 20 (fun _ => 0), cN 0 310 (fun _ => 0), cN 1 1244 (fun _ => 0)], 10, 1686)
  refine n_putF (nE_i _ _ _ _) (jj := 0) (fs := [aL 16777232777216, aI 0, aI 0, aI 0, aI 0, aR (d + 1), aR (d + 2), aR p1, aR p2, aI 310, aR (d + 9), aU, aU]) (q := 101) dX3_init_98 fl_X3_54 (fun w h => by cases h; rfl) rfl (fun _ => ⟨rfl, rfl⟩) rfl rfl (Nat.le_of_ble_eq_true rfl) rfl ?_
  show VN _ _ _ _ _ _ 101 [aR d, aR p1, aR p2, aI 310] [] ([cO 3 [aL 16777232777216, aI 0, aI 0, aI 0, aI 0, aR (d + 1), aR (d + 2), aR p1, aR p2, aI 310, aR (d + 9), aR (d + 10), aU], cN 0 6 (fun _ => 0), cQ 3 6 (fun j => some ((d + 3) + j)), cN 1 20 (fun _ => 0), cN 1 20 (fun _ => 0), cN 1 20 (fun _ => 0), cN 1 20 (fun _ => 0), cN 1 20 (fun _ => 0), cN 1 20 (fun _ => 0), cN 0 310 (fun _ => 0), cN 1 1244 (fun _ => 0)], 10, 1686)
  refine n_aload_n (j := 0) (q := 102) rfl dX3_init_101 rfl ?_
  refine n_aload_n (j := 0) (q := 103) rfl dX3_init_102 rfl ?_
  refine n_get (jj := 0) (fs := [aL 16777232777216, aI 0, aI 0, aI 0, aI 0, aR (d + 1), aR (d + 2), aR p1, aR p2, aI 310, aR (d + 9), aR (d + 10), aU]) (v := aI 310) (q := 106) dX3_init_103 fl_X3_48 rfl rfl rfl rfl ?_
  refine n_iconst (q := 107) dX3_init_106 rfl ?_
  refine n_iadd (q := 108) dX3_init_107 rfl ?_
  show VN _ _ _ _ _ _ 108 [aR d, aR p1, aR p2, aI 310] [aI 311, aR d] ([cO 3 [aL 16777232777216, aI 0, aI 0, aI 0, aI 0, aR (d + 1), aR (d + 2), aR p1, aR p2, aI 310, aR (d + 9), aR (d + 10), aU], cN 0 6 (fun _ => 0), cQ 3 6 (fun j => some ((d + 3) + j)), cN 1 20 (fun _ => 0), cN 1 20 (fun _ => 0), cN 1 20 (fun _ => 0), cN 1 20 (fun _ => 0), cN 1 20 (fun _ => 0), cN 1 20 (fun _ => 0), cN 0 310 (fun _ => 0), cN 1 1244 (fun _ => 0)], 10, 1686)
  refine n_newZ (N := 311) (q := 110) dX3_init_108 rfl (by decide) (by decide) (by show d + 11 < 128; omega) (by decide) (by decide) ?_
  show VN _ _ _ _ _ _ 110 [aR d, aR p1, aR p2, aI 310] [aR (d + 11), aR d] ([cO 3 [aL 16777232777216, aI 0, aI 0, aI 0, aI 0, aR (d + 1), aR (d + 2), aR p1, aR p2, aI 310, aR (d + 9), aR (d + 10), aU], cN 0 6 (fun _ => 0), cQ 3 6 (fun j => some ((d + 3) + j)), cN 1 20 (fun _ => 0), cN 1 20 (fun _ => 0), cN 1 20 (fun _ => 0), cN 1 20 (fun _ => 0), cN 1 20 (fun _ => 0), cN 1 20 (fun _ => 0), cN 0 310 (fun _ => 0), cN 1 1244 (fun _ => 0), cN 2 311 (fun _ => 0)], 11, 1997)
  refine n_putF (nE_i _ _ _ _) (jj := 0) (fs := [aL 16777232777216, aI 0, aI 0, aI 0, aI 0, aR (d + 1), aR (d + 2), aR p1, aR p2, aI 310, aR (d + 9), aR (d + 10), aU]) (q := 113) dX3_init_110 fl_X3_58 (fun w h => by cases h; rfl) rfl (fun _ => ⟨rfl, rfl⟩) rfl rfl (Nat.le_of_ble_eq_true rfl) rfl ?_
  show VN _ _ _ _ _ _ 113 [aR d, aR p1, aR p2, aI 310] [] ([cO 3 [aL 16777232777216, aI 0, aI 0, aI 0, aI 0, aR (d + 1), aR (d + 2), aR p1, aR p2, aI 310, aR (d + 9), aR (d + 10), aR (d + 11)], cN 0 6 (fun _ => 0), cQ 3 6 (fun j => some ((d + 3) + j)), cN 1 20 (fun _ => 0), cN 1 20 (fun _ => 0), cN 1 20 (fun _ => 0), cN 1 20 (fun _ => 0), cN 1 20 (fun _ => 0), cN 1 20 (fun _ => 0), cN 0 310 (fun _ => 0), cN 1 1244 (fun _ => 0), cN 2 311 (fun _ => 0)], 11, 1997)
  exact n_ret dX3_init_113
def semC (d : Nat) (p1 p2 : Nat) : List AC := [cO 3 [aL 16777232777216, aI 0, aI 0, aI 0, aI 0, aR (d + 1), aR (d + 2), aR p1, aR p2, aI 6, aR (d + 9), aR (d + 10), aR (d + 11)], cN 0 6 (fun _ => 0), cQ 3 6 (fun j => some ((d + 3) + j)), cN 1 20 (fun _ => 0), cN 1 20 (fun _ => 0), cN 1 20 (fun _ => 0), cN 1 20 (fun _ => 0), cN 1 20 (fun _ => 0), cN 1 20 (fun _ => 0), cN 0 6 (fun _ => 0), cN 1 28 (fun _ => 0), cN 2 7 (fun _ => 0)]
theorem c_X3_6_init (d : Nat) (p1 p2 : Nat) (hd : d + 12 ≤ 128) : CtrN mX3_init 11 173 d [aR p1, aR p2, aI 6] (cO 3 [aL 0, aI 0, aI 0, aI 0, aI 0, aU, aU, aU, aU, aI 0, aU, aU, aU]) (semC d p1 p2) := by
  refine CtrN.ofVN (ls := [aR d, aR p1, aR p2, aI 6]) rfl rfl (by decide) rfl (Nat.le_of_ble_eq_true rfl) ?_
  refine n_aload_n (j := 0) (q := 1) rfl dX3_init_0 rfl ?_
  refine n_obj (q := 4) dX3_init_1 (gw_in (tb_at 290 (by decide +kernel)) rfl) (by decide) rfl ?_
  refine n_aload_n (j := 0) (q := 5) rfl dX3_init_4 rfl ?_
  refine n_ldc2 (n := 16777232777216) (q := 8) klX3_9 rfl dX3_init_5 rfl ?_
  refine n_put (jj := 0) (fs := [aL 0, aI 0, aI 0, aI 0, aI 0, aU, aU, aU, aU, aI 0, aU, aU, aU]) (q := 11) dX3_init_8 fl_X3_11 rfl (fun _ => ⟨rfl, rfl⟩) rfl rfl (Nat.le_of_ble_eq_true rfl) rfl ?_
  show VN _ _ _ _ _ _ 11 [aR d, aR p1, aR p2, aI 6] [] ([cO 3 [aL 16777232777216, aI 0, aI 0, aI 0, aI 0, aU, aU, aU, aU, aI 0, aU, aU, aU]], 0, 0)
  refine n_aload_n (j := 0) (q := 12) rfl dX3_init_11 rfl ?_
  refine n_iconst (q := 13) dX3_init_12 rfl ?_
  refine n_put (jj := 0) (fs := [aL 16777232777216, aI 0, aI 0, aI 0, aI 0, aU, aU, aU, aU, aI 0, aU, aU, aU]) (q := 16) dX3_init_13 fl_X3_17 rfl (fun _ => ⟨rfl, rfl⟩) rfl rfl (Nat.le_of_ble_eq_true rfl) rfl ?_
  show VN _ _ _ _ _ _ 16 [aR d, aR p1, aR p2, aI 6] [] ([cO 3 [aL 16777232777216, aI 0, aI 0, aI 0, aI 0, aU, aU, aU, aU, aI 0, aU, aU, aU]], 0, 0)
  refine n_aload_n (j := 0) (q := 17) rfl dX3_init_16 rfl ?_
  refine n_iconst (q := 18) dX3_init_17 rfl ?_
  refine n_put (jj := 0) (fs := [aL 16777232777216, aI 0, aI 0, aI 0, aI 0, aU, aU, aU, aU, aI 0, aU, aU, aU]) (q := 21) dX3_init_18 fl_X3_21 rfl (fun _ => ⟨rfl, rfl⟩) rfl rfl (Nat.le_of_ble_eq_true rfl) rfl ?_
  show VN _ _ _ _ _ _ 21 [aR d, aR p1, aR p2, aI 6] [] ([cO 3 [aL 16777232777216, aI 0, aI 0, aI 0, aI 0, aU, aU, aU, aU, aI 0, aU, aU, aU]], 0, 0)
  refine n_aload_n (j := 0) (q := 22) rfl dX3_init_21 rfl ?_
  refine n_iconst (q := 23) dX3_init_22 rfl ?_
  refine n_put (jj := 0) (fs := [aL 16777232777216, aI 0, aI 0, aI 0, aI 0, aU, aU, aU, aU, aI 0, aU, aU, aU]) (q := 26) dX3_init_23 fl_X3_25 rfl (fun _ => ⟨rfl, rfl⟩) rfl rfl (Nat.le_of_ble_eq_true rfl) rfl ?_
  show VN _ _ _ _ _ _ 26 [aR d, aR p1, aR p2, aI 6] [] ([cO 3 [aL 16777232777216, aI 0, aI 0, aI 0, aI 0, aU, aU, aU, aU, aI 0, aU, aU, aU]], 0, 0)
  refine n_aload_n (j := 0) (q := 27) rfl dX3_init_26 rfl ?_
  refine n_iconst (q := 28) dX3_init_27 rfl ?_
  refine n_put (jj := 0) (fs := [aL 16777232777216, aI 0, aI 0, aI 0, aI 0, aU, aU, aU, aU, aI 0, aU, aU, aU]) (q := 31) dX3_init_28 fl_X3_28 rfl (fun _ => ⟨rfl, rfl⟩) rfl rfl (Nat.le_of_ble_eq_true rfl) rfl ?_
  show VN _ _ _ _ _ _ 31 [aR d, aR p1, aR p2, aI 6] [] ([cO 3 [aL 16777232777216, aI 0, aI 0, aI 0, aI 0, aU, aU, aU, aU, aI 0, aU, aU, aU]], 0, 0)
  refine n_aload_n (j := 0) (q := 32) rfl dX3_init_31 rfl ?_
  refine n_bipush (q := 34) (by decide) dX3_init_32 rfl ?_
  refine n_newI (N := 6) (q := 36) dX3_init_34 rfl (by decide) (by decide) (by show d + 1 < 128; omega) (by decide) (by decide) ?_
  show VN _ _ _ _ _ _ 36 [aR d, aR p1, aR p2, aI 6] [aR (d + 1), aR d] ([cO 3 [aL 16777232777216, aI 0, aI 0, aI 0, aI 0, aU, aU, aU, aU, aI 0, aU, aU, aU], cN 0 6 (fun _ => 0)], 1, 6)
  refine n_putF (nE_i _ _ _ _) (jj := 0) (fs := [aL 16777232777216, aI 0, aI 0, aI 0, aI 0, aU, aU, aU, aU, aI 0, aU, aU, aU]) (q := 39) dX3_init_36 fl_X3_31 (fun w h => by cases h; rfl) rfl (fun _ => ⟨rfl, rfl⟩) rfl rfl (Nat.le_of_ble_eq_true rfl) rfl ?_
  show VN _ _ _ _ _ _ 39 [aR d, aR p1, aR p2, aI 6] [] ([cO 3 [aL 16777232777216, aI 0, aI 0, aI 0, aI 0, aR (d + 1), aU, aU, aU, aI 0, aU, aU, aU], cN 0 6 (fun _ => 0)], 1, 6)
  refine n_aload_n (j := 0) (q := 40) rfl dX3_init_39 rfl ?_
  refine n_bipush (q := 42) (by decide) dX3_init_40 rfl ?_
  refine n_bipush (q := 44) (by decide) dX3_init_42 rfl ?_
  refine n_mna (N := 6) (K := 20) (q := 48) dX3_init_44 (gw_in (tb_at 292 (by decide +kernel)) rfl) (by decide) (by decide) (by decide) (by decide) (by show d + (2 + (1 + 6)) ≤ 128; omega) (by decide) (by decide) rfl ?_
  show VN _ _ _ _ _ _ 48 [aR d, aR p1, aR p2, aI 6] [aR (d + 2), aR d] ([cO 3 [aL 16777232777216, aI 0, aI 0, aI 0, aI 0, aR (d + 1), aU, aU, aU, aI 0, aU, aU, aU], cN 0 6 (fun _ => 0), cQ 3 6 (fun j => some ((d + 3) + j)), cN 1 20 (fun _ => 0), cN 1 20 (fun _ => 0), cN 1 20 (fun _ => 0), cN 1 20 (fun _ => 0), cN 1 20 (fun _ => 0), cN 1 20 (fun _ => 0)], 8, 132)
  refine n_putF (nE_i _ _ _ _) (jj := 0) (fs := [aL 16777232777216, aI 0, aI 0, aI 0, aI 0, aR (d + 1), aU, aU, aU, aI 0, aU, aU, aU]) (q := 51) dX3_init_48 fl_X3_37 (fun w h => by cases h; rfl) rfl (fun _ => ⟨rfl, rfl⟩) rfl rfl (Nat.le_of_ble_eq_true rfl) rfl ?_
  show VN _ _ _ _ _ _ 51 [aR d, aR p1, aR p2, aI 6] [] ([cO 3 [aL 16777232777216, aI 0, aI 0, aI 0, aI 0, aR (d + 1), aR (d + 2), aU, aU, aI 0, aU, aU, aU], cN 0 6 (fun _ => 0), cQ 3 6 (fun j => some ((d + 3) + j)), cN 1 20 (fun _ => 0), cN 1 20 (fun _ => 0), cN 1 20 (fun _ => 0), cN 1 20 (fun _ => 0), cN 1 20 (fun _ => 0), cN 1 20 (fun _ => 0)], 8, 132)
  refine n_aload_n (j := 0) (q := 52) rfl dX3_init_51 rfl ?_
  refine n_aload_n (j := 1) (q := 53) rfl dX3_init_52 rfl ?_
  refine n_putF (nE_i _ _ _ _) (jj := 0) (fs := [aL 16777232777216, aI 0, aI 0, aI 0, aI 0, aR (d + 1), aR (d + 2), aU, aU, aI 0, aU, aU, aU]) (q := 56) dX3_init_53 fl_X3_40 (fun w h => by cases h; rfl) rfl (fun _ => ⟨rfl, rfl⟩) rfl rfl (Nat.le_of_ble_eq_true rfl) rfl ?_
  show VN _ _ _ _ _ _ 56 [aR d, aR p1, aR p2, aI 6] [] ([cO 3 [aL 16777232777216, aI 0, aI 0, aI 0, aI 0, aR (d + 1), aR (d + 2), aR p1, aU, aI 0, aU, aU, aU], cN 0 6 (fun _ => 0), cQ 3 6 (fun j => some ((d + 3) + j)), cN 1 20 (fun _ => 0), cN 1 20 (fun _ => 0), cN 1 20 (fun _ => 0), cN 1 20 (fun _ => 0), cN 1 20 (fun _ => 0), cN 1 20 (fun _ => 0)], 8, 132)
  refine n_aload_n (j := 0) (q := 57) rfl dX3_init_56 rfl ?_
  refine n_aload_n (j := 2) (q := 58) rfl dX3_init_57 rfl ?_
  refine n_putF (nE_i _ _ _ _) (jj := 0) (fs := [aL 16777232777216, aI 0, aI 0, aI 0, aI 0, aR (d + 1), aR (d + 2), aR p1, aU, aI 0, aU, aU, aU]) (q := 61) dX3_init_58 fl_X3_44 (fun w h => by cases h; rfl) rfl (fun _ => ⟨rfl, rfl⟩) rfl rfl (Nat.le_of_ble_eq_true rfl) rfl ?_
  show VN _ _ _ _ _ _ 61 [aR d, aR p1, aR p2, aI 6] [] ([cO 3 [aL 16777232777216, aI 0, aI 0, aI 0, aI 0, aR (d + 1), aR (d + 2), aR p1, aR p2, aI 0, aU, aU, aU], cN 0 6 (fun _ => 0), cQ 3 6 (fun j => some ((d + 3) + j)), cN 1 20 (fun _ => 0), cN 1 20 (fun _ => 0), cN 1 20 (fun _ => 0), cN 1 20 (fun _ => 0), cN 1 20 (fun _ => 0), cN 1 20 (fun _ => 0)], 8, 132)
  refine n_aload_n (j := 0) (q := 62) rfl dX3_init_61 rfl ?_
  refine n_iload_n (j := 3) (q := 63) rfl dX3_init_62 rfl ?_
  refine n_bipush (q := 65) (by decide) dX3_init_63 rfl ?_
  refine n_icmp_ge (tgt := 73) (q := 68) dX3_init_65 (by decide) rfl (by omega) (by omega) (fun _ => ?_) (fun h => absurd (by decide) h)
  refine n_iload_n (j := 3) (q := 74) rfl dX3_init_73 rfl ?_
  refine n_putF (nE_i _ _ _ _) (jj := 0) (fs := [aL 16777232777216, aI 0, aI 0, aI 0, aI 0, aR (d + 1), aR (d + 2), aR p1, aR p2, aI 0, aU, aU, aU]) (q := 77) dX3_init_74 fl_X3_48 (fun w h => by cases h; rfl) rfl (fun _ => ⟨rfl, rfl⟩) rfl rfl (Nat.le_of_ble_eq_true rfl) rfl ?_
  show VN _ _ _ _ _ _ 77 [aR d, aR p1, aR p2, aI 6] [] ([cO 3 [aL 16777232777216, aI 0, aI 0, aI 0, aI 0, aR (d + 1), aR (d + 2), aR p1, aR p2, aI 6, aU, aU, aU], cN 0 6 (fun _ => 0), cQ 3 6 (fun j => some ((d + 3) + j)), cN 1 20 (fun _ => 0), cN 1 20 (fun _ => 0), cN 1 20 (fun _ => 0), cN 1 20 (fun _ => 0), cN 1 20 (fun _ => 0), cN 1 20 (fun _ => 0)], 8, 132)
  refine n_aload_n (j := 0) (q := 78) rfl dX3_init_77 rfl ?_
  refine n_aload_n (j := 0) (q := 79) rfl dX3_init_78 rfl ?_
  refine n_get (jj := 0) (fs := [aL 16777232777216, aI 0, aI 0, aI 0, aI 0, aR (d + 1), aR (d + 2), aR p1, aR p2, aI 6, aU, aU, aU]) (v := aI 6) (q := 82) dX3_init_79 fl_X3_48 rfl rfl rfl rfl ?_
  refine n_newI (N := 6) (q := 84) dX3_init_82 rfl (by decide) (by decide) (by show d + 9 < 128; omega) (by decide) (by decide) ?_
  show VN _ _ _ _ _ _ 84 [aR d, aR p1, aR p2, aI 6] [aR (d + 9), aR d] ([cO 3 [aL 16777232777216, aI 0, aI 0, aI 0, aI 0, aR (d + 1), aR (d + 2), aR p1, aR p2, aI 6, aU, aU, aU], cN 0 6 (fun _ => 0), cQ 3 6 (fun j => some ((d + 3) + j)), cN 1 20 (fun _ => 0), cN 1 20 (fun _ => 0), cN 1 20 (fun _ => 0), cN 1 20 (fun _ => 0), cN 1 20 (fun _ => 0), cN 1 20 (fun _ => 0), cN 0 6 (fun _ => 0)], 9, 138)
  refine n_putF (nE_i _ _ _ _) (jj := 0) (fs := [aL 16777232777216, aI 0, aI 0, aI 0, aI 0, aR (d + 1), aR (d + 2), aR p1, aR p2, aI 6, aU, aU, aU]) (q := 87) dX3_init_84 fl_X3_51 (fun w h => by cases h; rfl) rfl (fun _ => ⟨rfl, rfl⟩) rfl rfl (Nat.le_of_ble_eq_true rfl) rfl ?_
  show VN _ _ _ _ _ _ 87 [aR d, aR p1, aR p2, aI 6] [] ([cO 3 [aL 16777232777216, aI 0, aI 0, aI 0, aI 0, aR (d + 1), aR (d + 2), aR p1, aR p2, aI 6, aR (d + 9), aU, aU], cN 0 6 (fun _ => 0), cQ 3 6 (fun j => some ((d + 3) + j)), cN 1 20 (fun _ => 0), cN 1 20 (fun _ => 0), cN 1 20 (fun _ => 0), cN 1 20 (fun _ => 0), cN 1 20 (fun _ => 0), cN 1 20 (fun _ => 0), cN 0 6 (fun _ => 0)], 9, 138)
  refine n_aload_n (j := 0) (q := 88) rfl dX3_init_87 rfl ?_
  refine n_aload_n (j := 0) (q := 89) rfl dX3_init_88 rfl ?_
  refine n_get (jj := 0) (fs := [aL 16777232777216, aI 0, aI 0, aI 0, aI 0, aR (d + 1), aR (d + 2), aR p1, aR p2, aI 6, aR (d + 9), aU, aU]) (v := aI 6) (q := 92) dX3_init_89 fl_X3_48 rfl rfl rfl rfl ?_
  refine n_iconst (q := 93) dX3_init_92 rfl ?_
  refine n_iadd (q := 94) dX3_init_93 rfl ?_
  show VN _ _ _ _ _ _ 94 [aR d, aR p1, aR p2, aI 6] [aI 7, aR d] ([cO 3 [aL 16777232777216, aI 0, aI 0, aI 0, aI 0, aR (d + 1), aR (d + 2), aR p1, aR p2, aI 6, aR (d + 9), aU, aU], cN 0 6 (fun _ => 0), cQ 3 6 (fun j => some ((d + 3) + j)), cN 1 20 (fun _ => 0), cN 1 20 (fun _ => 0), cN 1 20 (fun _ => 0), cN 1 20 (fun _ => 0), cN 1 20 (fun _ => 0), cN 1 20 (fun _ => 0), cN 0 6 (fun _ => 0)], 9, 138)
  refine n_iconst (q := 95) dX3_init_94 rfl ?_
  refine n_imul (q := 96) dX3_init_95 rfl ?_
  show VN _ _ _ _ _ _ 96 [aR d, aR p1, aR p2, aI 6] [aI 28, aR d] ([cO 3 [aL 16777232777216, aI 0, aI 0, aI 0, aI 0, aR (d + 1), aR (d + 2), aR p1, aR p2, aI 6, aR (d + 9), aU, aU], cN 0 6 (fun _ => 0), cQ 3 6 (fun j => some ((d + 3) + j)), cN 1 20 (fun _ => 0), cN 1 20 (fun _ => 0), cN 1 20 (fun _ => 0), cN 1 20 (fun _ => 0), cN 1 20 (fun _ => 0), cN 1 20 (fun _ => 0), cN 0 6 (fun _ => 0)], 9, 138)
  refine n_newL (N := 28) (q := 98) dX3_init_96 rfl (by decide) (by decide) (by show d + 10 < 128; omega) (by decide) (by decide) ?_
  show VN _ _ _ _ _ _ 98 [aR d, aR p1, aR p2, aI 6] [aR (d + 10), aR d] ([cO 3 [aL 16777232777216, aI 0, aI 0, aI 0, aI 0, aR (d + 1), aR (d + 2), aR p1, aR p2, aI 6, aR (d + 9), aU, aU], cN 0 6 (fun _ => 0), cQ 3 6 (fun j => some ((d + 3) + j)), cN 1 20 (fun _ => 0), cN 1 20 (fun _ => 0), cN 1 20 (fun _ => 0), cN 1 20 (fun _ => 0), cN 1 20 (fun _ => 0), cN 1 20 (fun _ => 0), cN 0 6 (fun _ => 0), cN 1 28 (fun _ => 0)], 10, 166)
  refine n_putF (nE_i _ _ _ _) (jj := 0) (fs := [aL 16777232777216, aI 0, aI 0, aI 0, aI 0, aR (d + 1), aR (d + 2), aR p1, aR p2, aI 6, aR (d + 9), aU, aU]) (q := 101) dX3_init_98 fl_X3_54 (fun w h => by cases h; rfl) rfl (fun _ => ⟨rfl, rfl⟩) rfl rfl (Nat.le_of_ble_eq_true rfl) rfl ?_
  show VN _ _ _ _ _ _ 101 [aR d, aR p1, aR p2, aI 6] [] ([cO 3 [aL 16777232777216, aI 0, aI 0, aI 0, aI 0, aR (d + 1), aR (d + 2), aR p1, aR p2, aI 6, aR (d + 9), aR (d + 10), aU], cN 0 6 (fun _ => 0), cQ 3 6 (fun j => some ((d + 3) + j)), cN 1 20 (fun _ => 0), cN 1 20 (fun _ => 0), cN 1 20 (fun _ => 0), cN 1 20 (fun _ => 0), cN 1 20 (fun _ => 0), cN 1 20 (fun _ => 0), cN 0 6 (fun _ => 0), cN 1 28 (fun _ => 0)], 10, 166)
  refine n_aload_n (j := 0) (q := 102) rfl dX3_init_101 rfl ?_
  refine n_aload_n (j := 0) (q := 103) rfl dX3_init_102 rfl ?_
  refine n_get (jj := 0) (fs := [aL 16777232777216, aI 0, aI 0, aI 0, aI 0, aR (d + 1), aR (d + 2), aR p1, aR p2, aI 6, aR (d + 9), aR (d + 10), aU]) (v := aI 6) (q := 106) dX3_init_103 fl_X3_48 rfl rfl rfl rfl ?_
  refine n_iconst (q := 107) dX3_init_106 rfl ?_
  refine n_iadd (q := 108) dX3_init_107 rfl ?_
  show VN _ _ _ _ _ _ 108 [aR d, aR p1, aR p2, aI 6] [aI 7, aR d] ([cO 3 [aL 16777232777216, aI 0, aI 0, aI 0, aI 0, aR (d + 1), aR (d + 2), aR p1, aR p2, aI 6, aR (d + 9), aR (d + 10), aU], cN 0 6 (fun _ => 0), cQ 3 6 (fun j => some ((d + 3) + j)), cN 1 20 (fun _ => 0), cN 1 20 (fun _ => 0), cN 1 20 (fun _ => 0), cN 1 20 (fun _ => 0), cN 1 20 (fun _ => 0), cN 1 20 (fun _ => 0), cN 0 6 (fun _ => 0), cN 1 28 (fun _ => 0)], 10, 166)
  refine n_newZ (N := 7) (q := 110) dX3_init_108 rfl (by decide) (by decide) (by show d + 11 < 128; omega) (by decide) (by decide) ?_
  show VN _ _ _ _ _ _ 110 [aR d, aR p1, aR p2, aI 6] [aR (d + 11), aR d] ([cO 3 [aL 16777232777216, aI 0, aI 0, aI 0, aI 0, aR (d + 1), aR (d + 2), aR p1, aR p2, aI 6, aR (d + 9), aR (d + 10), aU], cN 0 6 (fun _ => 0), cQ 3 6 (fun j => some ((d + 3) + j)), cN 1 20 (fun _ => 0), cN 1 20 (fun _ => 0), cN 1 20 (fun _ => 0), cN 1 20 (fun _ => 0), cN 1 20 (fun _ => 0), cN 1 20 (fun _ => 0), cN 0 6 (fun _ => 0), cN 1 28 (fun _ => 0), cN 2 7 (fun _ => 0)], 11, 173)
  refine n_putF (nE_i _ _ _ _) (jj := 0) (fs := [aL 16777232777216, aI 0, aI 0, aI 0, aI 0, aR (d + 1), aR (d + 2), aR p1, aR p2, aI 6, aR (d + 9), aR (d + 10), aU]) (q := 113) dX3_init_110 fl_X3_58 (fun w h => by cases h; rfl) rfl (fun _ => ⟨rfl, rfl⟩) rfl rfl (Nat.le_of_ble_eq_true rfl) rfl ?_
  show VN _ _ _ _ _ _ 113 [aR d, aR p1, aR p2, aI 6] [] ([cO 3 [aL 16777232777216, aI 0, aI 0, aI 0, aI 0, aR (d + 1), aR (d + 2), aR p1, aR p2, aI 6, aR (d + 9), aR (d + 10), aR (d + 11)], cN 0 6 (fun _ => 0), cQ 3 6 (fun j => some ((d + 3) + j)), cN 1 20 (fun _ => 0), cN 1 20 (fun _ => 0), cN 1 20 (fun _ => 0), cN 1 20 (fun _ => 0), cN 1 20 (fun _ => 0), cN 1 20 (fun _ => 0), cN 0 6 (fun _ => 0), cN 1 28 (fun _ => 0), cN 2 7 (fun _ => 0)], 11, 173)
  exact n_ret dX3_init_113
def trcC (d : Nat) : List AC := [cO 7 [aI 0, aI 0, aI 0, aI 0, aR (d + 1), aR (d + 2), aR (d + 3), aR (d + 4)], cN 0 301 (fun _ => 0), cN 0 301 (fun _ => 0), cN 0 301 (fun _ => 0), cN 0 301 (fun _ => 0)]
theorem c_X7_init (d : Nat) (hd : d + 5 ≤ 128) : CtrN mX7_init 4 1204 d [] (cO 7 [aI 0, aI 0, aI 0, aI 0, aU, aU, aU, aU]) (trcC d) := by
  refine CtrN.ofVN (ls := [aR d]) rfl rfl (by decide) rfl (Nat.le_of_ble_eq_true rfl) ?_
  refine n_aload_n (j := 0) (q := 1) rfl dX7_init_0 rfl ?_
  refine n_obj (q := 4) dX7_init_1 (gw_in (tb_at 342 (by decide +kernel)) rfl) (by decide) rfl ?_
  refine n_aload_n (j := 0) (q := 5) rfl dX7_init_4 rfl ?_
  refine n_iconst (q := 6) dX7_init_5 rfl ?_
  refine n_put (jj := 0) (fs := [aI 0, aI 0, aI 0, aI 0, aU, aU, aU, aU]) (q := 9) dX7_init_6 fl_X7_9 rfl (fun _ => ⟨rfl, rfl⟩) rfl rfl (Nat.le_of_ble_eq_true rfl) rfl ?_
  show VN _ _ _ _ _ _ 9 [aR d] [] ([cO 7 [aI 0, aI 0, aI 0, aI 0, aU, aU, aU, aU]], 0, 0)
  refine n_aload_n (j := 0) (q := 10) rfl dX7_init_9 rfl ?_
  refine n_iconst (q := 11) dX7_init_10 rfl ?_
  refine n_put (jj := 0) (fs := [aI 0, aI 0, aI 0, aI 0, aU, aU, aU, aU]) (q := 14) dX7_init_11 fl_X7_15 rfl (fun _ => ⟨rfl, rfl⟩) rfl rfl (Nat.le_of_ble_eq_true rfl) rfl ?_
  show VN _ _ _ _ _ _ 14 [aR d] [] ([cO 7 [aI 0, aI 0, aI 0, aI 0, aU, aU, aU, aU]], 0, 0)
  refine n_aload_n (j := 0) (q := 15) rfl dX7_init_14 rfl ?_
  refine n_iconst (q := 16) dX7_init_15 rfl ?_
  refine n_put (jj := 0) (fs := [aI 0, aI 0, aI 0, aI 0, aU, aU, aU, aU]) (q := 19) dX7_init_16 fl_X7_18 rfl (fun _ => ⟨rfl, rfl⟩) rfl rfl (Nat.le_of_ble_eq_true rfl) rfl ?_
  show VN _ _ _ _ _ _ 19 [aR d] [] ([cO 7 [aI 0, aI 0, aI 0, aI 0, aU, aU, aU, aU]], 0, 0)
  refine n_aload_n (j := 0) (q := 20) rfl dX7_init_19 rfl ?_
  refine n_iconst (q := 21) dX7_init_20 rfl ?_
  refine n_put (jj := 0) (fs := [aI 0, aI 0, aI 0, aI 0, aU, aU, aU, aU]) (q := 24) dX7_init_21 fl_X7_22 rfl (fun _ => ⟨rfl, rfl⟩) rfl rfl (Nat.le_of_ble_eq_true rfl) rfl ?_
  show VN _ _ _ _ _ _ 24 [aR d] [] ([cO 7 [aI 0, aI 0, aI 0, aI 0, aU, aU, aU, aU]], 0, 0)
  refine n_aload_n (j := 0) (q := 25) rfl dX7_init_24 rfl ?_
  refine n_sipush (q := 28) (by decide) dX7_init_25 rfl ?_
  refine n_newI (N := 301) (q := 30) dX7_init_28 rfl (by decide) (by decide) (by show d + 1 < 128; omega) (by decide) (by decide) ?_
  show VN _ _ _ _ _ _ 30 [aR d] [aR (d + 1), aR d] ([cO 7 [aI 0, aI 0, aI 0, aI 0, aU, aU, aU, aU], cN 0 301 (fun _ => 0)], 1, 301)
  refine n_putF (nE_i _ _ _ _) (jj := 0) (fs := [aI 0, aI 0, aI 0, aI 0, aU, aU, aU, aU]) (q := 33) dX7_init_30 fl_X7_25 (fun w h => by cases h; rfl) rfl (fun _ => ⟨rfl, rfl⟩) rfl rfl (Nat.le_of_ble_eq_true rfl) rfl ?_
  show VN _ _ _ _ _ _ 33 [aR d] [] ([cO 7 [aI 0, aI 0, aI 0, aI 0, aR (d + 1), aU, aU, aU], cN 0 301 (fun _ => 0)], 1, 301)
  refine n_aload_n (j := 0) (q := 34) rfl dX7_init_33 rfl ?_
  refine n_sipush (q := 37) (by decide) dX7_init_34 rfl ?_
  refine n_newI (N := 301) (q := 39) dX7_init_37 rfl (by decide) (by decide) (by show d + 2 < 128; omega) (by decide) (by decide) ?_
  show VN _ _ _ _ _ _ 39 [aR d] [aR (d + 2), aR d] ([cO 7 [aI 0, aI 0, aI 0, aI 0, aR (d + 1), aU, aU, aU], cN 0 301 (fun _ => 0), cN 0 301 (fun _ => 0)], 2, 602)
  refine n_putF (nE_i _ _ _ _) (jj := 0) (fs := [aI 0, aI 0, aI 0, aI 0, aR (d + 1), aU, aU, aU]) (q := 42) dX7_init_39 fl_X7_29 (fun w h => by cases h; rfl) rfl (fun _ => ⟨rfl, rfl⟩) rfl rfl (Nat.le_of_ble_eq_true rfl) rfl ?_
  show VN _ _ _ _ _ _ 42 [aR d] [] ([cO 7 [aI 0, aI 0, aI 0, aI 0, aR (d + 1), aR (d + 2), aU, aU], cN 0 301 (fun _ => 0), cN 0 301 (fun _ => 0)], 2, 602)
  refine n_aload_n (j := 0) (q := 43) rfl dX7_init_42 rfl ?_
  refine n_sipush (q := 46) (by decide) dX7_init_43 rfl ?_
  refine n_newI (N := 301) (q := 48) dX7_init_46 rfl (by decide) (by decide) (by show d + 3 < 128; omega) (by decide) (by decide) ?_
  show VN _ _ _ _ _ _ 48 [aR d] [aR (d + 3), aR d] ([cO 7 [aI 0, aI 0, aI 0, aI 0, aR (d + 1), aR (d + 2), aU, aU], cN 0 301 (fun _ => 0), cN 0 301 (fun _ => 0), cN 0 301 (fun _ => 0)], 3, 903)
  refine n_putF (nE_i _ _ _ _) (jj := 0) (fs := [aI 0, aI 0, aI 0, aI 0, aR (d + 1), aR (d + 2), aU, aU]) (q := 51) dX7_init_48 fl_X7_32 (fun w h => by cases h; rfl) rfl (fun _ => ⟨rfl, rfl⟩) rfl rfl (Nat.le_of_ble_eq_true rfl) rfl ?_
  show VN _ _ _ _ _ _ 51 [aR d] [] ([cO 7 [aI 0, aI 0, aI 0, aI 0, aR (d + 1), aR (d + 2), aR (d + 3), aU], cN 0 301 (fun _ => 0), cN 0 301 (fun _ => 0), cN 0 301 (fun _ => 0)], 3, 903)
  refine n_aload_n (j := 0) (q := 52) rfl dX7_init_51 rfl ?_
  refine n_sipush (q := 55) (by decide) dX7_init_52 rfl ?_
  refine n_newI (N := 301) (q := 57) dX7_init_55 rfl (by decide) (by decide) (by show d + 4 < 128; omega) (by decide) (by decide) ?_
  show VN _ _ _ _ _ _ 57 [aR d] [aR (d + 4), aR d] ([cO 7 [aI 0, aI 0, aI 0, aI 0, aR (d + 1), aR (d + 2), aR (d + 3), aU], cN 0 301 (fun _ => 0), cN 0 301 (fun _ => 0), cN 0 301 (fun _ => 0), cN 0 301 (fun _ => 0)], 4, 1204)
  refine n_putF (nE_i _ _ _ _) (jj := 0) (fs := [aI 0, aI 0, aI 0, aI 0, aR (d + 1), aR (d + 2), aR (d + 3), aU]) (q := 60) dX7_init_57 fl_X7_35 (fun w h => by cases h; rfl) rfl (fun _ => ⟨rfl, rfl⟩) rfl rfl (Nat.le_of_ble_eq_true rfl) rfl ?_
  show VN _ _ _ _ _ _ 60 [aR d] [] ([cO 7 [aI 0, aI 0, aI 0, aI 0, aR (d + 1), aR (d + 2), aR (d + 3), aR (d + 4)], cN 0 301 (fun _ => 0), cN 0 301 (fun _ => 0), cN 0 301 (fun _ => 0), cN 0 301 (fun _ => 0)], 4, 1204)
  exact n_ret dX7_init_60
def machC (d : Nat) (p1 p2 : Nat) : List AC := [cO 1 [aI 0, aI 0, aR p1, aR p2, aR (d + 1), aR (d + 2), aR (d + 27), aR (d + 28), aR (d + 29), aI 0, aR (d + 30), aR (d + 31), aR (d + 32)], cN 0 4032 (fun _ => 0), cQ 3 24 (fun j => some ((d + 3) + j)), cN 1 20 (fun _ => 0), cN 1 20 (fun _ => 0), cN 1 20 (fun _ => 0), cN 1 20 (fun _ => 0), cN 1 20 (fun _ => 0), cN 1 20 (fun _ => 0), cN 1 20 (fun _ => 0), cN 1 20 (fun _ => 0), cN 1 20 (fun _ => 0), cN 1 20 (fun _ => 0), cN 1 20 (fun _ => 0), cN 1 20 (fun _ => 0), cN 1 20 (fun _ => 0), cN 1 20 (fun _ => 0), cN 1 20 (fun _ => 0), cN 1 20 (fun _ => 0), cN 1 20 (fun _ => 0), cN 1 20 (fun _ => 0), cN 1 20 (fun _ => 0), cN 1 20 (fun _ => 0), cN 1 20 (fun _ => 0), cN 1 20 (fun _ => 0), cN 1 20 (fun _ => 0), cN 1 20 (fun _ => 0), cN 1 24 (fun _ => 0), cN 2 20 (fun _ => 0), cN 0 20 (fun _ => 0), cN 0 504 (fun _ => 0), cN 0 504 (fun _ => 0), cN 0 504 (fun _ => 0)]
theorem c_X1_init (d : Nat) (p1 p2 : Nat) (hd : d + 33 ≤ 128) : CtrN mX1_init 32 6112 d [aR p1, aR p2] (cO 1 [aI 0, aI 0, aU, aU, aU, aU, aU, aU, aU, aI 0, aU, aU, aU]) (machC d p1 p2) := by
  refine CtrN.ofVN (ls := [aR d, aR p1, aR p2]) rfl rfl (by decide) rfl (Nat.le_of_ble_eq_true rfl) ?_
  refine n_aload_n (j := 0) (q := 1) rfl dX1_init_0 rfl ?_
  refine n_obj (q := 4) dX1_init_1 (gw_in (tb_at 377 (by decide +kernel)) rfl) (by decide) rfl ?_
  refine n_aload_n (j := 0) (q := 5) rfl dX1_init_4 rfl ?_
  refine n_iconst (q := 6) dX1_init_5 rfl ?_
  refine n_put (jj := 0) (fs := [aI 0, aI 0, aU, aU, aU, aU, aU, aU, aU, aI 0, aU, aU, aU]) (q := 9) dX1_init_6 fl_X1_9 rfl (fun _ => ⟨rfl, rfl⟩) rfl rfl (Nat.le_of_ble_eq_true rfl) rfl ?_
  show VN _ _ _ _ _ _ 9 [aR d, aR p1, aR p2] [] ([cO 1 [aI 0, aI 0, aU, aU, aU, aU, aU, aU, aU, aI 0, aU, aU, aU]], 0, 0)
  refine n_aload_n (j := 0) (q := 10) rfl dX1_init_9 rfl ?_
  refine n_iconst (q := 11) dX1_init_10 rfl ?_
  refine n_put (jj := 0) (fs := [aI 0, aI 0, aU, aU, aU, aU, aU, aU, aU, aI 0, aU, aU, aU]) (q := 14) dX1_init_11 fl_X1_15 rfl (fun _ => ⟨rfl, rfl⟩) rfl rfl (Nat.le_of_ble_eq_true rfl) rfl ?_
  show VN _ _ _ _ _ _ 14 [aR d, aR p1, aR p2] [] ([cO 1 [aI 0, aI 0, aU, aU, aU, aU, aU, aU, aU, aI 0, aU, aU, aU]], 0, 0)
  refine n_aload_n (j := 0) (q := 15) rfl dX1_init_14 rfl ?_
  refine n_sipush (q := 18) (by decide) dX1_init_15 rfl ?_
  refine n_newI (N := 4032) (q := 20) dX1_init_18 rfl (by decide) (by decide) (by show d + 1 < 128; omega) (by decide) (by decide) ?_
  show VN _ _ _ _ _ _ 20 [aR d, aR p1, aR p2] [aR (d + 1), aR d] ([cO 1 [aI 0, aI 0, aU, aU, aU, aU, aU, aU, aU, aI 0, aU, aU, aU], cN 0 4032 (fun _ => 0)], 1, 4032)
  refine n_putF (nE_i _ _ _ _) (jj := 0) (fs := [aI 0, aI 0, aU, aU, aU, aU, aU, aU, aU, aI 0, aU, aU, aU]) (q := 23) dX1_init_20 fl_X1_19 (fun w h => by cases h; rfl) rfl (fun _ => ⟨rfl, rfl⟩) rfl rfl (Nat.le_of_ble_eq_true rfl) rfl ?_
  show VN _ _ _ _ _ _ 23 [aR d, aR p1, aR p2] [] ([cO 1 [aI 0, aI 0, aU, aU, aR (d + 1), aU, aU, aU, aU, aI 0, aU, aU, aU], cN 0 4032 (fun _ => 0)], 1, 4032)
  refine n_aload_n (j := 0) (q := 24) rfl dX1_init_23 rfl ?_
  refine n_bipush (q := 26) (by decide) dX1_init_24 rfl ?_
  refine n_bipush (q := 28) (by decide) dX1_init_26 rfl ?_
  refine n_mna (N := 24) (K := 20) (q := 32) dX1_init_28 (gw_in (tb_at 378 (by decide +kernel)) rfl) (by decide) (by decide) (by decide) (by decide) (by show d + (2 + (1 + 24)) ≤ 128; omega) (by decide) (by decide) rfl ?_
  show VN _ _ _ _ _ _ 32 [aR d, aR p1, aR p2] [aR (d + 2), aR d] ([cO 1 [aI 0, aI 0, aU, aU, aR (d + 1), aU, aU, aU, aU, aI 0, aU, aU, aU], cN 0 4032 (fun _ => 0), cQ 3 24 (fun j => some ((d + 3) + j)), cN 1 20 (fun _ => 0), cN 1 20 (fun _ => 0), cN 1 20 (fun _ => 0), cN 1 20 (fun _ => 0), cN 1 20 (fun _ => 0), cN 1 20 (fun _ => 0), cN 1 20 (fun _ => 0), cN 1 20 (fun _ => 0), cN 1 20 (fun _ => 0), cN 1 20 (fun _ => 0), cN 1 20 (fun _ => 0), cN 1 20 (fun _ => 0), cN 1 20 (fun _ => 0), cN 1 20 (fun _ => 0), cN 1 20 (fun _ => 0), cN 1 20 (fun _ => 0), cN 1 20 (fun _ => 0), cN 1 20 (fun _ => 0), cN 1 20 (fun _ => 0), cN 1 20 (fun _ => 0), cN 1 20 (fun _ => 0), cN 1 20 (fun _ => 0), cN 1 20 (fun _ => 0), cN 1 20 (fun _ => 0)], 26, 4536)
  refine n_putF (nE_i _ _ _ _) (jj := 0) (fs := [aI 0, aI 0, aU, aU, aR (d + 1), aU, aU, aU, aU, aI 0, aU, aU, aU]) (q := 35) dX1_init_32 fl_X1_25 (fun w h => by cases h; rfl) rfl (fun _ => ⟨rfl, rfl⟩) rfl rfl (Nat.le_of_ble_eq_true rfl) rfl ?_
  show VN _ _ _ _ _ _ 35 [aR d, aR p1, aR p2] [] ([cO 1 [aI 0, aI 0, aU, aU, aR (d + 1), aR (d + 2), aU, aU, aU, aI 0, aU, aU, aU], cN 0 4032 (fun _ => 0), cQ 3 24 (fun j => some ((d + 3) + j)), cN 1 20 (fun _ => 0), cN 1 20 (fun _ => 0), cN 1 20 (fun _ => 0), cN 1 20 (fun _ => 0), cN 1 20 (fun _ => 0), cN 1 20 (fun _ => 0), cN 1 20 (fun _ => 0), cN 1 20 (fun _ => 0), cN 1 20 (fun _ => 0), cN 1 20 (fun _ => 0), cN 1 20 (fun _ => 0), cN 1 20 (fun _ => 0), cN 1 20 (fun _ => 0), cN 1 20 (fun _ => 0), cN 1 20 (fun _ => 0), cN 1 20 (fun _ => 0), cN 1 20 (fun _ => 0), cN 1 20 (fun _ => 0), cN 1 20 (fun _ => 0), cN 1 20 (fun _ => 0), cN 1 20 (fun _ => 0), cN 1 20 (fun _ => 0), cN 1 20 (fun _ => 0), cN 1 20 (fun _ => 0)], 26, 4536)
  refine n_aload_n (j := 0) (q := 36) rfl dX1_init_35 rfl ?_
  refine n_bipush (q := 38) (by decide) dX1_init_36 rfl ?_
  refine n_newL (N := 24) (q := 40) dX1_init_38 rfl (by decide) (by decide) (by show d + 27 < 128; omega) (by decide) (by decide) ?_
  show VN _ _ _ _ _ _ 40 [aR d, aR p1, aR p2] [aR (d + 27), aR d] ([cO 1 [aI 0, aI 0, aU, aU, aR (d + 1), aR (d + 2), aU, aU, aU, aI 0, aU, aU, aU], cN 0 4032 (fun _ => 0), cQ 3 24 (fun j => some ((d + 3) + j)), cN 1 20 (fun _ => 0), cN 1 20 (fun _ => 0), cN 1 20 (fun _ => 0), cN 1 20 (fun _ => 0), cN 1 20 (fun _ => 0), cN 1 20 (fun _ => 0), cN 1 20 (fun _ => 0), cN 1 20 (fun _ => 0), cN 1 20 (fun _ => 0), cN 1 20 (fun _ => 0), cN 1 20 (fun _ => 0), cN 1 20 (fun _ => 0), cN 1 20 (fun _ => 0), cN 1 20 (fun _ => 0), cN 1 20 (fun _ => 0), cN 1 20 (fun _ => 0), cN 1 20 (fun _ => 0), cN 1 20 (fun _ => 0), cN 1 20 (fun _ => 0), cN 1 20 (fun _ => 0), cN 1 20 (fun _ => 0), cN 1 20 (fun _ => 0), cN 1 20 (fun _ => 0), cN 1 20 (fun _ => 0), cN 1 24 (fun _ => 0)], 27, 4560)
  refine n_putF (nE_i _ _ _ _) (jj := 0) (fs := [aI 0, aI 0, aU, aU, aR (d + 1), aR (d + 2), aU, aU, aU, aI 0, aU, aU, aU]) (q := 43) dX1_init_40 fl_X1_28 (fun w h => by cases h; rfl) rfl (fun _ => ⟨rfl, rfl⟩) rfl rfl (Nat.le_of_ble_eq_true rfl) rfl ?_
  show VN _ _ _ _ _ _ 43 [aR d, aR p1, aR p2] [] ([cO 1 [aI 0, aI 0, aU, aU, aR (d + 1), aR (d + 2), aR (d + 27), aU, aU, aI 0, aU, aU, aU], cN 0 4032 (fun _ => 0), cQ 3 24 (fun j => some ((d + 3) + j)), cN 1 20 (fun _ => 0), cN 1 20 (fun _ => 0), cN 1 20 (fun _ => 0), cN 1 20 (fun _ => 0), cN 1 20 (fun _ => 0), cN 1 20 (fun _ => 0), cN 1 20 (fun _ => 0), cN 1 20 (fun _ => 0), cN 1 20 (fun _ => 0), cN 1 20 (fun _ => 0), cN 1 20 (fun _ => 0), cN 1 20 (fun _ => 0), cN 1 20 (fun _ => 0), cN 1 20 (fun _ => 0), cN 1 20 (fun _ => 0), cN 1 20 (fun _ => 0), cN 1 20 (fun _ => 0), cN 1 20 (fun _ => 0), cN 1 20 (fun _ => 0), cN 1 20 (fun _ => 0), cN 1 20 (fun _ => 0), cN 1 20 (fun _ => 0), cN 1 20 (fun _ => 0), cN 1 20 (fun _ => 0), cN 1 24 (fun _ => 0)], 27, 4560)
  refine n_aload_n (j := 0) (q := 44) rfl dX1_init_43 rfl ?_
  refine n_bipush (q := 46) (by decide) dX1_init_44 rfl ?_
  refine n_newZ (N := 20) (q := 48) dX1_init_46 rfl (by decide) (by decide) (by show d + 28 < 128; omega) (by decide) (by decide) ?_
  show VN _ _ _ _ _ _ 48 [aR d, aR p1, aR p2] [aR (d + 28), aR d] ([cO 1 [aI 0, aI 0, aU, aU, aR (d + 1), aR (d + 2), aR (d + 27), aU, aU, aI 0, aU, aU, aU], cN 0 4032 (fun _ => 0), cQ 3 24 (fun j => some ((d + 3) + j)), cN 1 20 (fun _ => 0), cN 1 20 (fun _ => 0), cN 1 20 (fun _ => 0), cN 1 20 (fun _ => 0), cN 1 20 (fun _ => 0), cN 1 20 (fun _ => 0), cN 1 20 (fun _ => 0), cN 1 20 (fun _ => 0), cN 1 20 (fun _ => 0), cN 1 20 (fun _ => 0), cN 1 20 (fun _ => 0), cN 1 20 (fun _ => 0), cN 1 20 (fun _ => 0), cN 1 20 (fun _ => 0), cN 1 20 (fun _ => 0), cN 1 20 (fun _ => 0), cN 1 20 (fun _ => 0), cN 1 20 (fun _ => 0), cN 1 20 (fun _ => 0), cN 1 20 (fun _ => 0), cN 1 20 (fun _ => 0), cN 1 20 (fun _ => 0), cN 1 20 (fun _ => 0), cN 1 20 (fun _ => 0), cN 1 24 (fun _ => 0), cN 2 20 (fun _ => 0)], 28, 4580)
  refine n_putF (nE_i _ _ _ _) (jj := 0) (fs := [aI 0, aI 0, aU, aU, aR (d + 1), aR (d + 2), aR (d + 27), aU, aU, aI 0, aU, aU, aU]) (q := 51) dX1_init_48 fl_X1_32 (fun w h => by cases h; rfl) rfl (fun _ => ⟨rfl, rfl⟩) rfl rfl (Nat.le_of_ble_eq_true rfl) rfl ?_
  show VN _ _ _ _ _ _ 51 [aR d, aR p1, aR p2] [] ([cO 1 [aI 0, aI 0, aU, aU, aR (d + 1), aR (d + 2), aR (d + 27), aR (d + 28), aU, aI 0, aU, aU, aU], cN 0 4032 (fun _ => 0), cQ 3 24 (fun j => some ((d + 3) + j)), cN 1 20 (fun _ => 0), cN 1 20 (fun _ => 0), cN 1 20 (fun _ => 0), cN 1 20 (fun _ => 0), cN 1 20 (fun _ => 0), cN 1 20 (fun _ => 0), cN 1 20 (fun _ => 0), cN 1 20 (fun _ => 0), cN 1 20 (fun _ => 0), cN 1 20 (fun _ => 0), cN 1 20 (fun _ => 0), cN 1 20 (fun _ => 0), cN 1 20 (fun _ => 0), cN 1 20 (fun _ => 0), cN 1 20 (fun _ => 0), cN 1 20 (fun _ => 0), cN 1 20 (fun _ => 0), cN 1 20 (fun _ => 0), cN 1 20 (fun _ => 0), cN 1 20 (fun _ => 0), cN 1 20 (fun _ => 0), cN 1 20 (fun _ => 0), cN 1 20 (fun _ => 0), cN 1 20 (fun _ => 0), cN 1 24 (fun _ => 0), cN 2 20 (fun _ => 0)], 28, 4580)
  refine n_aload_n (j := 0) (q := 52) rfl dX1_init_51 rfl ?_
  refine n_bipush (q := 54) (by decide) dX1_init_52 rfl ?_
  refine n_newI (N := 20) (q := 56) dX1_init_54 rfl (by decide) (by decide) (by show d + 29 < 128; omega) (by decide) (by decide) ?_
  show VN _ _ _ _ _ _ 56 [aR d, aR p1, aR p2] [aR (d + 29), aR d] ([cO 1 [aI 0, aI 0, aU, aU, aR (d + 1), aR (d + 2), aR (d + 27), aR (d + 28), aU, aI 0, aU, aU, aU], cN 0 4032 (fun _ => 0), cQ 3 24 (fun j => some ((d + 3) + j)), cN 1 20 (fun _ => 0), cN 1 20 (fun _ => 0), cN 1 20 (fun _ => 0), cN 1 20 (fun _ => 0), cN 1 20 (fun _ => 0), cN 1 20 (fun _ => 0), cN 1 20 (fun _ => 0), cN 1 20 (fun _ => 0), cN 1 20 (fun _ => 0), cN 1 20 (fun _ => 0), cN 1 20 (fun _ => 0), cN 1 20 (fun _ => 0), cN 1 20 (fun _ => 0), cN 1 20 (fun _ => 0), cN 1 20 (fun _ => 0), cN 1 20 (fun _ => 0), cN 1 20 (fun _ => 0), cN 1 20 (fun _ => 0), cN 1 20 (fun _ => 0), cN 1 20 (fun _ => 0), cN 1 20 (fun _ => 0), cN 1 20 (fun _ => 0), cN 1 20 (fun _ => 0), cN 1 20 (fun _ => 0), cN 1 24 (fun _ => 0), cN 2 20 (fun _ => 0), cN 0 20 (fun _ => 0)], 29, 4600)
  refine n_putF (nE_i _ _ _ _) (jj := 0) (fs := [aI 0, aI 0, aU, aU, aR (d + 1), aR (d + 2), aR (d + 27), aR (d + 28), aU, aI 0, aU, aU, aU]) (q := 59) dX1_init_56 fl_X1_36 (fun w h => by cases h; rfl) rfl (fun _ => ⟨rfl, rfl⟩) rfl rfl (Nat.le_of_ble_eq_true rfl) rfl ?_
  show VN _ _ _ _ _ _ 59 [aR d, aR p1, aR p2] [] ([cO 1 [aI 0, aI 0, aU, aU, aR (d + 1), aR (d + 2), aR (d + 27), aR (d + 28), aR (d + 29), aI 0, aU, aU, aU], cN 0 4032 (fun _ => 0), cQ 3 24 (fun j => some ((d + 3) + j)), cN 1 20 (fun _ => 0), cN 1 20 (fun _ => 0), cN 1 20 (fun _ => 0), cN 1 20 (fun _ => 0), cN 1 20 (fun _ => 0), cN 1 20 (fun _ => 0), cN 1 20 (fun _ => 0), cN 1 20 (fun _ => 0), cN 1 20 (fun _ => 0), cN 1 20 (fun _ => 0), cN 1 20 (fun _ => 0), cN 1 20 (fun _ => 0), cN 1 20 (fun _ => 0), cN 1 20 (fun _ => 0), cN 1 20 (fun _ => 0), cN 1 20 (fun _ => 0), cN 1 20 (fun _ => 0), cN 1 20 (fun _ => 0), cN 1 20 (fun _ => 0), cN 1 20 (fun _ => 0), cN 1 20 (fun _ => 0), cN 1 20 (fun _ => 0), cN 1 20 (fun _ => 0), cN 1 20 (fun _ => 0), cN 1 24 (fun _ => 0), cN 2 20 (fun _ => 0), cN 0 20 (fun _ => 0)], 29, 4600)
  refine n_aload_n (j := 0) (q := 60) rfl dX1_init_59 rfl ?_
  refine n_iconst (q := 61) dX1_init_60 rfl ?_
  refine n_put (jj := 0) (fs := [aI 0, aI 0, aU, aU, aR (d + 1), aR (d + 2), aR (d + 27), aR (d + 28), aR (d + 29), aI 0, aU, aU, aU]) (q := 64) dX1_init_61 fl_X1_39 rfl (fun _ => ⟨rfl, rfl⟩) rfl rfl (Nat.le_of_ble_eq_true rfl) rfl ?_
  show VN _ _ _ _ _ _ 64 [aR d, aR p1, aR p2] [] ([cO 1 [aI 0, aI 0, aU, aU, aR (d + 1), aR (d + 2), aR (d + 27), aR (d + 28), aR (d + 29), aI 0, aU, aU, aU], cN 0 4032 (fun _ => 0), cQ 3 24 (fun j => some ((d + 3) + j)), cN 1 20 (fun _ => 0), cN 1 20 (fun _ => 0), cN 1 20 (fun _ => 0), cN 1 20 (fun _ => 0), cN 1 20 (fun _ => 0), cN 1 20 (fun _ => 0), cN 1 20 (fun _ => 0), cN 1 20 (fun _ => 0), cN 1 20 (fun _ => 0), cN 1 20 (fun _ => 0), cN 1 20 (fun _ => 0), cN 1 20 (fun _ => 0), cN 1 20 (fun _ => 0), cN 1 20 (fun _ => 0), cN 1 20 (fun _ => 0), cN 1 20 (fun _ => 0), cN 1 20 (fun _ => 0), cN 1 20 (fun _ => 0), cN 1 20 (fun _ => 0), cN 1 20 (fun _ => 0), cN 1 20 (fun _ => 0), cN 1 20 (fun _ => 0), cN 1 20 (fun _ => 0), cN 1 20 (fun _ => 0), cN 1 24 (fun _ => 0), cN 2 20 (fun _ => 0), cN 0 20 (fun _ => 0)], 29, 4600)
  refine n_aload_n (j := 0) (q := 65) rfl dX1_init_64 rfl ?_
  refine n_sipush (q := 68) (by decide) dX1_init_65 rfl ?_
  refine n_newI (N := 504) (q := 70) dX1_init_68 rfl (by decide) (by decide) (by show d + 30 < 128; omega) (by decide) (by decide) ?_
  show VN _ _ _ _ _ _ 70 [aR d, aR p1, aR p2] [aR (d + 30), aR d] ([cO 1 [aI 0, aI 0, aU, aU, aR (d + 1), aR (d + 2), aR (d + 27), aR (d + 28), aR (d + 29), aI 0, aU, aU, aU], cN 0 4032 (fun _ => 0), cQ 3 24 (fun j => some ((d + 3) + j)), cN 1 20 (fun _ => 0), cN 1 20 (fun _ => 0), cN 1 20 (fun _ => 0), cN 1 20 (fun _ => 0), cN 1 20 (fun _ => 0), cN 1 20 (fun _ => 0), cN 1 20 (fun _ => 0), cN 1 20 (fun _ => 0), cN 1 20 (fun _ => 0), cN 1 20 (fun _ => 0), cN 1 20 (fun _ => 0), cN 1 20 (fun _ => 0), cN 1 20 (fun _ => 0), cN 1 20 (fun _ => 0), cN 1 20 (fun _ => 0), cN 1 20 (fun _ => 0), cN 1 20 (fun _ => 0), cN 1 20 (fun _ => 0), cN 1 20 (fun _ => 0), cN 1 20 (fun _ => 0), cN 1 20 (fun _ => 0), cN 1 20 (fun _ => 0), cN 1 20 (fun _ => 0), cN 1 20 (fun _ => 0), cN 1 24 (fun _ => 0), cN 2 20 (fun _ => 0), cN 0 20 (fun _ => 0), cN 0 504 (fun _ => 0)], 30, 5104)
  refine n_putF (nE_i _ _ _ _) (jj := 0) (fs := [aI 0, aI 0, aU, aU, aR (d + 1), aR (d + 2), aR (d + 27), aR (d + 28), aR (d + 29), aI 0, aU, aU, aU]) (q := 73) dX1_init_70 fl_X1_42 (fun w h => by cases h; rfl) rfl (fun _ => ⟨rfl, rfl⟩) rfl rfl (Nat.le_of_ble_eq_true rfl) rfl ?_
  show VN _ _ _ _ _ _ 73 [aR d, aR p1, aR p2] [] ([cO 1 [aI 0, aI 0, aU, aU, aR (d + 1), aR (d + 2), aR (d + 27), aR (d + 28), aR (d + 29), aI 0, aR (d + 30), aU, aU], cN 0 4032 (fun _ => 0), cQ 3 24 (fun j => some ((d + 3) + j)), cN 1 20 (fun _ => 0), cN 1 20 (fun _ => 0), cN 1 20 (fun _ => 0), cN 1 20 (fun _ => 0), cN 1 20 (fun _ => 0), cN 1 20 (fun _ => 0), cN 1 20 (fun _ => 0), cN 1 20 (fun _ => 0), cN 1 20 (fun _ => 0), cN 1 20 (fun _ => 0), cN 1 20 (fun _ => 0), cN 1 20 (fun _ => 0), cN 1 20 (fun _ => 0), cN 1 20 (fun _ => 0), cN 1 20 (fun _ => 0), cN 1 20 (fun _ => 0), cN 1 20 (fun _ => 0), cN 1 20 (fun _ => 0), cN 1 20 (fun _ => 0), cN 1 20 (fun _ => 0), cN 1 20 (fun _ => 0), cN 1 20 (fun _ => 0), cN 1 20 (fun _ => 0), cN 1 20 (fun _ => 0), cN 1 24 (fun _ => 0), cN 2 20 (fun _ => 0), cN 0 20 (fun _ => 0), cN 0 504 (fun _ => 0)], 30, 5104)
  refine n_aload_n (j := 0) (q := 74) rfl dX1_init_73 rfl ?_
  refine n_sipush (q := 77) (by decide) dX1_init_74 rfl ?_
  refine n_newI (N := 504) (q := 79) dX1_init_77 rfl (by decide) (by decide) (by show d + 31 < 128; omega) (by decide) (by decide) ?_
  show VN _ _ _ _ _ _ 79 [aR d, aR p1, aR p2] [aR (d + 31), aR d] ([cO 1 [aI 0, aI 0, aU, aU, aR (d + 1), aR (d + 2), aR (d + 27), aR (d + 28), aR (d + 29), aI 0, aR (d + 30), aU, aU], cN 0 4032 (fun _ => 0), cQ 3 24 (fun j => some ((d + 3) + j)), cN 1 20 (fun _ => 0), cN 1 20 (fun _ => 0), cN 1 20 (fun _ => 0), cN 1 20 (fun _ => 0), cN 1 20 (fun _ => 0), cN 1 20 (fun _ => 0), cN 1 20 (fun _ => 0), cN 1 20 (fun _ => 0), cN 1 20 (fun _ => 0), cN 1 20 (fun _ => 0), cN 1 20 (fun _ => 0), cN 1 20 (fun _ => 0), cN 1 20 (fun _ => 0), cN 1 20 (fun _ => 0), cN 1 20 (fun _ => 0), cN 1 20 (fun _ => 0), cN 1 20 (fun _ => 0), cN 1 20 (fun _ => 0), cN 1 20 (fun _ => 0), cN 1 20 (fun _ => 0), cN 1 20 (fun _ => 0), cN 1 20 (fun _ => 0), cN 1 20 (fun _ => 0), cN 1 20 (fun _ => 0), cN 1 24 (fun _ => 0), cN 2 20 (fun _ => 0), cN 0 20 (fun _ => 0), cN 0 504 (fun _ => 0), cN 0 504 (fun _ => 0)], 31, 5608)
  refine n_putF (nE_i _ _ _ _) (jj := 0) (fs := [aI 0, aI 0, aU, aU, aR (d + 1), aR (d + 2), aR (d + 27), aR (d + 28), aR (d + 29), aI 0, aR (d + 30), aU, aU]) (q := 82) dX1_init_79 fl_X1_45 (fun w h => by cases h; rfl) rfl (fun _ => ⟨rfl, rfl⟩) rfl rfl (Nat.le_of_ble_eq_true rfl) rfl ?_
  show VN _ _ _ _ _ _ 82 [aR d, aR p1, aR p2] [] ([cO 1 [aI 0, aI 0, aU, aU, aR (d + 1), aR (d + 2), aR (d + 27), aR (d + 28), aR (d + 29), aI 0, aR (d + 30), aR (d + 31), aU], cN 0 4032 (fun _ => 0), cQ 3 24 (fun j => some ((d + 3) + j)), cN 1 20 (fun _ => 0), cN 1 20 (fun _ => 0), cN 1 20 (fun _ => 0), cN 1 20 (fun _ => 0), cN 1 20 (fun _ => 0), cN 1 20 (fun _ => 0), cN 1 20 (fun _ => 0), cN 1 20 (fun _ => 0), cN 1 20 (fun _ => 0), cN 1 20 (fun _ => 0), cN 1 20 (fun _ => 0), cN 1 20 (fun _ => 0), cN 1 20 (fun _ => 0), cN 1 20 (fun _ => 0), cN 1 20 (fun _ => 0), cN 1 20 (fun _ => 0), cN 1 20 (fun _ => 0), cN 1 20 (fun _ => 0), cN 1 20 (fun _ => 0), cN 1 20 (fun _ => 0), cN 1 20 (fun _ => 0), cN 1 20 (fun _ => 0), cN 1 20 (fun _ => 0), cN 1 20 (fun _ => 0), cN 1 24 (fun _ => 0), cN 2 20 (fun _ => 0), cN 0 20 (fun _ => 0), cN 0 504 (fun _ => 0), cN 0 504 (fun _ => 0)], 31, 5608)
  refine n_aload_n (j := 0) (q := 83) rfl dX1_init_82 rfl ?_
  refine n_sipush (q := 86) (by decide) dX1_init_83 rfl ?_
  refine n_newI (N := 504) (q := 88) dX1_init_86 rfl (by decide) (by decide) (by show d + 32 < 128; omega) (by decide) (by decide) ?_
  show VN _ _ _ _ _ _ 88 [aR d, aR p1, aR p2] [aR (d + 32), aR d] ([cO 1 [aI 0, aI 0, aU, aU, aR (d + 1), aR (d + 2), aR (d + 27), aR (d + 28), aR (d + 29), aI 0, aR (d + 30), aR (d + 31), aU], cN 0 4032 (fun _ => 0), cQ 3 24 (fun j => some ((d + 3) + j)), cN 1 20 (fun _ => 0), cN 1 20 (fun _ => 0), cN 1 20 (fun _ => 0), cN 1 20 (fun _ => 0), cN 1 20 (fun _ => 0), cN 1 20 (fun _ => 0), cN 1 20 (fun _ => 0), cN 1 20 (fun _ => 0), cN 1 20 (fun _ => 0), cN 1 20 (fun _ => 0), cN 1 20 (fun _ => 0), cN 1 20 (fun _ => 0), cN 1 20 (fun _ => 0), cN 1 20 (fun _ => 0), cN 1 20 (fun _ => 0), cN 1 20 (fun _ => 0), cN 1 20 (fun _ => 0), cN 1 20 (fun _ => 0), cN 1 20 (fun _ => 0), cN 1 20 (fun _ => 0), cN 1 20 (fun _ => 0), cN 1 20 (fun _ => 0), cN 1 20 (fun _ => 0), cN 1 20 (fun _ => 0), cN 1 24 (fun _ => 0), cN 2 20 (fun _ => 0), cN 0 20 (fun _ => 0), cN 0 504 (fun _ => 0), cN 0 504 (fun _ => 0), cN 0 504 (fun _ => 0)], 32, 6112)
  refine n_putF (nE_i _ _ _ _) (jj := 0) (fs := [aI 0, aI 0, aU, aU, aR (d + 1), aR (d + 2), aR (d + 27), aR (d + 28), aR (d + 29), aI 0, aR (d + 30), aR (d + 31), aU]) (q := 91) dX1_init_88 fl_X1_48 (fun w h => by cases h; rfl) rfl (fun _ => ⟨rfl, rfl⟩) rfl rfl (Nat.le_of_ble_eq_true rfl) rfl ?_
  show VN _ _ _ _ _ _ 91 [aR d, aR p1, aR p2] [] ([cO 1 [aI 0, aI 0, aU, aU, aR (d + 1), aR (d + 2), aR (d + 27), aR (d + 28), aR (d + 29), aI 0, aR (d + 30), aR (d + 31), aR (d + 32)], cN 0 4032 (fun _ => 0), cQ 3 24 (fun j => some ((d + 3) + j)), cN 1 20 (fun _ => 0), cN 1 20 (fun _ => 0), cN 1 20 (fun _ => 0), cN 1 20 (fun _ => 0), cN 1 20 (fun _ => 0), cN 1 20 (fun _ => 0), cN 1 20 (fun _ => 0), cN 1 20 (fun _ => 0), cN 1 20 (fun _ => 0), cN 1 20 (fun _ => 0), cN 1 20 (fun _ => 0), cN 1 20 (fun _ => 0), cN 1 20 (fun _ => 0), cN 1 20 (fun _ => 0), cN 1 20 (fun _ => 0), cN 1 20 (fun _ => 0), cN 1 20 (fun _ => 0), cN 1 20 (fun _ => 0), cN 1 20 (fun _ => 0), cN 1 20 (fun _ => 0), cN 1 20 (fun _ => 0), cN 1 20 (fun _ => 0), cN 1 20 (fun _ => 0), cN 1 20 (fun _ => 0), cN 1 24 (fun _ => 0), cN 2 20 (fun _ => 0), cN 0 20 (fun _ => 0), cN 0 504 (fun _ => 0), cN 0 504 (fun _ => 0), cN 0 504 (fun _ => 0)], 32, 6112)
  refine n_aload_n (j := 0) (q := 92) rfl dX1_init_91 rfl ?_
  refine n_aload_n (j := 1) (q := 93) rfl dX1_init_92 rfl ?_
  refine n_putF (nE_i _ _ _ _) (jj := 0) (fs := [aI 0, aI 0, aU, aU, aR (d + 1), aR (d + 2), aR (d + 27), aR (d + 28), aR (d + 29), aI 0, aR (d + 30), aR (d + 31), aR (d + 32)]) (q := 96) dX1_init_93 fl_X1_51 (fun w h => by cases h; rfl) rfl (fun _ => ⟨rfl, rfl⟩) rfl rfl (Nat.le_of_ble_eq_true rfl) rfl ?_
  show VN _ _ _ _ _ _ 96 [aR d, aR p1, aR p2] [] ([cO 1 [aI 0, aI 0, aR p1, aU, aR (d + 1), aR (d + 2), aR (d + 27), aR (d + 28), aR (d + 29), aI 0, aR (d + 30), aR (d + 31), aR (d + 32)], cN 0 4032 (fun _ => 0), cQ 3 24 (fun j => some ((d + 3) + j)), cN 1 20 (fun _ => 0), cN 1 20 (fun _ => 0), cN 1 20 (fun _ => 0), cN 1 20 (fun _ => 0), cN 1 20 (fun _ => 0), cN 1 20 (fun _ => 0), cN 1 20 (fun _ => 0), cN 1 20 (fun _ => 0), cN 1 20 (fun _ => 0), cN 1 20 (fun _ => 0), cN 1 20 (fun _ => 0), cN 1 20 (fun _ => 0), cN 1 20 (fun _ => 0), cN 1 20 (fun _ => 0), cN 1 20 (fun _ => 0), cN 1 20 (fun _ => 0), cN 1 20 (fun _ => 0), cN 1 20 (fun _ => 0), cN 1 20 (fun _ => 0), cN 1 20 (fun _ => 0), cN 1 20 (fun _ => 0), cN 1 20 (fun _ => 0), cN 1 20 (fun _ => 0), cN 1 20 (fun _ => 0), cN 1 24 (fun _ => 0), cN 2 20 (fun _ => 0), cN 0 20 (fun _ => 0), cN 0 504 (fun _ => 0), cN 0 504 (fun _ => 0), cN 0 504 (fun _ => 0)], 32, 6112)
  refine n_aload_n (j := 0) (q := 97) rfl dX1_init_96 rfl ?_
  refine n_aload_n (j := 2) (q := 98) rfl dX1_init_97 rfl ?_
  refine n_putF (nE_i _ _ _ _) (jj := 0) (fs := [aI 0, aI 0, aR p1, aU, aR (d + 1), aR (d + 2), aR (d + 27), aR (d + 28), aR (d + 29), aI 0, aR (d + 30), aR (d + 31), aR (d + 32)]) (q := 101) dX1_init_98 fl_X1_55 (fun w h => by cases h; rfl) rfl (fun _ => ⟨rfl, rfl⟩) rfl rfl (Nat.le_of_ble_eq_true rfl) rfl ?_
  show VN _ _ _ _ _ _ 101 [aR d, aR p1, aR p2] [] ([cO 1 [aI 0, aI 0, aR p1, aR p2, aR (d + 1), aR (d + 2), aR (d + 27), aR (d + 28), aR (d + 29), aI 0, aR (d + 30), aR (d + 31), aR (d + 32)], cN 0 4032 (fun _ => 0), cQ 3 24 (fun j => some ((d + 3) + j)), cN 1 20 (fun _ => 0), cN 1 20 (fun _ => 0), cN 1 20 (fun _ => 0), cN 1 20 (fun _ => 0), cN 1 20 (fun _ => 0), cN 1 20 (fun _ => 0), cN 1 20 (fun _ => 0), cN 1 20 (fun _ => 0), cN 1 20 (fun _ => 0), cN 1 20 (fun _ => 0), cN 1 20 (fun _ => 0), cN 1 20 (fun _ => 0), cN 1 20 (fun _ => 0), cN 1 20 (fun _ => 0), cN 1 20 (fun _ => 0), cN 1 20 (fun _ => 0), cN 1 20 (fun _ => 0), cN 1 20 (fun _ => 0), cN 1 20 (fun _ => 0), cN 1 20 (fun _ => 0), cN 1 20 (fun _ => 0), cN 1 20 (fun _ => 0), cN 1 20 (fun _ => 0), cN 1 20 (fun _ => 0), cN 1 24 (fun _ => 0), cN 2 20 (fun _ => 0), cN 0 20 (fun _ => 0), cN 0 504 (fun _ => 0), cN 0 504 (fun _ => 0), cN 0 504 (fun _ => 0)], 32, 6112)
  exact n_ret dX1_init_101
def histC (d : Nat) : List AC := [cO 0 [aI 0, aR (d + 1)], cQ 4 8 (va_up (va_up (va_up (va_up (va_up (va_up (va_up (va_up (fun _ => none) 0 (some (d + 2))) 1 (some (d + 4))) 2 (some (d + 6))) 3 (some (d + 8))) 4 (some (d + 10))) 5 (some (d + 12))) 6 (some (d + 14))) 7 (some (d + 16))), cO 4 [aI 2, aI 3, aI 0, aI 1, aI 0, aR (d + 3)], cN 0 100 (fun _ => 0), cO 4 [aI 2, aI 3, aI 0, aI 1, aI 0, aR (d + 5)], cN 0 100 (fun _ => 0), cO 4 [aI 2, aI 3, aI 0, aI 1, aI 0, aR (d + 7)], cN 0 100 (fun _ => 0), cO 4 [aI 2, aI 3, aI 0, aI 1, aI 0, aR (d + 9)], cN 0 100 (fun _ => 0), cO 4 [aI 2, aI 3, aI 0, aI 1, aI 0, aR (d + 11)], cN 0 100 (fun _ => 0), cO 4 [aI 2, aI 3, aI 0, aI 1, aI 0, aR (d + 13)], cN 0 100 (fun _ => 0), cO 4 [aI 2, aI 3, aI 0, aI 1, aI 0, aR (d + 15)], cN 0 100 (fun _ => 0), cO 4 [aI 2, aI 3, aI 0, aI 1, aI 0, aR (d + 17)], cN 0 100 (fun _ => 0)]
theorem c_X0_init (d : Nat) (hd : d + 18 ≤ 128) : CtrN mX0_init 17 856 d [] (cO 0 [aI 0, aU]) (histC d) := by
  refine CtrN.ofVN (ls := [aR d, aU]) rfl rfl (by decide) rfl (Nat.le_of_ble_eq_true rfl) ?_
  refine n_aload_n (j := 0) (q := 1) rfl dX0_init_0 rfl ?_
  refine n_obj (q := 4) dX0_init_1 (gw_in (tb_at 149 (by decide +kernel)) rfl) (by decide) rfl ?_
  refine n_aload_n (j := 0) (q := 5) rfl dX0_init_4 rfl ?_
  refine n_iconst (q := 6) dX0_init_5 rfl ?_
  refine n_put (jj := 0) (fs := [aI 0, aU]) (q := 9) dX0_init_6 fl_X0_9 rfl (fun _ => ⟨rfl, rfl⟩) rfl rfl (Nat.le_of_ble_eq_true rfl) rfl ?_
  show VN _ _ _ _ _ _ 9 [aR d, aU] [] ([cO 0 [aI 0, aU]], 0, 0)
  refine n_aload_n (j := 0) (q := 10) rfl dX0_init_9 rfl ?_
  refine n_bipush (q := 12) (by decide) dX0_init_10 rfl ?_
  refine n_newq (N := 8) (q := 15) dX0_init_12 (gw_in (tb_at 150 (by decide +kernel)) rfl) rfl (by decide) (by decide) (by show d + 1 < 128; omega) (by decide) (by decide) ?_
  show VN _ _ _ _ _ _ 15 [aR d, aU] [aR (d + 1), aR d] ([cO 0 [aI 0, aU], cQ 4 8 (fun _ => none)], 1, 8)
  refine n_putF (nE_i _ _ _ _) (jj := 0) (fs := [aI 0, aU]) (q := 18) dX0_init_15 fl_X0_17 (fun w h => by cases h; rfl) rfl (fun _ => ⟨rfl, rfl⟩) rfl rfl (Nat.le_of_ble_eq_true rfl) rfl ?_
  show VN _ _ _ _ _ _ 18 [aR d, aU] [] ([cO 0 [aI 0, aR (d + 1)], cQ 4 8 (fun _ => none)], 1, 8)
  refine n_iconst (q := 19) dX0_init_18 rfl ?_
  refine n_ist1 (q := 20) rfl dX0_init_19 (by decide) rfl ?_
  refine n_iload_n (j := 1) (q := 21) rfl dX0_init_20 rfl ?_
  refine n_bipush (q := 23) (by decide) dX0_init_21 rfl ?_
  refine n_icmp_ge (tgt := 45) (q := 26) dX0_init_23 (by decide) rfl (by omega) (by omega) (fun h => absurd h (by decide)) (fun _ => ?_)
  refine n_aload_n (j := 0) (q := 27) rfl dX0_init_26 rfl ?_
  refine n_get (jj := 0) (fs := [aI 0, aR (d + 1)]) (v := aR (d + 1)) (q := 30) dX0_init_27 fl_X0_17 rfl rfl rfl rfl ?_
  refine n_iload_n (j := 1) (q := 31) rfl dX0_init_30 rfl ?_
  refine n_new (ci := 4) (C := RX4) (T := TX4) (N := 6) (fs := [aI 0, aI 0, aI 0, aI 0, aI 0, aU]) (q := 34) dX0_init_31 rfl (gw_in (tb_at 150 (by decide +kernel)) rfl) (gw_in (tb_at 106 (by decide +kernel)) rfl) (gw_in (tb_at 84 (by decide +kernel)) rfl) dfs_4 rfl (by show d + 2 < 128; omega) (by decide) (by decide) ?_
  show VN _ _ _ _ _ _ 34 [aR d, aI 0] [aR (d + 2), aI 0, aR (d + 1)] (([cO 0 [aI 0, aR (d + 1)], cQ 4 8 (fun _ => none)]) ++ [cO 4 [aI 0, aI 0, aI 0, aI 0, aI 0, aU]], 2, 14)
  refine n_dup (q := 35) rfl dX0_init_34 rfl ?_
  refine n_ctorN (host := "StackLab") (M := mX4_init) (q := 38) (st := [aR (d + 2), aI 0, aR (d + 1)]) (pd := (d + 2)) (mc := 1) (ms := 100) (as := []) (es0 := [cO 0 [aI 0, aR (d + 1)], cQ 4 8 (fun _ => none)]) (fin := setupC (d + 2)) dX0_init_35 (List.mem_filter.mpr ⟨tb_at 152 (by decide +kernel), rfl⟩) miX4 (by decide) (by decide) rfl (by show d + (2 + 2) ≤ 128; omega) rfl rfl (Nat.le_of_ble_eq_true rfl) (c_X4_init (d + 2)  (by omega)) rfl ?_
  show VN _ _ _ _ _ _ 38 [aR d, aI 0] [aR (d + 2), aI 0, aR (d + 1)] ([cO 0 [aI 0, aR (d + 1)], cQ 4 8 (fun _ => none), cO 4 [aI 2, aI 3, aI 0, aI 1, aI 0, aR (d + 3)], cN 0 100 (fun _ => 0)], 3, 114)
  refine n_aast (jj := 1) (jk := 2) (n := 8) (i := 0) (vs := [aI 2, aI 3, aI 0, aI 1, aI 0, aR (d + 3)]) (q := 39) dX0_init_38 rfl rfl rfl rfl (by decide) (by decide) (by decide) rfl ?_
  show VN _ _ _ _ _ _ 39 [aR d, aI 0] [] ([cO 0 [aI 0, aR (d + 1)], cQ 4 8 (va_up (fun _ => none) 0 (some (d + 2))), cO 4 [aI 2, aI 3, aI 0, aI 1, aI 0, aR (d + 3)], cN 0 100 (fun _ => 0)], 3, 114)
  refine n_iinc1 (q := 42) rfl dX0_init_39 (by decide) rfl ?_
  show VN _ _ _ _ _ _ 42 [aR d, aI 1] [] ([cO 0 [aI 0, aR (d + 1)], cQ 4 8 (va_up (fun _ => none) 0 (some (d + 2))), cO 4 [aI 2, aI 3, aI 0, aI 1, aI 0, aR (d + 3)], cN 0 100 (fun _ => 0)], 3, 114)
  refine n_goto (q := 20) dX0_init_42 (by decide) ?_
  refine n_iload_n (j := 1) (q := 21) rfl dX0_init_20 rfl ?_
  refine n_bipush (q := 23) (by decide) dX0_init_21 rfl ?_
  refine n_icmp_ge (tgt := 45) (q := 26) dX0_init_23 (by decide) rfl (by omega) (by omega) (fun h => absurd h (by decide)) (fun _ => ?_)
  refine n_aload_n (j := 0) (q := 27) rfl dX0_init_26 rfl ?_
  refine n_get (jj := 0) (fs := [aI 0, aR (d + 1)]) (v := aR (d + 1)) (q := 30) dX0_init_27 fl_X0_17 rfl rfl rfl rfl ?_
  refine n_iload_n (j := 1) (q := 31) rfl dX0_init_30 rfl ?_
  refine n_new (ci := 4) (C := RX4) (T := TX4) (N := 6) (fs := [aI 0, aI 0, aI 0, aI 0, aI 0, aU]) (q := 34) dX0_init_31 rfl (gw_in (tb_at 150 (by decide +kernel)) rfl) (gw_in (tb_at 106 (by decide +kernel)) rfl) (gw_in (tb_at 84 (by decide +kernel)) rfl) dfs_4 rfl (by show d + 4 < 128; omega) (by decide) (by decide) ?_
  show VN _ _ _ _ _ _ 34 [aR d, aI 1] [aR (d + 4), aI 1, aR (d + 1)] (([cO 0 [aI 0, aR (d + 1)], cQ 4 8 (va_up (fun _ => none) 0 (some (d + 2))), cO 4 [aI 2, aI 3, aI 0, aI 1, aI 0, aR (d + 3)], cN 0 100 (fun _ => 0)]) ++ [cO 4 [aI 0, aI 0, aI 0, aI 0, aI 0, aU]], 4, 120)
  refine n_dup (q := 35) rfl dX0_init_34 rfl ?_
  refine n_ctorN (host := "StackLab") (M := mX4_init) (q := 38) (st := [aR (d + 4), aI 1, aR (d + 1)]) (pd := (d + 4)) (mc := 1) (ms := 100) (as := []) (es0 := [cO 0 [aI 0, aR (d + 1)], cQ 4 8 (va_up (fun _ => none) 0 (some (d + 2))), cO 4 [aI 2, aI 3, aI 0, aI 1, aI 0, aR (d + 3)], cN 0 100 (fun _ => 0)]) (fin := setupC (d + 4)) dX0_init_35 (List.mem_filter.mpr ⟨tb_at 152 (by decide +kernel), rfl⟩) miX4 (by decide) (by decide) rfl (by show d + (4 + 2) ≤ 128; omega) rfl rfl (Nat.le_of_ble_eq_true rfl) (c_X4_init (d + 4)  (by omega)) rfl ?_
  show VN _ _ _ _ _ _ 38 [aR d, aI 1] [aR (d + 4), aI 1, aR (d + 1)] ([cO 0 [aI 0, aR (d + 1)], cQ 4 8 (va_up (fun _ => none) 0 (some (d + 2))), cO 4 [aI 2, aI 3, aI 0, aI 1, aI 0, aR (d + 3)], cN 0 100 (fun _ => 0), cO 4 [aI 2, aI 3, aI 0, aI 1, aI 0, aR (d + 5)], cN 0 100 (fun _ => 0)], 5, 220)
  refine n_aast (jj := 1) (jk := 4) (n := 8) (i := 1) (vs := [aI 2, aI 3, aI 0, aI 1, aI 0, aR (d + 5)]) (q := 39) dX0_init_38 rfl rfl rfl rfl (by decide) (by decide) (by decide) rfl ?_
  show VN _ _ _ _ _ _ 39 [aR d, aI 1] [] ([cO 0 [aI 0, aR (d + 1)], cQ 4 8 (va_up (va_up (fun _ => none) 0 (some (d + 2))) 1 (some (d + 4))), cO 4 [aI 2, aI 3, aI 0, aI 1, aI 0, aR (d + 3)], cN 0 100 (fun _ => 0), cO 4 [aI 2, aI 3, aI 0, aI 1, aI 0, aR (d + 5)], cN 0 100 (fun _ => 0)], 5, 220)
  refine n_iinc1 (q := 42) rfl dX0_init_39 (by decide) rfl ?_
  show VN _ _ _ _ _ _ 42 [aR d, aI 2] [] ([cO 0 [aI 0, aR (d + 1)], cQ 4 8 (va_up (va_up (fun _ => none) 0 (some (d + 2))) 1 (some (d + 4))), cO 4 [aI 2, aI 3, aI 0, aI 1, aI 0, aR (d + 3)], cN 0 100 (fun _ => 0), cO 4 [aI 2, aI 3, aI 0, aI 1, aI 0, aR (d + 5)], cN 0 100 (fun _ => 0)], 5, 220)
  refine n_goto (q := 20) dX0_init_42 (by decide) ?_
  refine n_iload_n (j := 1) (q := 21) rfl dX0_init_20 rfl ?_
  refine n_bipush (q := 23) (by decide) dX0_init_21 rfl ?_
  refine n_icmp_ge (tgt := 45) (q := 26) dX0_init_23 (by decide) rfl (by omega) (by omega) (fun h => absurd h (by decide)) (fun _ => ?_)
  refine n_aload_n (j := 0) (q := 27) rfl dX0_init_26 rfl ?_
  refine n_get (jj := 0) (fs := [aI 0, aR (d + 1)]) (v := aR (d + 1)) (q := 30) dX0_init_27 fl_X0_17 rfl rfl rfl rfl ?_
  refine n_iload_n (j := 1) (q := 31) rfl dX0_init_30 rfl ?_
  refine n_new (ci := 4) (C := RX4) (T := TX4) (N := 6) (fs := [aI 0, aI 0, aI 0, aI 0, aI 0, aU]) (q := 34) dX0_init_31 rfl (gw_in (tb_at 150 (by decide +kernel)) rfl) (gw_in (tb_at 106 (by decide +kernel)) rfl) (gw_in (tb_at 84 (by decide +kernel)) rfl) dfs_4 rfl (by show d + 6 < 128; omega) (by decide) (by decide) ?_
  show VN _ _ _ _ _ _ 34 [aR d, aI 2] [aR (d + 6), aI 2, aR (d + 1)] (([cO 0 [aI 0, aR (d + 1)], cQ 4 8 (va_up (va_up (fun _ => none) 0 (some (d + 2))) 1 (some (d + 4))), cO 4 [aI 2, aI 3, aI 0, aI 1, aI 0, aR (d + 3)], cN 0 100 (fun _ => 0), cO 4 [aI 2, aI 3, aI 0, aI 1, aI 0, aR (d + 5)], cN 0 100 (fun _ => 0)]) ++ [cO 4 [aI 0, aI 0, aI 0, aI 0, aI 0, aU]], 6, 226)
  refine n_dup (q := 35) rfl dX0_init_34 rfl ?_
  refine n_ctorN (host := "StackLab") (M := mX4_init) (q := 38) (st := [aR (d + 6), aI 2, aR (d + 1)]) (pd := (d + 6)) (mc := 1) (ms := 100) (as := []) (es0 := [cO 0 [aI 0, aR (d + 1)], cQ 4 8 (va_up (va_up (fun _ => none) 0 (some (d + 2))) 1 (some (d + 4))), cO 4 [aI 2, aI 3, aI 0, aI 1, aI 0, aR (d + 3)], cN 0 100 (fun _ => 0), cO 4 [aI 2, aI 3, aI 0, aI 1, aI 0, aR (d + 5)], cN 0 100 (fun _ => 0)]) (fin := setupC (d + 6)) dX0_init_35 (List.mem_filter.mpr ⟨tb_at 152 (by decide +kernel), rfl⟩) miX4 (by decide) (by decide) rfl (by show d + (6 + 2) ≤ 128; omega) rfl rfl (Nat.le_of_ble_eq_true rfl) (c_X4_init (d + 6)  (by omega)) rfl ?_
  show VN _ _ _ _ _ _ 38 [aR d, aI 2] [aR (d + 6), aI 2, aR (d + 1)] ([cO 0 [aI 0, aR (d + 1)], cQ 4 8 (va_up (va_up (fun _ => none) 0 (some (d + 2))) 1 (some (d + 4))), cO 4 [aI 2, aI 3, aI 0, aI 1, aI 0, aR (d + 3)], cN 0 100 (fun _ => 0), cO 4 [aI 2, aI 3, aI 0, aI 1, aI 0, aR (d + 5)], cN 0 100 (fun _ => 0), cO 4 [aI 2, aI 3, aI 0, aI 1, aI 0, aR (d + 7)], cN 0 100 (fun _ => 0)], 7, 326)
  refine n_aast (jj := 1) (jk := 6) (n := 8) (i := 2) (vs := [aI 2, aI 3, aI 0, aI 1, aI 0, aR (d + 7)]) (q := 39) dX0_init_38 rfl rfl rfl rfl (by decide) (by decide) (by decide) rfl ?_
  show VN _ _ _ _ _ _ 39 [aR d, aI 2] [] ([cO 0 [aI 0, aR (d + 1)], cQ 4 8 (va_up (va_up (va_up (fun _ => none) 0 (some (d + 2))) 1 (some (d + 4))) 2 (some (d + 6))), cO 4 [aI 2, aI 3, aI 0, aI 1, aI 0, aR (d + 3)], cN 0 100 (fun _ => 0), cO 4 [aI 2, aI 3, aI 0, aI 1, aI 0, aR (d + 5)], cN 0 100 (fun _ => 0), cO 4 [aI 2, aI 3, aI 0, aI 1, aI 0, aR (d + 7)], cN 0 100 (fun _ => 0)], 7, 326)
  refine n_iinc1 (q := 42) rfl dX0_init_39 (by decide) rfl ?_
  show VN _ _ _ _ _ _ 42 [aR d, aI 3] [] ([cO 0 [aI 0, aR (d + 1)], cQ 4 8 (va_up (va_up (va_up (fun _ => none) 0 (some (d + 2))) 1 (some (d + 4))) 2 (some (d + 6))), cO 4 [aI 2, aI 3, aI 0, aI 1, aI 0, aR (d + 3)], cN 0 100 (fun _ => 0), cO 4 [aI 2, aI 3, aI 0, aI 1, aI 0, aR (d + 5)], cN 0 100 (fun _ => 0), cO 4 [aI 2, aI 3, aI 0, aI 1, aI 0, aR (d + 7)], cN 0 100 (fun _ => 0)], 7, 326)
  refine n_goto (q := 20) dX0_init_42 (by decide) ?_
  refine n_iload_n (j := 1) (q := 21) rfl dX0_init_20 rfl ?_
  refine n_bipush (q := 23) (by decide) dX0_init_21 rfl ?_
  refine n_icmp_ge (tgt := 45) (q := 26) dX0_init_23 (by decide) rfl (by omega) (by omega) (fun h => absurd h (by decide)) (fun _ => ?_)
  refine n_aload_n (j := 0) (q := 27) rfl dX0_init_26 rfl ?_
  refine n_get (jj := 0) (fs := [aI 0, aR (d + 1)]) (v := aR (d + 1)) (q := 30) dX0_init_27 fl_X0_17 rfl rfl rfl rfl ?_
  refine n_iload_n (j := 1) (q := 31) rfl dX0_init_30 rfl ?_
  refine n_new (ci := 4) (C := RX4) (T := TX4) (N := 6) (fs := [aI 0, aI 0, aI 0, aI 0, aI 0, aU]) (q := 34) dX0_init_31 rfl (gw_in (tb_at 150 (by decide +kernel)) rfl) (gw_in (tb_at 106 (by decide +kernel)) rfl) (gw_in (tb_at 84 (by decide +kernel)) rfl) dfs_4 rfl (by show d + 8 < 128; omega) (by decide) (by decide) ?_
  show VN _ _ _ _ _ _ 34 [aR d, aI 3] [aR (d + 8), aI 3, aR (d + 1)] (([cO 0 [aI 0, aR (d + 1)], cQ 4 8 (va_up (va_up (va_up (fun _ => none) 0 (some (d + 2))) 1 (some (d + 4))) 2 (some (d + 6))), cO 4 [aI 2, aI 3, aI 0, aI 1, aI 0, aR (d + 3)], cN 0 100 (fun _ => 0), cO 4 [aI 2, aI 3, aI 0, aI 1, aI 0, aR (d + 5)], cN 0 100 (fun _ => 0), cO 4 [aI 2, aI 3, aI 0, aI 1, aI 0, aR (d + 7)], cN 0 100 (fun _ => 0)]) ++ [cO 4 [aI 0, aI 0, aI 0, aI 0, aI 0, aU]], 8, 332)
  refine n_dup (q := 35) rfl dX0_init_34 rfl ?_
  refine n_ctorN (host := "StackLab") (M := mX4_init) (q := 38) (st := [aR (d + 8), aI 3, aR (d + 1)]) (pd := (d + 8)) (mc := 1) (ms := 100) (as := []) (es0 := [cO 0 [aI 0, aR (d + 1)], cQ 4 8 (va_up (va_up (va_up (fun _ => none) 0 (some (d + 2))) 1 (some (d + 4))) 2 (some (d + 6))), cO 4 [aI 2, aI 3, aI 0, aI 1, aI 0, aR (d + 3)], cN 0 100 (fun _ => 0), cO 4 [aI 2, aI 3, aI 0, aI 1, aI 0, aR (d + 5)], cN 0 100 (fun _ => 0), cO 4 [aI 2, aI 3, aI 0, aI 1, aI 0, aR (d + 7)], cN 0 100 (fun _ => 0)]) (fin := setupC (d + 8)) dX0_init_35 (List.mem_filter.mpr ⟨tb_at 152 (by decide +kernel), rfl⟩) miX4 (by decide) (by decide) rfl (by show d + (8 + 2) ≤ 128; omega) rfl rfl (Nat.le_of_ble_eq_true rfl) (c_X4_init (d + 8)  (by omega)) rfl ?_
  show VN _ _ _ _ _ _ 38 [aR d, aI 3] [aR (d + 8), aI 3, aR (d + 1)] ([cO 0 [aI 0, aR (d + 1)], cQ 4 8 (va_up (va_up (va_up (fun _ => none) 0 (some (d + 2))) 1 (some (d + 4))) 2 (some (d + 6))), cO 4 [aI 2, aI 3, aI 0, aI 1, aI 0, aR (d + 3)], cN 0 100 (fun _ => 0), cO 4 [aI 2, aI 3, aI 0, aI 1, aI 0, aR (d + 5)], cN 0 100 (fun _ => 0), cO 4 [aI 2, aI 3, aI 0, aI 1, aI 0, aR (d + 7)], cN 0 100 (fun _ => 0), cO 4 [aI 2, aI 3, aI 0, aI 1, aI 0, aR (d + 9)], cN 0 100 (fun _ => 0)], 9, 432)
  refine n_aast (jj := 1) (jk := 8) (n := 8) (i := 3) (vs := [aI 2, aI 3, aI 0, aI 1, aI 0, aR (d + 9)]) (q := 39) dX0_init_38 rfl rfl rfl rfl (by decide) (by decide) (by decide) rfl ?_
  show VN _ _ _ _ _ _ 39 [aR d, aI 3] [] ([cO 0 [aI 0, aR (d + 1)], cQ 4 8 (va_up (va_up (va_up (va_up (fun _ => none) 0 (some (d + 2))) 1 (some (d + 4))) 2 (some (d + 6))) 3 (some (d + 8))), cO 4 [aI 2, aI 3, aI 0, aI 1, aI 0, aR (d + 3)], cN 0 100 (fun _ => 0), cO 4 [aI 2, aI 3, aI 0, aI 1, aI 0, aR (d + 5)], cN 0 100 (fun _ => 0), cO 4 [aI 2, aI 3, aI 0, aI 1, aI 0, aR (d + 7)], cN 0 100 (fun _ => 0), cO 4 [aI 2, aI 3, aI 0, aI 1, aI 0, aR (d + 9)], cN 0 100 (fun _ => 0)], 9, 432)
  refine n_iinc1 (q := 42) rfl dX0_init_39 (by decide) rfl ?_
  show VN _ _ _ _ _ _ 42 [aR d, aI 4] [] ([cO 0 [aI 0, aR (d + 1)], cQ 4 8 (va_up (va_up (va_up (va_up (fun _ => none) 0 (some (d + 2))) 1 (some (d + 4))) 2 (some (d + 6))) 3 (some (d + 8))), cO 4 [aI 2, aI 3, aI 0, aI 1, aI 0, aR (d + 3)], cN 0 100 (fun _ => 0), cO 4 [aI 2, aI 3, aI 0, aI 1, aI 0, aR (d + 5)], cN 0 100 (fun _ => 0), cO 4 [aI 2, aI 3, aI 0, aI 1, aI 0, aR (d + 7)], cN 0 100 (fun _ => 0), cO 4 [aI 2, aI 3, aI 0, aI 1, aI 0, aR (d + 9)], cN 0 100 (fun _ => 0)], 9, 432)
  refine n_goto (q := 20) dX0_init_42 (by decide) ?_
  refine n_iload_n (j := 1) (q := 21) rfl dX0_init_20 rfl ?_
  refine n_bipush (q := 23) (by decide) dX0_init_21 rfl ?_
  refine n_icmp_ge (tgt := 45) (q := 26) dX0_init_23 (by decide) rfl (by omega) (by omega) (fun h => absurd h (by decide)) (fun _ => ?_)
  refine n_aload_n (j := 0) (q := 27) rfl dX0_init_26 rfl ?_
  refine n_get (jj := 0) (fs := [aI 0, aR (d + 1)]) (v := aR (d + 1)) (q := 30) dX0_init_27 fl_X0_17 rfl rfl rfl rfl ?_
  refine n_iload_n (j := 1) (q := 31) rfl dX0_init_30 rfl ?_
  refine n_new (ci := 4) (C := RX4) (T := TX4) (N := 6) (fs := [aI 0, aI 0, aI 0, aI 0, aI 0, aU]) (q := 34) dX0_init_31 rfl (gw_in (tb_at 150 (by decide +kernel)) rfl) (gw_in (tb_at 106 (by decide +kernel)) rfl) (gw_in (tb_at 84 (by decide +kernel)) rfl) dfs_4 rfl (by show d + 10 < 128; omega) (by decide) (by decide) ?_
  show VN _ _ _ _ _ _ 34 [aR d, aI 4] [aR (d + 10), aI 4, aR (d + 1)] (([cO 0 [aI 0, aR (d + 1)], cQ 4 8 (va_up (va_up (va_up (va_up (fun _ => none) 0 (some (d + 2))) 1 (some (d + 4))) 2 (some (d + 6))) 3 (some (d + 8))), cO 4 [aI 2, aI 3, aI 0, aI 1, aI 0, aR (d + 3)], cN 0 100 (fun _ => 0), cO 4 [aI 2, aI 3, aI 0, aI 1, aI 0, aR (d + 5)], cN 0 100 (fun _ => 0), cO 4 [aI 2, aI 3, aI 0, aI 1, aI 0, aR (d + 7)], cN 0 100 (fun _ => 0), cO 4 [aI 2, aI 3, aI 0, aI 1, aI 0, aR (d + 9)], cN 0 100 (fun _ => 0)]) ++ [cO 4 [aI 0, aI 0, aI 0, aI 0, aI 0, aU]], 10, 438)
  refine n_dup (q := 35) rfl dX0_init_34 rfl ?_
  refine n_ctorN (host := "StackLab") (M := mX4_init) (q := 38) (st := [aR (d + 10), aI 4, aR (d + 1)]) (pd := (d + 10)) (mc := 1) (ms := 100) (as := []) (es0 := [cO 0 [aI 0, aR (d + 1)], cQ 4 8 (va_up (va_up (va_up (va_up (fun _ => none) 0 (some (d + 2))) 1 (some (d + 4))) 2 (some (d + 6))) 3 (some (d + 8))), cO 4 [aI 2, aI 3, aI 0, aI 1, aI 0, aR (d + 3)], cN 0 100 (fun _ => 0), cO 4 [aI 2, aI 3, aI 0, aI 1, aI 0, aR (d + 5)], cN 0 100 (fun _ => 0), cO 4 [aI 2, aI 3, aI 0, aI 1, aI 0, aR (d + 7)], cN 0 100 (fun _ => 0), cO 4 [aI 2, aI 3, aI 0, aI 1, aI 0, aR (d + 9)], cN 0 100 (fun _ => 0)]) (fin := setupC (d + 10)) dX0_init_35 (List.mem_filter.mpr ⟨tb_at 152 (by decide +kernel), rfl⟩) miX4 (by decide) (by decide) rfl (by show d + (10 + 2) ≤ 128; omega) rfl rfl (Nat.le_of_ble_eq_true rfl) (c_X4_init (d + 10)  (by omega)) rfl ?_
  show VN _ _ _ _ _ _ 38 [aR d, aI 4] [aR (d + 10), aI 4, aR (d + 1)] ([cO 0 [aI 0, aR (d + 1)], cQ 4 8 (va_up (va_up (va_up (va_up (fun _ => none) 0 (some (d + 2))) 1 (some (d + 4))) 2 (some (d + 6))) 3 (some (d + 8))), cO 4 [aI 2, aI 3, aI 0, aI 1, aI 0, aR (d + 3)], cN 0 100 (fun _ => 0), cO 4 [aI 2, aI 3, aI 0, aI 1, aI 0, aR (d + 5)], cN 0 100 (fun _ => 0), cO 4 [aI 2, aI 3, aI 0, aI 1, aI 0, aR (d + 7)], cN 0 100 (fun _ => 0), cO 4 [aI 2, aI 3, aI 0, aI 1, aI 0, aR (d + 9)], cN 0 100 (fun _ => 0), cO 4 [aI 2, aI 3, aI 0, aI 1, aI 0, aR (d + 11)], cN 0 100 (fun _ => 0)], 11, 538)
  refine n_aast (jj := 1) (jk := 10) (n := 8) (i := 4) (vs := [aI 2, aI 3, aI 0, aI 1, aI 0, aR (d + 11)]) (q := 39) dX0_init_38 rfl rfl rfl rfl (by decide) (by decide) (by decide) rfl ?_
  show VN _ _ _ _ _ _ 39 [aR d, aI 4] [] ([cO 0 [aI 0, aR (d + 1)], cQ 4 8 (va_up (va_up (va_up (va_up (va_up (fun _ => none) 0 (some (d + 2))) 1 (some (d + 4))) 2 (some (d + 6))) 3 (some (d + 8))) 4 (some (d + 10))), cO 4 [aI 2, aI 3, aI 0, aI 1, aI 0, aR (d + 3)], cN 0 100 (fun _ => 0), cO 4 [aI 2, aI 3, aI 0, aI 1, aI 0, aR (d + 5)], cN 0 100 (fun _ => 0), cO 4 [aI 2, aI 3, aI 0, aI 1, aI 0, aR (d + 7)], cN 0 100 (fun _ => 0), cO 4 [aI 2, aI 3, aI 0, aI 1, aI 0, aR (d + 9)], cN 0 100 (fun _ => 0), cO 4 [aI 2, aI 3, aI 0, aI 1, aI 0, aR (d + 11)], cN 0 100 (fun _ => 0)], 11, 538)
  refine n_iinc1 (q := 42) rfl dX0_init_39 (by decide) rfl ?_
  show VN _ _ _ _ _ _ 42 [aR d, aI 5] [] ([cO 0 [aI 0, aR (d + 1)], cQ 4 8 (va_up (va_up (va_up (va_up (va_up (fun _ => none) 0 (some (d + 2))) 1 (some (d + 4))) 2 (some (d + 6))) 3 (some (d + 8))) 4 (some (d + 10))), cO 4 [aI 2, aI 3, aI 0, aI 1, aI 0, aR (d + 3)], cN 0 100 (fun _ => 0), cO 4 [aI 2, aI 3, aI 0, aI 1, aI 0, aR (d + 5)], cN 0 100 (fun _ => 0), cO 4 [aI 2, aI 3, aI 0, aI 1, aI 0, aR (d + 7)], cN 0 100 (fun _ => 0), cO 4 [aI 2, aI 3, aI 0, aI 1, aI 0, aR (d + 9)], cN 0 100 (fun _ => 0), cO 4 [aI 2, aI 3, aI 0, aI 1, aI 0, aR (d + 11)], cN 0 100 (fun _ => 0)], 11, 538)
  refine n_goto (q := 20) dX0_init_42 (by decide) ?_
  refine n_iload_n (j := 1) (q := 21) rfl dX0_init_20 rfl ?_
  refine n_bipush (q := 23) (by decide) dX0_init_21 rfl ?_
  refine n_icmp_ge (tgt := 45) (q := 26) dX0_init_23 (by decide) rfl (by omega) (by omega) (fun h => absurd h (by decide)) (fun _ => ?_)
  refine n_aload_n (j := 0) (q := 27) rfl dX0_init_26 rfl ?_
  refine n_get (jj := 0) (fs := [aI 0, aR (d + 1)]) (v := aR (d + 1)) (q := 30) dX0_init_27 fl_X0_17 rfl rfl rfl rfl ?_
  refine n_iload_n (j := 1) (q := 31) rfl dX0_init_30 rfl ?_
  refine n_new (ci := 4) (C := RX4) (T := TX4) (N := 6) (fs := [aI 0, aI 0, aI 0, aI 0, aI 0, aU]) (q := 34) dX0_init_31 rfl (gw_in (tb_at 150 (by decide +kernel)) rfl) (gw_in (tb_at 106 (by decide +kernel)) rfl) (gw_in (tb_at 84 (by decide +kernel)) rfl) dfs_4 rfl (by show d + 12 < 128; omega) (by decide) (by decide) ?_
  show VN _ _ _ _ _ _ 34 [aR d, aI 5] [aR (d + 12), aI 5, aR (d + 1)] (([cO 0 [aI 0, aR (d + 1)], cQ 4 8 (va_up (va_up (va_up (va_up (va_up (fun _ => none) 0 (some (d + 2))) 1 (some (d + 4))) 2 (some (d + 6))) 3 (some (d + 8))) 4 (some (d + 10))), cO 4 [aI 2, aI 3, aI 0, aI 1, aI 0, aR (d + 3)], cN 0 100 (fun _ => 0), cO 4 [aI 2, aI 3, aI 0, aI 1, aI 0, aR (d + 5)], cN 0 100 (fun _ => 0), cO 4 [aI 2, aI 3, aI 0, aI 1, aI 0, aR (d + 7)], cN 0 100 (fun _ => 0), cO 4 [aI 2, aI 3, aI 0, aI 1, aI 0, aR (d + 9)], cN 0 100 (fun _ => 0), cO 4 [aI 2, aI 3, aI 0, aI 1, aI 0, aR (d + 11)], cN 0 100 (fun _ => 0)]) ++ [cO 4 [aI 0, aI 0, aI 0, aI 0, aI 0, aU]], 12, 544)
  refine n_dup (q := 35) rfl dX0_init_34 rfl ?_
  refine n_ctorN (host := "StackLab") (M := mX4_init) (q := 38) (st := [aR (d + 12), aI 5, aR (d + 1)]) (pd := (d + 12)) (mc := 1) (ms := 100) (as := []) (es0 := [cO 0 [aI 0, aR (d + 1)], cQ 4 8 (va_up (va_up (va_up (va_up (va_up (fun _ => none) 0 (some (d + 2))) 1 (some (d + 4))) 2 (some (d + 6))) 3 (some (d + 8))) 4 (some (d + 10))), cO 4 [aI 2, aI 3, aI 0, aI 1, aI 0, aR (d + 3)], cN 0 100 (fun _ => 0), cO 4 [aI 2, aI 3, aI 0, aI 1, aI 0, aR (d + 5)], cN 0 100 (fun _ => 0), cO 4 [aI 2, aI 3, aI 0, aI 1, aI 0, aR (d + 7)], cN 0 100 (fun _ => 0), cO 4 [aI 2, aI 3, aI 0, aI 1, aI 0, aR (d + 9)], cN 0 100 (fun _ => 0), cO 4 [aI 2, aI 3, aI 0, aI 1, aI 0, aR (d + 11)], cN 0 100 (fun _ => 0)]) (fin := setupC (d + 12)) dX0_init_35 (List.mem_filter.mpr ⟨tb_at 152 (by decide +kernel), rfl⟩) miX4 (by decide) (by decide) rfl (by show d + (12 + 2) ≤ 128; omega) rfl rfl (Nat.le_of_ble_eq_true rfl) (c_X4_init (d + 12)  (by omega)) rfl ?_
  show VN _ _ _ _ _ _ 38 [aR d, aI 5] [aR (d + 12), aI 5, aR (d + 1)] ([cO 0 [aI 0, aR (d + 1)], cQ 4 8 (va_up (va_up (va_up (va_up (va_up (fun _ => none) 0 (some (d + 2))) 1 (some (d + 4))) 2 (some (d + 6))) 3 (some (d + 8))) 4 (some (d + 10))), cO 4 [aI 2, aI 3, aI 0, aI 1, aI 0, aR (d + 3)], cN 0 100 (fun _ => 0), cO 4 [aI 2, aI 3, aI 0, aI 1, aI 0, aR (d + 5)], cN 0 100 (fun _ => 0), cO 4 [aI 2, aI 3, aI 0, aI 1, aI 0, aR (d + 7)], cN 0 100 (fun _ => 0), cO 4 [aI 2, aI 3, aI 0, aI 1, aI 0, aR (d + 9)], cN 0 100 (fun _ => 0), cO 4 [aI 2, aI 3, aI 0, aI 1, aI 0, aR (d + 11)], cN 0 100 (fun _ => 0), cO 4 [aI 2, aI 3, aI 0, aI 1, aI 0, aR (d + 13)], cN 0 100 (fun _ => 0)], 13, 644)
  refine n_aast (jj := 1) (jk := 12) (n := 8) (i := 5) (vs := [aI 2, aI 3, aI 0, aI 1, aI 0, aR (d + 13)]) (q := 39) dX0_init_38 rfl rfl rfl rfl (by decide) (by decide) (by decide) rfl ?_
  show VN _ _ _ _ _ _ 39 [aR d, aI 5] [] ([cO 0 [aI 0, aR (d + 1)], cQ 4 8 (va_up (va_up (va_up (va_up (va_up (va_up (fun _ => none) 0 (some (d + 2))) 1 (some (d + 4))) 2 (some (d + 6))) 3 (some (d + 8))) 4 (some (d + 10))) 5 (some (d + 12))), cO 4 [aI 2, aI 3, aI 0, aI 1, aI 0, aR (d + 3)], cN 0 100 (fun _ => 0), cO 4 [aI 2, aI 3, aI 0, aI 1, aI 0, aR (d + 5)], cN 0 100 (fun _ => 0), cO 4 [aI 2, aI 3, aI 0, aI 1, aI 0, aR (d + 7)], cN 0 100 (fun _ => 0), cO 4 [aI 2, aI 3, aI 0, aI 1, aI 0, aR (d + 9)], cN 0 100 (fun _ => 0), cO 4 [aI 2, aI 3, aI 0, aI 1, aI 0, aR (d + 11)], cN 0 100 (fun _ => 0), cO 4 [aI 2, aI 3, aI 0, aI 1, aI 0, aR (d + 13)], cN 0 100 (fun _ => 0)], 13, 644)
  refine n_iinc1 (q := 42) rfl dX0_init_39 (by decide) rfl ?_
  show VN _ _ _ _ _ _ 42 [aR d, aI 6] [] ([cO 0 [aI 0, aR (d + 1)], cQ 4 8 (va_up (va_up (va_up (va_up (va_up (va_up (fun _ => none) 0 (some (d + 2))) 1 (some (d + 4))) 2 (some (d + 6))) 3 (some (d + 8))) 4 (some (d + 10))) 5 (some (d + 12))), cO 4 [aI 2, aI 3, aI 0, aI 1, aI 0, aR (d + 3)], cN 0 100 (fun _ => 0), cO 4 [aI 2, aI 3, aI 0, aI 1, aI 0, aR (d + 5)], cN 0 100 (fun _ => 0), cO 4 [aI 2, aI 3, aI 0, aI 1, aI 0, aR (d + 7)], cN 0 100 (fun _ => 0), cO 4 [aI 2, aI 3, aI 0, aI 1, aI 0, aR (d + 9)], cN 0 100 (fun _ => 0), cO 4 [aI 2, aI 3, aI 0, aI 1, aI 0, aR (d + 11)], cN 0 100 (fun _ => 0), cO 4 [aI 2, aI 3, aI 0, aI 1, aI 0, aR (d + 13)], cN 0 100 (fun _ => 0)], 13, 644)
  refine n_goto (q := 20) dX0_init_42 (by decide) ?_
  refine n_iload_n (j := 1) (q := 21) rfl dX0_init_20 rfl ?_
  refine n_bipush (q := 23) (by decide) dX0_init_21 rfl ?_
  refine n_icmp_ge (tgt := 45) (q := 26) dX0_init_23 (by decide) rfl (by omega) (by omega) (fun h => absurd h (by decide)) (fun _ => ?_)
  refine n_aload_n (j := 0) (q := 27) rfl dX0_init_26 rfl ?_
  refine n_get (jj := 0) (fs := [aI 0, aR (d + 1)]) (v := aR (d + 1)) (q := 30) dX0_init_27 fl_X0_17 rfl rfl rfl rfl ?_
  refine n_iload_n (j := 1) (q := 31) rfl dX0_init_30 rfl ?_
  refine n_new (ci := 4) (C := RX4) (T := TX4) (N := 6) (fs := [aI 0, aI 0, aI 0, aI 0, aI 0, aU]) (q := 34) dX0_init_31 rfl (gw_in (tb_at 150 (by decide +kernel)) rfl) (gw_in (tb_at 106 (by decide +kernel)) rfl) (gw_in (tb_at 84 (by decide +kernel)) rfl) dfs_4 rfl (by show d + 14 < 128; omega) (by decide) (by decide) ?_
  show VN _ _ _ _ _ _ 34 [aR d, aI 6] [aR (d + 14), aI 6, aR (d + 1)] (([cO 0 [aI 0, aR (d + 1)], cQ 4 8 (va_up (va_up (va_up (va_up (va_up (va_up (fun _ => none) 0 (some (d + 2))) 1 (some (d + 4))) 2 (some (d + 6))) 3 (some (d + 8))) 4 (some (d + 10))) 5 (some (d + 12))), cO 4 [aI 2, aI 3, aI 0, aI 1, aI 0, aR (d + 3)], cN 0 100 (fun _ => 0), cO 4 [aI 2, aI 3, aI 0, aI 1, aI 0, aR (d + 5)], cN 0 100 (fun _ => 0), cO 4 [aI 2, aI 3, aI 0, aI 1, aI 0, aR (d + 7)], cN 0 100 (fun _ => 0), cO 4 [aI 2, aI 3, aI 0, aI 1, aI 0, aR (d + 9)], cN 0 100 (fun _ => 0), cO 4 [aI 2, aI 3, aI 0, aI 1, aI 0, aR (d + 11)], cN 0 100 (fun _ => 0), cO 4 [aI 2, aI 3, aI 0, aI 1, aI 0, aR (d + 13)], cN 0 100 (fun _ => 0)]) ++ [cO 4 [aI 0, aI 0, aI 0, aI 0, aI 0, aU]], 14, 650)
  refine n_dup (q := 35) rfl dX0_init_34 rfl ?_
  refine n_ctorN (host := "StackLab") (M := mX4_init) (q := 38) (st := [aR (d + 14), aI 6, aR (d + 1)]) (pd := (d + 14)) (mc := 1) (ms := 100) (as := []) (es0 := [cO 0 [aI 0, aR (d + 1)], cQ 4 8 (va_up (va_up (va_up (va_up (va_up (va_up (fun _ => none) 0 (some (d + 2))) 1 (some (d + 4))) 2 (some (d + 6))) 3 (some (d + 8))) 4 (some (d + 10))) 5 (some (d + 12))), cO 4 [aI 2, aI 3, aI 0, aI 1, aI 0, aR (d + 3)], cN 0 100 (fun _ => 0), cO 4 [aI 2, aI 3, aI 0, aI 1, aI 0, aR (d + 5)], cN 0 100 (fun _ => 0), cO 4 [aI 2, aI 3, aI 0, aI 1, aI 0, aR (d + 7)], cN 0 100 (fun _ => 0), cO 4 [aI 2, aI 3, aI 0, aI 1, aI 0, aR (d + 9)], cN 0 100 (fun _ => 0), cO 4 [aI 2, aI 3, aI 0, aI 1, aI 0, aR (d + 11)], cN 0 100 (fun _ => 0), cO 4 [aI 2, aI 3, aI 0, aI 1, aI 0, aR (d + 13)], cN 0 100 (fun _ => 0)]) (fin := setupC (d + 14)) dX0_init_35 (List.mem_filter.mpr ⟨tb_at 152 (by decide +kernel), rfl⟩) miX4 (by decide) (by decide) rfl (by show d + (14 + 2) ≤ 128; omega) rfl rfl (Nat.le_of_ble_eq_true rfl) (c_X4_init (d + 14)  (by omega)) rfl ?_
  show VN _ _ _ _ _ _ 38 [aR d, aI 6] [aR (d + 14), aI 6, aR (d + 1)] ([cO 0 [aI 0, aR (d + 1)], cQ 4 8 (va_up (va_up (va_up (va_up (va_up (va_up (fun _ => none) 0 (some (d + 2))) 1 (some (d + 4))) 2 (some (d + 6))) 3 (some (d + 8))) 4 (some (d + 10))) 5 (some (d + 12))), cO 4 [aI 2, aI 3, aI 0, aI 1, aI 0, aR (d + 3)], cN 0 100 (fun _ => 0), cO 4 [aI 2, aI 3, aI 0, aI 1, aI 0, aR (d + 5)], cN 0 100 (fun _ => 0), cO 4 [aI 2, aI 3, aI 0, aI 1, aI 0, aR (d + 7)], cN 0 100 (fun _ => 0), cO 4 [aI 2, aI 3, aI 0, aI 1, aI 0, aR (d + 9)], cN 0 100 (fun _ => 0), cO 4 [aI 2, aI 3, aI 0, aI 1, aI 0, aR (d + 11)], cN 0 100 (fun _ => 0), cO 4 [aI 2, aI 3, aI 0, aI 1, aI 0, aR (d + 13)], cN 0 100 (fun _ => 0), cO 4 [aI 2, aI 3, aI 0, aI 1, aI 0, aR (d + 15)], cN 0 100 (fun _ => 0)], 15, 750)
  refine n_aast (jj := 1) (jk := 14) (n := 8) (i := 6) (vs := [aI 2, aI 3, aI 0, aI 1, aI 0, aR (d + 15)]) (q := 39) dX0_init_38 rfl rfl rfl rfl (by decide) (by decide) (by decide) rfl ?_
  show VN _ _ _ _ _ _ 39 [aR d, aI 6] [] ([cO 0 [aI 0, aR (d + 1)], cQ 4 8 (va_up (va_up (va_up (va_up (va_up (va_up (va_up (fun _ => none) 0 (some (d + 2))) 1 (some (d + 4))) 2 (some (d + 6))) 3 (some (d + 8))) 4 (some (d + 10))) 5 (some (d + 12))) 6 (some (d + 14))), cO 4 [aI 2, aI 3, aI 0, aI 1, aI 0, aR (d + 3)], cN 0 100 (fun _ => 0), cO 4 [aI 2, aI 3, aI 0, aI 1, aI 0, aR (d + 5)], cN 0 100 (fun _ => 0), cO 4 [aI 2, aI 3, aI 0, aI 1, aI 0, aR (d + 7)], cN 0 100 (fun _ => 0), cO 4 [aI 2, aI 3, aI 0, aI 1, aI 0, aR (d + 9)], cN 0 100 (fun _ => 0), cO 4 [aI 2, aI 3, aI 0, aI 1, aI 0, aR (d + 11)], cN 0 100 (fun _ => 0), cO 4 [aI 2, aI 3, aI 0, aI 1, aI 0, aR (d + 13)], cN 0 100 (fun _ => 0), cO 4 [aI 2, aI 3, aI 0, aI 1, aI 0, aR (d + 15)], cN 0 100 (fun _ => 0)], 15, 750)
  refine n_iinc1 (q := 42) rfl dX0_init_39 (by decide) rfl ?_
  show VN _ _ _ _ _ _ 42 [aR d, aI 7] [] ([cO 0 [aI 0, aR (d + 1)], cQ 4 8 (va_up (va_up (va_up (va_up (va_up (va_up (va_up (fun _ => none) 0 (some (d + 2))) 1 (some (d + 4))) 2 (some (d + 6))) 3 (some (d + 8))) 4 (some (d + 10))) 5 (some (d + 12))) 6 (some (d + 14))), cO 4 [aI 2, aI 3, aI 0, aI 1, aI 0, aR (d + 3)], cN 0 100 (fun _ => 0), cO 4 [aI 2, aI 3, aI 0, aI 1, aI 0, aR (d + 5)], cN 0 100 (fun _ => 0), cO 4 [aI 2, aI 3, aI 0, aI 1, aI 0, aR (d + 7)], cN 0 100 (fun _ => 0), cO 4 [aI 2, aI 3, aI 0, aI 1, aI 0, aR (d + 9)], cN 0 100 (fun _ => 0), cO 4 [aI 2, aI 3, aI 0, aI 1, aI 0, aR (d + 11)], cN 0 100 (fun _ => 0), cO 4 [aI 2, aI 3, aI 0, aI 1, aI 0, aR (d + 13)], cN 0 100 (fun _ => 0), cO 4 [aI 2, aI 3, aI 0, aI 1, aI 0, aR (d + 15)], cN 0 100 (fun _ => 0)], 15, 750)
  refine n_goto (q := 20) dX0_init_42 (by decide) ?_
  refine n_iload_n (j := 1) (q := 21) rfl dX0_init_20 rfl ?_
  refine n_bipush (q := 23) (by decide) dX0_init_21 rfl ?_
  refine n_icmp_ge (tgt := 45) (q := 26) dX0_init_23 (by decide) rfl (by omega) (by omega) (fun h => absurd h (by decide)) (fun _ => ?_)
  refine n_aload_n (j := 0) (q := 27) rfl dX0_init_26 rfl ?_
  refine n_get (jj := 0) (fs := [aI 0, aR (d + 1)]) (v := aR (d + 1)) (q := 30) dX0_init_27 fl_X0_17 rfl rfl rfl rfl ?_
  refine n_iload_n (j := 1) (q := 31) rfl dX0_init_30 rfl ?_
  refine n_new (ci := 4) (C := RX4) (T := TX4) (N := 6) (fs := [aI 0, aI 0, aI 0, aI 0, aI 0, aU]) (q := 34) dX0_init_31 rfl (gw_in (tb_at 150 (by decide +kernel)) rfl) (gw_in (tb_at 106 (by decide +kernel)) rfl) (gw_in (tb_at 84 (by decide +kernel)) rfl) dfs_4 rfl (by show d + 16 < 128; omega) (by decide) (by decide) ?_
  show VN _ _ _ _ _ _ 34 [aR d, aI 7] [aR (d + 16), aI 7, aR (d + 1)] (([cO 0 [aI 0, aR (d + 1)], cQ 4 8 (va_up (va_up (va_up (va_up (va_up (va_up (va_up (fun _ => none) 0 (some (d + 2))) 1 (some (d + 4))) 2 (some (d + 6))) 3 (some (d + 8))) 4 (some (d + 10))) 5 (some (d + 12))) 6 (some (d + 14))), cO 4 [aI 2, aI 3, aI 0, aI 1, aI 0, aR (d + 3)], cN 0 100 (fun _ => 0), cO 4 [aI 2, aI 3, aI 0, aI 1, aI 0, aR (d + 5)], cN 0 100 (fun _ => 0), cO 4 [aI 2, aI 3, aI 0, aI 1, aI 0, aR (d + 7)], cN 0 100 (fun _ => 0), cO 4 [aI 2, aI 3, aI 0, aI 1, aI 0, aR (d + 9)], cN 0 100 (fun _ => 0), cO 4 [aI 2, aI 3, aI 0, aI 1, aI 0, aR (d + 11)], cN 0 100 (fun _ => 0), cO 4 [aI 2, aI 3, aI 0, aI 1, aI 0, aR (d + 13)], cN 0 100 (fun _ => 0), cO 4 [aI 2, aI 3, aI 0, aI 1, aI 0, aR (d + 15)], cN 0 100 (fun _ => 0)]) ++ [cO 4 [aI 0, aI 0, aI 0, aI 0, aI 0, aU]], 16, 756)
  refine n_dup (q := 35) rfl dX0_init_34 rfl ?_
  refine n_ctorN (host := "StackLab") (M := mX4_init) (q := 38) (st := [aR (d + 16), aI 7, aR (d + 1)]) (pd := (d + 16)) (mc := 1) (ms := 100) (as := []) (es0 := [cO 0 [aI 0, aR (d + 1)], cQ 4 8 (va_up (va_up (va_up (va_up (va_up (va_up (va_up (fun _ => none) 0 (some (d + 2))) 1 (some (d + 4))) 2 (some (d + 6))) 3 (some (d + 8))) 4 (some (d + 10))) 5 (some (d + 12))) 6 (some (d + 14))), cO 4 [aI 2, aI 3, aI 0, aI 1, aI 0, aR (d + 3)], cN 0 100 (fun _ => 0), cO 4 [aI 2, aI 3, aI 0, aI 1, aI 0, aR (d + 5)], cN 0 100 (fun _ => 0), cO 4 [aI 2, aI 3, aI 0, aI 1, aI 0, aR (d + 7)], cN 0 100 (fun _ => 0), cO 4 [aI 2, aI 3, aI 0, aI 1, aI 0, aR (d + 9)], cN 0 100 (fun _ => 0), cO 4 [aI 2, aI 3, aI 0, aI 1, aI 0, aR (d + 11)], cN 0 100 (fun _ => 0), cO 4 [aI 2, aI 3, aI 0, aI 1, aI 0, aR (d + 13)], cN 0 100 (fun _ => 0), cO 4 [aI 2, aI 3, aI 0, aI 1, aI 0, aR (d + 15)], cN 0 100 (fun _ => 0)]) (fin := setupC (d + 16)) dX0_init_35 (List.mem_filter.mpr ⟨tb_at 152 (by decide +kernel), rfl⟩) miX4 (by decide) (by decide) rfl (by show d + (16 + 2) ≤ 128; omega) rfl rfl (Nat.le_of_ble_eq_true rfl) (c_X4_init (d + 16)  (by omega)) rfl ?_
  show VN _ _ _ _ _ _ 38 [aR d, aI 7] [aR (d + 16), aI 7, aR (d + 1)] ([cO 0 [aI 0, aR (d + 1)], cQ 4 8 (va_up (va_up (va_up (va_up (va_up (va_up (va_up (fun _ => none) 0 (some (d + 2))) 1 (some (d + 4))) 2 (some (d + 6))) 3 (some (d + 8))) 4 (some (d + 10))) 5 (some (d + 12))) 6 (some (d + 14))), cO 4 [aI 2, aI 3, aI 0, aI 1, aI 0, aR (d + 3)], cN 0 100 (fun _ => 0), cO 4 [aI 2, aI 3, aI 0, aI 1, aI 0, aR (d + 5)], cN 0 100 (fun _ => 0), cO 4 [aI 2, aI 3, aI 0, aI 1, aI 0, aR (d + 7)], cN 0 100 (fun _ => 0), cO 4 [aI 2, aI 3, aI 0, aI 1, aI 0, aR (d + 9)], cN 0 100 (fun _ => 0), cO 4 [aI 2, aI 3, aI 0, aI 1, aI 0, aR (d + 11)], cN 0 100 (fun _ => 0), cO 4 [aI 2, aI 3, aI 0, aI 1, aI 0, aR (d + 13)], cN 0 100 (fun _ => 0), cO 4 [aI 2, aI 3, aI 0, aI 1, aI 0, aR (d + 15)], cN 0 100 (fun _ => 0), cO 4 [aI 2, aI 3, aI 0, aI 1, aI 0, aR (d + 17)], cN 0 100 (fun _ => 0)], 17, 856)
  refine n_aast (jj := 1) (jk := 16) (n := 8) (i := 7) (vs := [aI 2, aI 3, aI 0, aI 1, aI 0, aR (d + 17)]) (q := 39) dX0_init_38 rfl rfl rfl rfl (by decide) (by decide) (by decide) rfl ?_
  show VN _ _ _ _ _ _ 39 [aR d, aI 7] [] ([cO 0 [aI 0, aR (d + 1)], cQ 4 8 (va_up (va_up (va_up (va_up (va_up (va_up (va_up (va_up (fun _ => none) 0 (some (d + 2))) 1 (some (d + 4))) 2 (some (d + 6))) 3 (some (d + 8))) 4 (some (d + 10))) 5 (some (d + 12))) 6 (some (d + 14))) 7 (some (d + 16))), cO 4 [aI 2, aI 3, aI 0, aI 1, aI 0, aR (d + 3)], cN 0 100 (fun _ => 0), cO 4 [aI 2, aI 3, aI 0, aI 1, aI 0, aR (d + 5)], cN 0 100 (fun _ => 0), cO 4 [aI 2, aI 3, aI 0, aI 1, aI 0, aR (d + 7)], cN 0 100 (fun _ => 0), cO 4 [aI 2, aI 3, aI 0, aI 1, aI 0, aR (d + 9)], cN 0 100 (fun _ => 0), cO 4 [aI 2, aI 3, aI 0, aI 1, aI 0, aR (d + 11)], cN 0 100 (fun _ => 0), cO 4 [aI 2, aI 3, aI 0, aI 1, aI 0, aR (d + 13)], cN 0 100 (fun _ => 0), cO 4 [aI 2, aI 3, aI 0, aI 1, aI 0, aR (d + 15)], cN 0 100 (fun _ => 0), cO 4 [aI 2, aI 3, aI 0, aI 1, aI 0, aR (d + 17)], cN 0 100 (fun _ => 0)], 17, 856)
  refine n_iinc1 (q := 42) rfl dX0_init_39 (by decide) rfl ?_
  show VN _ _ _ _ _ _ 42 [aR d, aI 8] [] ([cO 0 [aI 0, aR (d + 1)], cQ 4 8 (va_up (va_up (va_up (va_up (va_up (va_up (va_up (va_up (fun _ => none) 0 (some (d + 2))) 1 (some (d + 4))) 2 (some (d + 6))) 3 (some (d + 8))) 4 (some (d + 10))) 5 (some (d + 12))) 6 (some (d + 14))) 7 (some (d + 16))), cO 4 [aI 2, aI 3, aI 0, aI 1, aI 0, aR (d + 3)], cN 0 100 (fun _ => 0), cO 4 [aI 2, aI 3, aI 0, aI 1, aI 0, aR (d + 5)], cN 0 100 (fun _ => 0), cO 4 [aI 2, aI 3, aI 0, aI 1, aI 0, aR (d + 7)], cN 0 100 (fun _ => 0), cO 4 [aI 2, aI 3, aI 0, aI 1, aI 0, aR (d + 9)], cN 0 100 (fun _ => 0), cO 4 [aI 2, aI 3, aI 0, aI 1, aI 0, aR (d + 11)], cN 0 100 (fun _ => 0), cO 4 [aI 2, aI 3, aI 0, aI 1, aI 0, aR (d + 13)], cN 0 100 (fun _ => 0), cO 4 [aI 2, aI 3, aI 0, aI 1, aI 0, aR (d + 15)], cN 0 100 (fun _ => 0), cO 4 [aI 2, aI 3, aI 0, aI 1, aI 0, aR (d + 17)], cN 0 100 (fun _ => 0)], 17, 856)
  refine n_goto (q := 20) dX0_init_42 (by decide) ?_
  refine n_iload_n (j := 1) (q := 21) rfl dX0_init_20 rfl ?_
  refine n_bipush (q := 23) (by decide) dX0_init_21 rfl ?_
  refine n_icmp_ge (tgt := 45) (q := 26) dX0_init_23 (by decide) rfl (by omega) (by omega) (fun _ => ?_) (fun h => absurd (by decide) h)
  exact n_ret dX0_init_45
