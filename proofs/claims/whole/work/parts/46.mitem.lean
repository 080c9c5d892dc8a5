/-! ===== The reference's readItem ===== -/
def MD (mem : Mem) (l : List Rl) : Prop := (1 ≤ mem 117 0 ∧ mem 117 0 ≤ 4) ∧ (1 ≤ mem 117 1 ∧ mem 117 1 ≤ 5) ∧ mem 116 19 = l.length ∧ l.length ≤ 20 ∧ l = rls (mem 127) 0 l.length ∧ (∀ i, 0 ≤ i → i < 5 * (l.length : Int) → R32 (mem 127 i)) ∧ ∀ r ∈ l, okR (mem 117 0) (mem 117 1) r
noncomputable def pI (mem : Mem) (a : Int) (l : List Rl) : Int ⊕ (Int × Rl) := pItem (mem 119) (mem 116 5) (mem 117 0) (mem 117 1) a l
def riQ (mem : Mem) (a : Int) (l : List Rl) (m : Mem) : Prop :=
  (∀ q, q ≠ 116 → q ≠ 127 → m q = mem q) ∧ (∀ j, j ≠ 16 → j ≠ 17 → j ≠ 19 → m 116 j = mem 116 j) ∧
  ((∃ f, pI mem a l = .inl f ∧ m 116 17 = f) ∨ (∃ b r, pI mem a l = .inr (b, r) ∧ m 116 17 = -6 ∧ m 116 16 = b ∧ MD m (l ++ [r])))
noncomputable def riE (mem : Mem) (a : Int) (l : List Rl) : EQ := mE (fun r m => r = aU ∧ riQ mem a l m)
/-- the six stores at the end -/
theorem riM_facts (M : Mem) (c p x q w t : Int) {m : Mem} (hm : um (um (um (um (um (um M 127 (5 * c) p) 127 (5 * c + 1) x) 127 (5 * c + 2) q) 127 (5 * c + 3) w) 127 (5 * c + 4) t) 116 19 (c + 1) = m) :
    (∀ r, r ≠ 116 → r ≠ 127 → m r = M r) ∧ (∀ j, j ≠ 19 → m 116 j = M 116 j) ∧ m 116 19 = c + 1 ∧ (∀ j, j < 5 * c ∨ 5 * c + 4 < j → m 127 j = M 127 j) ∧ m 127 (5 * c) = p ∧ m 127 (5 * c + 1) = x ∧ m 127 (5 * c + 2) = q ∧ m 127 (5 * c + 3) = w ∧ m 127 (5 * c + 4) = t := by
  have o1 : m 116 = ui (M 116) 19 (c + 1) := by rw [← hm, um_same, um_ne _ _ _ (by decide), um_ne _ _ _ (by decide), um_ne _ _ _ (by decide), um_ne _ _ _ (by decide), um_ne _ _ _ (by decide)]
  have o2 : m 127 = ui (ui (ui (ui (ui (M 127) (5 * c) p) (5 * c + 1) x) (5 * c + 2) q) (5 * c + 3) w) (5 * c + 4) t := by rw [← hm, um_ne _ _ _ (by decide), um_same, um_same, um_same, um_same, um_same]
  refine ⟨fun r h1 h2 => by rw [← hm, um_ne _ _ _ h1, um_ne _ _ _ h2, um_ne _ _ _ h2, um_ne _ _ _ h2, um_ne _ _ _ h2, um_ne _ _ _ h2], fun j hj => by rw [o1, ui_ne _ _ hj], by rw [o1, ui_same], fun j hj => by rw [o2, ui_ne _ _ (by omega), ui_ne _ _ (by omega), ui_ne _ _ (by omega), ui_ne _ _ (by omega), ui_ne _ _ (by omega)], ?_, ?_, ?_, ?_, ?_⟩
  · rw [o2, ui_ne _ _ (by omega), ui_ne _ _ (by omega), ui_ne _ _ (by omega), ui_ne _ _ (by omega), ui_same]
  · rw [o2, ui_ne _ _ (by omega), ui_ne _ _ (by omega), ui_ne _ _ (by omega), ui_same]
  · rw [o2, ui_ne _ _ (by omega), ui_ne _ _ (by omega), ui_same]
  · rw [o2, ui_ne _ _ (by omega), ui_same]
  · rw [o2, ui_same]
/-- the end: the rule is stored, whatever it is -/
theorem ri348 (mem : Mem) (a : Int) (l : List Rl) (hM : MD mem l) (hl : l.length < 20) (a' f : Int) (la p x q w t : Int) (u4 u7 u9 : AV)
    (K : ∀ m, (∀ r, r ≠ 116 → r ≠ 127 → m r = mem r) → (∀ j, j ≠ 16 → j ≠ 17 → j ≠ 19 → m 116 j = mem 116 j) → m 116 17 = f → m 116 16 = a' → m 116 19 = mem 116 19 + 1 → (∀ j, j < 5 * mem 116 19 ∨ 5 * mem 116 19 + 4 < j → m 127 j = mem 127 j) → m 127 (5 * mem 116 19) = p → m 127 (5 * mem 116 19 + 1) = x → m 127 (5 * mem 116 19 + 2) = q → m 127 (5 * mem 116 19 + 3) = w → m 127 (5 * mem 116 19 + 4) = t → riQ mem a l m) :
    V cX10_readItem RX10 10 none (rmk 2 44) (riE mem a l) 348 [aR 116, aI la, aI p, aI x, u4, aI q, aI w, u7, aI t, u9] [] (stM mem a' f) := by
  have hi := hM.2.2.1
  obtain ⟨M, eM⟩ : ∃ M, M = stM mem a' f := ⟨_, rfl⟩
  rw [← eM]
  have m19 : M 116 19 = mem 116 19 := by rw [eM, stM_j _ _ _ (by omega) (by omega)]
  obtain ⟨c, ec⟩ : ∃ c, c = mem 116 19 := ⟨_, rfl⟩
  have n : ∀ (X : Mem) i z, um X 127 i z 116 = X 116 := fun X i z => um_ne _ _ _ (by decide)
  refine v_aload_n (j := 0) (q := 349) rfl dX10_readItem_348 rfl ?_
  refine v_getR (p' := 127) (q := 352) dX10_readItem_349 fl_X10_41 kd_116 rfl (rfc_10_18 kd_116) rfl ?_
  refine v_iconst (q := 353) dX10_readItem_352 rfl ?_
  refine v_aload_n (j := 0) (q := 354) rfl dX10_readItem_353 rfl ?_
  refine v_getI (j := 19) (q := 357) dX10_readItem_354 fl_X10_221 kd_116 rfl rfl rfl ?_
  rw [m19, ← ec]
  refine v_imul (q := 358) dX10_readItem_357 rfl ?_
  refine v_iload_n (j := 2) (q := 359) rfl dX10_readItem_358 rfl ?_
  refine v_iast (q := 360) dX10_readItem_359 kd_127 (by omega) (by omega) rfl ?_
  refine v_aload_n (j := 0) (q := 361) rfl dX10_readItem_360 rfl ?_
  refine v_getR (p' := 127) (q := 364) dX10_readItem_361 fl_X10_41 kd_116 rfl (rfc_10_18 kd_116) rfl ?_
  refine v_iconst (q := 365) dX10_readItem_364 rfl ?_
  refine v_aload_n (j := 0) (q := 366) rfl dX10_readItem_365 rfl ?_
  refine v_getI (j := 19) (q := 369) dX10_readItem_366 fl_X10_221 kd_116 rfl rfl rfl ?_
  rw [n, m19, ← ec]
  refine v_imul (q := 370) dX10_readItem_369 rfl ?_
  refine v_iconst (q := 371) dX10_readItem_370 rfl ?_
  refine v_iadd (q := 372) dX10_readItem_371 rfl ?_
  refine v_iload_n (j := 3) (q := 373) rfl dX10_readItem_372 rfl ?_
  refine v_iast (q := 374) dX10_readItem_373 kd_127 (by omega) (by omega) rfl ?_
  refine v_aload_n (j := 0) (q := 375) rfl dX10_readItem_374 rfl ?_
  refine v_getR (p' := 127) (q := 378) dX10_readItem_375 fl_X10_41 kd_116 rfl (rfc_10_18 kd_116) rfl ?_
  refine v_iconst (q := 379) dX10_readItem_378 rfl ?_
  refine v_aload_n (j := 0) (q := 380) rfl dX10_readItem_379 rfl ?_
  refine v_getI (j := 19) (q := 383) dX10_readItem_380 fl_X10_221 kd_116 rfl rfl rfl ?_
  rw [n, n, m19, ← ec]
  refine v_imul (q := 384) dX10_readItem_383 rfl ?_
  refine v_iconst (q := 385) dX10_readItem_384 rfl ?_
  refine v_iadd (q := 386) dX10_readItem_385 rfl ?_
  refine v_iload (j := 5) (q := 388) rfl dX10_readItem_386 rfl ?_
  refine v_iast (q := 389) dX10_readItem_388 kd_127 (by omega) (by omega) rfl ?_
  refine v_aload_n (j := 0) (q := 390) rfl dX10_readItem_389 rfl ?_
  refine v_getR (p' := 127) (q := 393) dX10_readItem_390 fl_X10_41 kd_116 rfl (rfc_10_18 kd_116) rfl ?_
  refine v_iconst (q := 394) dX10_readItem_393 rfl ?_
  refine v_aload_n (j := 0) (q := 395) rfl dX10_readItem_394 rfl ?_
  refine v_getI (j := 19) (q := 398) dX10_readItem_395 fl_X10_221 kd_116 rfl rfl rfl ?_
  rw [n, n, n, m19, ← ec]
  refine v_imul (q := 399) dX10_readItem_398 rfl ?_
  refine v_iconst (q := 400) dX10_readItem_399 rfl ?_
  refine v_iadd (q := 401) dX10_readItem_400 rfl ?_
  refine v_iload (j := 6) (q := 403) rfl dX10_readItem_401 rfl ?_
  refine v_iast (q := 404) dX10_readItem_403 kd_127 (by omega) (by omega) rfl ?_
  refine v_aload_n (j := 0) (q := 405) rfl dX10_readItem_404 rfl ?_
  refine v_getR (p' := 127) (q := 408) dX10_readItem_405 fl_X10_41 kd_116 rfl (rfc_10_18 kd_116) rfl ?_
  refine v_iconst (q := 409) dX10_readItem_408 rfl ?_
  refine v_aload_n (j := 0) (q := 410) rfl dX10_readItem_409 rfl ?_
  refine v_getI (j := 19) (q := 413) dX10_readItem_410 fl_X10_221 kd_116 rfl rfl rfl ?_
  rw [n, n, n, n, m19, ← ec]
  refine v_imul (q := 414) dX10_readItem_413 rfl ?_
  refine v_iconst (q := 415) dX10_readItem_414 rfl ?_
  refine v_iadd (q := 416) dX10_readItem_415 rfl ?_
  refine v_iload (j := 8) (q := 418) rfl dX10_readItem_416 rfl ?_
  refine v_iast (q := 419) dX10_readItem_418 kd_127 (by omega) (by omega) rfl ?_
  refine v_aload_n (j := 0) (q := 420) rfl dX10_readItem_419 rfl ?_
  refine v_dup (q := 421) rfl dX10_readItem_420 rfl ?_
  refine v_getI (j := 19) (q := 424) dX10_readItem_421 fl_X10_221 kd_116 rfl rfl rfl ?_
  rw [n, n, n, n, n, m19, ← ec]
  refine v_iconst (q := 425) dX10_readItem_424 rfl ?_
  refine v_iadd (q := 426) dX10_readItem_425 rfl ?_
  refine v_putI (j := 19) (q := 429) dX10_readItem_426 fl_X10_221 kd_116 rfl rfl rfl ?_
  refine v_vret dX10_readItem_429 ?_
  refine ⟨rfl, ?_⟩
  obtain ⟨k0, k1, k2, k3, v0, v1, v2, v3, v4⟩ := riM_facts M c p x q w t rfl
  rw [ec] at k2 k3 v0 v1 v2 v3 v4
  rw [ec]
  rw [ec] at k0 k1
  refine K _ (fun r h1 h2 => by rw [k0 r h1 h2, eM, stM_ne _ _ _ h1]) (fun j h1 h2 h3 => by rw [k1 j h3, eM, stM_j _ _ _ h1 h2]) (by rw [k1 17 (by omega), eM, stM_w]) (by rw [k1 16 (by omega), eM, stM_a]) k2 (fun j hj => by rw [k3 j hj, eM, stM_ne _ _ _ (by decide)]) v0 v1 v2 v3 v4
theorem d348 (mem : Mem) (a : Int) (l : List Rl) (hM : MD mem l) (hl : l.length < 20) (a' f : Int) (hp : pI mem a l = .inl f) (la p x q w t : Int) (u4 u7 u9 : AV) : V cX10_readItem RX10 10 none (rmk 2 44) (riE mem a l) 348 [aR 116, aI la, aI p, aI x, u4, aI q, aI w, u7, aI t, u9] [] (stM mem a' f) :=
  ri348 mem a l hM hl a' f la p x q w t u4 u7 u9 (fun m k0 k1 k2 _ _ _ _ _ _ _ _ => ⟨k0, k1, Or.inl ⟨f, hp, k2⟩⟩)
theorem d254 (mem : Mem) (a : Int) (l : List Rl) (hM : MD mem l) (hl : l.length < 20) (a' f : Int) (hp : pI mem a l = .inl f) (hf : 0 ≤ f ∧ f ≤ 200) (la p x q w t k : Int) (hk : R32 k) (u4 u7 : AV) : V cX10_readItem RX10 10 none (rmk 2 44) (riE mem a l) 254 [aR 116, aI la, aI p, aI x, u4, aI q, aI w, u7, aI t, aI k] [] (stM mem a' f) := by
  have hi := hM.2.2.1
  have m19 : stM mem a' f 116 19 = mem 116 19 := stM_j _ _ _ (by omega) (by omega)
  refine v_iload (j := 9) (q := 256) rfl dX10_readItem_254 rfl ?_
  refine v_aload_n (j := 0) (q := 257) rfl dX10_readItem_256 rfl ?_
  refine v_getI (j := 19) (q := 260) dX10_readItem_257 fl_X10_221 kd_116 rfl rfl rfl ?_
  rw [m19]
  refine v_icmp_ge (tgt := 348) (q := 263) dX10_readItem_260 (by decide) rfl (by omega) (by omega) (fun h260 => ?_) (fun h260 => ?_)
  · exact d348 mem a l hM hl a' f hp la p x q w t _ _ _
  · refine v_aload_n (j := 0) (q := 264) rfl dX10_readItem_263 rfl ?_
    refine v_getI (j := 17) (q := 267) dX10_readItem_264 fl_X10_211 kd_116 rfl rfl rfl ?_
    refine v_bipush (q := 269) (by decide) dX10_readItem_267 rfl ?_
    rw [stM_w]
    refine v_icmp_ne (tgt := 348) (q := 272) dX10_readItem_269 (by decide) rfl (by omega) (by omega) (fun h269 => ?_) (fun h269 => ?_)
    · exact d348 mem a l hM hl a' f hp la p x q w t _ _ _
    · exact absurd h269 (by omega)
theorem d241 (mem : Mem) (a : Int) (l : List Rl) (hM : MD mem l) (hl : l.length < 20) (a' f : Int) (hp : pI mem a l = .inl f) (hf : 0 ≤ f ∧ f ≤ 200) (la p x q w t : Int) (u4 u7 u9 : AV) : V cX10_readItem RX10 10 none (rmk 2 44) (riE mem a l) 241 [aR 116, aI la, aI p, aI x, u4, aI q, aI w, u7, aI t, u9] [] (stM mem a' f) := by
  refine v_aload_n (j := 0) (q := 242) rfl dX10_readItem_241 rfl ?_
  refine v_bipush (q := 244) (by decide) dX10_readItem_242 rfl ?_
  refine v_bipush (q := 246) (by decide) dX10_readItem_244 rfl ?_
  refine v_cVI2 (q := 249) dX10_readItem_246 mlX10_224 mdX10_take (by decide) kd_116 rfl rfl ⟨Nat.le_refl 0, Nat.le_refl 0⟩ (by exact Nat.le_of_ble_eq_true rfl) rfl (c_X10_takeD _ _ a' f mem (by omega) (by omega)) ?_
  rintro _ _ ⟨rfl, rfl⟩
  refine v_ist4 (q := 251) rfl dX10_readItem_249 (by decide) rfl ?_
  refine v_iconst (q := 252) dX10_readItem_251 rfl ?_
  refine v_ist9 (q := 254) rfl dX10_readItem_252 (by decide) rfl ?_
  exact d254 mem a l hM hl a' f hp hf la p x q w t 0 (by omega) _ _
theorem d176 (mem : Mem) (a : Int) (l : List Rl) (hM : MD mem l) (hl : l.length < 20) (a' f : Int) (hp : pI mem a l = .inl f) (hf : 0 ≤ f ∧ f ≤ 200) (la p x q w t : Int) (u4 u7 u9 : AV) : V cX10_readItem RX10 10 none (rmk 2 44) (riE mem a l) 176 [aR 116, aI la, aI p, aI x, u4, aI q, aI w, u7, aI t, u9] [] (stM mem a' f) := by
  refine v_aload_n (j := 0) (q := 177) rfl dX10_readItem_176 rfl ?_
  refine v_getI (j := 17) (q := 180) dX10_readItem_177 fl_X10_211 kd_116 rfl rfl rfl ?_
  refine v_bipush (q := 182) (by decide) dX10_readItem_180 rfl ?_
  rw [stM_w]
  refine v_icmp_ne (tgt := 215) (q := 185) dX10_readItem_182 (by decide) rfl (by omega) (by omega) (fun h182 => ?_) (fun h182 => ?_)
  · refine v_aload_n (j := 0) (q := 216) rfl dX10_readItem_215 rfl ?_
    refine v_getI (j := 17) (q := 219) dX10_readItem_216 fl_X10_211 kd_116 rfl rfl rfl ?_
    refine v_bipush (q := 221) (by decide) dX10_readItem_219 rfl ?_
    rw [stM_w]
    refine v_icmp_ne (tgt := 241) (q := 224) dX10_readItem_221 (by decide) rfl (by omega) (by omega) (fun h221 => ?_) (fun h221 => ?_)
    · exact d241 mem a l hM hl a' f hp hf la p x q w t _ _ _
    · exact absurd h221 (by omega)
  · exact absurd h182 (by omega)
theorem d166 (mem : Mem) (a : Int) (l : List Rl) (hM : MD mem l) (hl : l.length < 20) (a' f : Int) (hp : pI mem a l = .inl f) (hf : 0 ≤ f ∧ f ≤ 200) (la p x q w : Int) (u4 u7 u8 u9 : AV) (h7 : ctg u7 = 1) : V cX10_readItem RX10 10 none (rmk 2 44) (riE mem a l) 166 [aR 116, aI la, aI p, aI x, u4, aI q, aI w, u7, u8, u9] [] (stM mem a' f) := by
  refine v_aload_n (j := 0) (q := 167) rfl dX10_readItem_166 rfl ?_
  refine v_bipush (q := 169) (by decide) dX10_readItem_167 rfl ?_
  refine v_bipush (q := 171) (by decide) dX10_readItem_169 rfl ?_
  refine v_cVI2 (q := 174) dX10_readItem_171 mlX10_224 mdX10_take (by decide) kd_116 rfl rfl ⟨Nat.le_refl 0, Nat.le_refl 0⟩ (by exact Nat.le_of_ble_eq_true rfl) rfl (c_X10_takeD _ _ a' f mem (by omega) (by omega)) ?_
  rintro _ _ ⟨rfl, rfl⟩
  refine v_ist8 (q := 176) (by first | rfl | assumption) dX10_readItem_174 (by decide) rfl ?_
  exact d176 mem a l hM hl a' f hp hf la p x q w 0 _ _ _
theorem d150 (mem : Mem) (a : Int) (l : List Rl) (hM : MD mem l) (hl : l.length < 20) (a' f : Int) (hp : pI mem a l = .inl f) (hf : 0 ≤ f ∧ f ≤ 200) (la p x q w : Int) (u4 u7 u8 u9 : AV) (h7 : ctg u7 = 1) : V cX10_readItem RX10 10 none (rmk 2 44) (riE mem a l) 150 [aR 116, aI la, aI p, aI x, u4, aI q, aI w, u7, u8, u9] [] (stM mem a' f) := by
  refine v_aload_n (j := 0) (q := 151) rfl dX10_readItem_150 rfl ?_
  refine v_bipush (q := 153) (by decide) dX10_readItem_151 rfl ?_
  refine v_bipush (q := 155) (by decide) dX10_readItem_153 rfl ?_
  refine v_cVI2 (q := 158) dX10_readItem_155 mlX10_224 mdX10_take (by decide) kd_116 rfl rfl ⟨Nat.le_refl 0, Nat.le_refl 0⟩ (by exact Nat.le_of_ble_eq_true rfl) rfl (c_X10_takeD _ _ a' f mem (by omega) (by omega)) ?_
  rintro _ _ ⟨rfl, rfl⟩
  refine v_ist4 (q := 160) rfl dX10_readItem_158 (by decide) rfl ?_
  refine v_aload_n (j := 0) (q := 161) rfl dX10_readItem_160 rfl ?_
  refine v_getI (j := 16) (q := 164) dX10_readItem_161 fl_X10_208 kd_116 rfl rfl rfl ?_
  refine v_ist7 (q := 166) rfl dX10_readItem_164 (by decide) rfl ?_
  exact d166 mem a l hM hl a' f hp hf la p x q w _ _ _ _ rfl
theorem d93 (mem : Mem) (a : Int) (l : List Rl) (hM : MD mem l) (hl : l.length < 20) (a' f : Int) (hp : pI mem a l = .inl f) (hf : 0 ≤ f ∧ f ≤ 200) (la p x q w k : Int) (hk : R32 k) (u4 u8 u9 : AV) : V cX10_readItem RX10 10 none (rmk 2 44) (riE mem a l) 93 [aR 116, aI la, aI p, aI x, u4, aI q, aI w, aI k, u8, u9] [] (stM mem a' f) := by
  refine v_iload (j := 7) (q := 95) rfl dX10_readItem_93 rfl ?_
  refine v_iconst (q := 96) dX10_readItem_95 rfl ?_
  refine v_icmp_ge (tgt := 150) (q := 99) dX10_readItem_96 (by decide) rfl (by omega) (by omega) (fun h96 => ?_) (fun h96 => ?_)
  · exact d150 mem a l hM hl a' f hp hf la p x q w _ _ _ _ rfl
  · refine v_aload_n (j := 0) (q := 100) rfl dX10_readItem_99 rfl ?_
    refine v_getI (j := 17) (q := 103) dX10_readItem_100 fl_X10_211 kd_116 rfl rfl rfl ?_
    refine v_bipush (q := 105) (by decide) dX10_readItem_103 rfl ?_
    rw [stM_w]
    refine v_icmp_ne (tgt := 150) (q := 108) dX10_readItem_105 (by decide) rfl (by omega) (by omega) (fun h105 => ?_) (fun h105 => ?_)
    · exact d150 mem a l hM hl a' f hp hf la p x q w _ _ _ _ rfl
    · exact absurd h105 (by omega)
theorem d68 (mem : Mem) (a : Int) (l : List Rl) (hM : MD mem l) (hl : l.length < 20) (a' f : Int) (hp : pI mem a l = .inl f) (hf : 0 ≤ f ∧ f ≤ 200) (la p x : Int) (u4 u5 u6 u7 u8 u9 : AV) (h4 : ctg u4 = 1) (h6 : ctg u6 = 1) : V cX10_readItem RX10 10 none (rmk 2 44) (riE mem a l) 68 [aR 116, aI la, aI p, aI x, u4, u5, u6, u7, u8, u9] [] (stM mem a' f) := by
  have e7 := stM_ne mem a' f (q := 117) (by decide)
  refine v_aload_n (j := 0) (q := 69) rfl dX10_readItem_68 rfl ?_
  refine v_bipush (q := 71) (by decide) dX10_readItem_69 rfl ?_
  refine v_bipush (q := 73) (by decide) dX10_readItem_71 rfl ?_
  refine v_aload_n (j := 0) (q := 74) rfl dX10_readItem_73 rfl ?_
  refine v_getR (p' := 117) (q := 77) dX10_readItem_74 fl_X10_7 kd_116 rfl (rfc_10_0 kd_116) rfl ?_
  refine v_iconst (q := 78) dX10_readItem_77 rfl ?_
  refine v_iald (q := 79) dX10_readItem_78 kd_117 (by omega) (by omega) rfl ?_
  refine v_iadd (q := 80) dX10_readItem_79 rfl ?_
  refine v_iconst (q := 81) dX10_readItem_80 rfl ?_
  refine v_isub (q := 82) dX10_readItem_81 rfl ?_
  refine v_cVI2 (q := 85) dX10_readItem_82 mlX10_224 mdX10_take (by decide) kd_116 rfl rfl ⟨Nat.le_refl 0, Nat.le_refl 0⟩ (by exact Nat.le_of_ble_eq_true rfl) rfl (c_X10_takeD _ _ a' f mem (by omega) (by omega)) ?_
  rintro _ _ ⟨rfl, rfl⟩
  refine v_ist5 (q := 87) (by first | rfl | assumption) dX10_readItem_85 (by decide) rfl ?_
  refine v_iconst (q := 88) dX10_readItem_87 rfl ?_
  refine v_ist6 (q := 90) (by first | rfl | assumption) dX10_readItem_88 (by decide) rfl ?_
  refine v_iconst (q := 91) dX10_readItem_90 rfl ?_
  refine v_ist7 (q := 93) (by first | rfl | assumption) dX10_readItem_91 (by decide) rfl ?_
  exact d93 mem a l hM hl a' f hp hf la p x 0 0 0 (by omega) _ _ _
theorem d58 (mem : Mem) (a : Int) (l : List Rl) (hM : MD mem l) (hl : l.length < 20) (a' f : Int) (hp : pI mem a l = .inl f) (hf : 0 ≤ f ∧ f ≤ 200) (la p x : Int) (u4 u5 u6 u7 u8 u9 : AV) (h6 : ctg u6 = 1) : V cX10_readItem RX10 10 none (rmk 2 44) (riE mem a l) 58 [aR 116, aI la, aI p, aI x, u4, u5, u6, u7, u8, u9] [] (stM mem a' f) := by
  refine v_aload_n (j := 0) (q := 59) rfl dX10_readItem_58 rfl ?_
  refine v_bipush (q := 61) (by decide) dX10_readItem_59 rfl ?_
  refine v_bipush (q := 63) (by decide) dX10_readItem_61 rfl ?_
  refine v_cVI2 (q := 66) dX10_readItem_63 mlX10_224 mdX10_take (by decide) kd_116 rfl rfl ⟨Nat.le_refl 0, Nat.le_refl 0⟩ (by exact Nat.le_of_ble_eq_true rfl) rfl (c_X10_takeD _ _ a' f mem (by omega) (by omega)) ?_
  rintro _ _ ⟨rfl, rfl⟩
  refine v_ist4 (q := 68) rfl dX10_readItem_66 (by decide) rfl ?_
  exact d68 mem a l hM hl a' f hp hf la p x _ _ _ _ _ _ rfl h6
theorem d45 (mem : Mem) (a : Int) (l : List Rl) (hM : MD mem l) (hl : l.length < 20) (a' f : Int) (hp : pI mem a l = .inl f) (hf : 0 ≤ f ∧ f ≤ 200) (la p : Int) (u3 u4 u5 u6 u7 u8 u9 : AV) (h6 : ctg u6 = 1) : V cX10_readItem RX10 10 none (rmk 2 44) (riE mem a l) 45 [aR 116, aI la, aI p, u3, u4, u5, u6, u7, u8, u9] [] (stM mem a' f) := by
  refine v_aload_n (j := 0) (q := 46) rfl dX10_readItem_45 rfl ?_
  refine v_bipush (q := 48) (by decide) dX10_readItem_46 rfl ?_
  refine v_bipush (q := 50) (by decide) dX10_readItem_48 rfl ?_
  refine v_iload_n (j := 1) (q := 51) rfl dX10_readItem_50 rfl ?_
  refine v_iadd (q := 52) dX10_readItem_51 rfl ?_
  refine v_cVI2 (q := 55) dX10_readItem_52 mlX10_224 mdX10_take (by decide) kd_116 rfl rfl ⟨Nat.le_refl 0, Nat.le_refl 0⟩ (by exact Nat.le_of_ble_eq_true rfl) rfl (c_X10_takeD _ _ a' f mem (by omega) (by omega)) ?_
  rintro _ _ ⟨rfl, rfl⟩
  refine v_iconst (q := 56) dX10_readItem_55 rfl ?_
  refine v_iadd (q := 57) dX10_readItem_56 rfl ?_
  refine v_ist3 (q := 58) rfl dX10_readItem_57 (by decide) rfl ?_
  exact d58 mem a l hM hl a' f hp hf la p (0 + 1) _ _ _ _ _ _ h6
