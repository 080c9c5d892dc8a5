/-! ===== The reference's readItem, while nothing is wrong ===== -/
theorem MD.append {m m1 : Mem} {l : List Rl} {p x q w t : Int} (h : MD m l) (hr : okR (m 117 0) (m 117 1) (p, x, q, w, t)) (h20 : l.length < 20) (k0 : m1 117 = m 117) (k2 : m1 116 19 = m 116 19 + 1) (k3 : ∀ j, j < 5 * m 116 19 ∨ 5 * m 116 19 + 4 < j → m1 127 j = m 127 j) (v0 : m1 127 (5 * m 116 19) = p) (v1 : m1 127 (5 * m 116 19 + 1) = x) (v2 : m1 127 (5 * m 116 19 + 2) = q) (v3 : m1 127 (5 * m 116 19 + 3) = w) (v4 : m1 127 (5 * m 116 19 + 4) = t) : MD m1 (l ++ [(p, x, q, w, t)]) := by
  obtain ⟨d1, d2, d3, d4, d5, d6, d7⟩ := h
  have hw := nd_bound 2 hr.2.2.2.1.1.1 hr.2.2.2.1.2
  have hw0 : 0 ≤ w := hr.2.2.2.1.1.1
  rw [show (10 : Int) ^ 2 = 100 by decide] at hw
  change w < 100 at hw
  obtain ⟨⟨p0, p1⟩, ⟨x0, x1⟩, ⟨q0, q1⟩, -, ⟨t0, t1⟩⟩ := id hr
  change 0 ≤ p at p0; change p < m 117 0 at p1; change 1 ≤ x at x0; change x ≤ m 117 1 at x1; change 0 ≤ q at q0; change q < m 117 0 at q1; change 1 ≤ t at t0; change t ≤ 20 at t1
  refine ⟨by rw [k0]; exact d1, by rw [k0]; exact d2, ?_, ?_, ?_, ?_, ?_⟩
  · rw [k2, List.length_append, d3]; rfl
  · rw [List.length_append]; simp; omega
  · rw [List.length_append]
    show _ = rls (m1 127) 0 (l.length + 1)
    rw [rls_succ]
    congr 1
    · rw [d5, rls_len]
      apply rls_ext
      intro i i0 i1
      rw [Int.zero_add, k3 _ (by omega)]
    · unfold rl5
      rw [show (0 : Int) + 5 * (l.length : Int) = 5 * m 116 19 by omega, v0, v1, v2, v3, v4]
  · intro i i0 i1
    have i2 : i < 5 * (m 116 19 + 1) := by
      rw [List.length_append] at i1
      simp at i1
      omega
    by_cases hi : i < 5 * m 116 19
    · rw [k3 i (Or.inl hi)]; exact d6 i i0 (by omega)
    · rcases (show i = 5 * m 116 19 ∨ i = 5 * m 116 19 + 1 ∨ i = 5 * m 116 19 + 2 ∨ i = 5 * m 116 19 + 3 ∨ i = 5 * m 116 19 + 4 by omega) with rfl | rfl | rfl | rfl | rfl
      · rw [v0]; omega
      · rw [v1]; omega
      · rw [v2]; omega
      · rw [v3]; omega
      · rw [v4]; omega
  · intro r hr9
    rw [k0]
    rcases List.mem_append.mp hr9 with h9 | h9
    · exact d7 r h9
    · rw [List.mem_singleton.mp h9]; exact hr
def at0 (f : Int → Int) (p x q w k : Int) : Prop := f (5 * k) = p ∧ f (5 * k + 1) = x ∧ f (5 * k + 2) = q ∧ f (5 * k + 3) = w
theorem at0_there (f : Int → Int) (n : Nat) (p x q w : Int) : (∃ k : Int, 0 ≤ k ∧ k < n ∧ at0 f p x q w k) ↔ thereR (rls f 0 n) p x q w := by
  constructor
  · rintro ⟨k, k0, k1, a, b, c, d⟩
    have hk := rls_at f 0 (n := n) (k := k.toNat) (by omega)
    rw [show (0 : Int) + 5 * (k.toNat : Int) = 5 * k by omega] at hk
    exact ⟨_, List.mem_of_getElem? hk, a, b, c, d⟩
  · rintro ⟨r, hr, a, b, c, d⟩
    obtain ⟨k, hk, rfl⟩ := List.mem_map.mp hr
    have hk := List.mem_range.mp hk
    rw [show (0 : Int) + 5 * (k : Int) = 5 * (k : Int) by omega] at a b c d
    exact ⟨k, by omega, by omega, a, b, c, d⟩
theorem a254 (mem : Mem) (a : Int) (l : List Rl) (hM : MD mem l) (hl : l.length < 20) (b p x q w t : Int) (hb : 0 ≤ b ∧ b ≤ 200) (hr : R32 p ∧ R32 x ∧ R32 q ∧ R32 w) (ok : okR (mem 117 0) (mem 117 1) (p, x, q, w, t)) (hA : ¬ thereR l p x q w → pI mem a l = .inr (b + 1, (p, x, q, w, t))) (hB : thereR l p x q w → pI mem a l = .inl b) (la : Int) (u4 u7 : AV) : ∀ (j : Nat) (k : Int), k + j = mem 116 19 → 0 ≤ k → (∀ i : Int, 0 ≤ i → i < k → ¬ at0 (mem 127) p x q w i) →
    V cX10_readItem RX10 10 none (rmk 2 44) (riE mem a l) 254 [aR 116, aI la, aI p, aI x, u4, aI q, aI w, u7, aI t, aI k] [] (stM mem (b + 1) (-6)) := by
  have hi := hM.2.2.1
  have m19 : stM mem (b + 1) (-6) 116 19 = mem 116 19 := stM_j _ _ _ (by omega) (by omega)
  have m27 : stM mem (b + 1) (-6) 127 = mem 127 := stM_ne _ _ _ (by decide)
  have hth := at0_there (mem 127) l.length p x q w
  rw [← hM.2.2.2.2.1] at hth
  intro j
  induction j with
  | zero =>
    intro k h1 h2 h3
    have hn : ¬ thereR l p x q w := fun h => by
      obtain ⟨i, i0, i1, i2⟩ := hth.mpr h
      exact h3 i i0 (by omega) i2
    refine v_iload (j := 9) (q := 256) rfl dX10_readItem_254 rfl ?_
    refine v_aload_n (j := 0) (q := 257) rfl dX10_readItem_256 rfl ?_
    refine v_getI (j := 19) (q := 260) dX10_readItem_257 fl_X10_221 kd_116 rfl rfl rfl ?_
    rw [m19]
    refine v_icmp_ge (tgt := 348) (q := 263) dX10_readItem_260 (by decide) rfl (by omega) (by omega) (fun h260 => ?_) (fun h260 => ?_)
    · exact ri348 mem a l hM hl (b + 1) (-6) la p x q w t _ _ _ (fun m k0 k1 k2 k3 k4 k5 v0 v1 v2 v3 v4 => ⟨k0, k1, Or.inr ⟨_, _, hA hn, k2, k3, hM.append ok hl (k0 117 (by decide) (by decide)) k4 k5 v0 v1 v2 v3 v4⟩⟩)
    · exact absurd h260 (by omega)
  | succ j ih =>
    intro k h1 h2 h3
    have r6 := hM.2.2.2.2.2.1
    have r0 := r6 (5 * k) (by omega) (by omega)
    have r1 := r6 (5 * k + 1) (by omega) (by omega)
    have r2 := r6 (5 * k + 2) (by omega) (by omega)
    have r3 := r6 (5 * k + 3) (by omega) (by omega)
    have nx : ¬ at0 (mem 127) p x q w k → V cX10_readItem RX10 10 none (rmk 2 44) (riE mem a l) 254 [aR 116, aI la, aI p, aI x, u4, aI q, aI w, u7, aI t, aI (k + 1)] [] (stM mem (b + 1) (-6)) := fun hk => ih (k + 1) (by omega) (by omega) (fun i i0 i1 => by
      by_cases e : i = k
      · rw [e]; exact hk
      · exact h3 i i0 (by omega))
    refine v_iload (j := 9) (q := 256) rfl dX10_readItem_254 rfl ?_
    refine v_aload_n (j := 0) (q := 257) rfl dX10_readItem_256 rfl ?_
    refine v_getI (j := 19) (q := 260) dX10_readItem_257 fl_X10_221 kd_116 rfl rfl rfl ?_
    rw [m19]
    refine v_icmp_ge (tgt := 348) (q := 263) dX10_readItem_260 (by decide) rfl (by omega) (by omega) (fun h260 => ?_) (fun h260 => ?_)
    · exact absurd h260 (by omega)
    · refine v_aload_n (j := 0) (q := 264) rfl dX10_readItem_263 rfl ?_
      refine v_getI (j := 17) (q := 267) dX10_readItem_264 fl_X10_211 kd_116 rfl rfl rfl ?_
      refine v_bipush (q := 269) (by decide) dX10_readItem_267 rfl ?_
      rw [stM_w]
      refine v_icmp_ne (tgt := 348) (q := 272) dX10_readItem_269 (by decide) rfl (by omega) (by omega) (fun h269 => ?_) (fun h269 => ?_)
      · exact absurd h269 (by omega)
      · refine v_aload_n (j := 0) (q := 273) rfl dX10_readItem_272 rfl ?_
        refine v_getR (p' := 127) (q := 276) dX10_readItem_273 fl_X10_41 kd_116 rfl (rfc_10_18 kd_116) rfl ?_
        refine v_iconst (q := 277) dX10_readItem_276 rfl ?_
        refine v_iload (j := 9) (q := 279) rfl dX10_readItem_277 rfl ?_
        refine v_imul (q := 280) dX10_readItem_279 rfl ?_
        refine v_iald (q := 281) dX10_readItem_280 kd_127 (by omega) (by omega) rfl ?_
        rw [m27]
        refine v_iload_n (j := 2) (q := 282) rfl dX10_readItem_281 rfl ?_
        refine v_icmp_ne (tgt := 342) (q := 285) dX10_readItem_282 (by decide) rfl (by omega) (by omega) (fun h282 => ?_) (fun h282 => ?_)
        · refine v_iinc9 (q := 345) rfl dX10_readItem_342 (by decide) rfl ?_
          refine v_goto (q := 254) dX10_readItem_345 (by decide) ?_
          first | exact nx (fun h => h282 h.1) | exact nx (fun h => h297 h.2.1) | exact nx (fun h => h313 h.2.2.1) | exact nx (fun h => h329 h.2.2.2) | exact d254 mem a l hM hl (b + 1) b (hB (hth.mp ⟨k, h2, by omega, h282, h297, h313, h329⟩)) hb la p x q w t (k + 1) (by omega) _ _
        · refine v_aload_n (j := 0) (q := 286) rfl dX10_readItem_285 rfl ?_
          refine v_getR (p' := 127) (q := 289) dX10_readItem_286 fl_X10_41 kd_116 rfl (rfc_10_18 kd_116) rfl ?_
          refine v_iconst (q := 290) dX10_readItem_289 rfl ?_
          refine v_iload (j := 9) (q := 292) rfl dX10_readItem_290 rfl ?_
          refine v_imul (q := 293) dX10_readItem_292 rfl ?_
          refine v_iconst (q := 294) dX10_readItem_293 rfl ?_
          refine v_iadd (q := 295) dX10_readItem_294 rfl ?_
          refine v_iald (q := 296) dX10_readItem_295 kd_127 (by omega) (by omega) rfl ?_
          rw [m27]
          refine v_iload_n (j := 3) (q := 297) rfl dX10_readItem_296 rfl ?_
          refine v_icmp_ne (tgt := 342) (q := 300) dX10_readItem_297 (by decide) rfl (by omega) (by omega) (fun h297 => ?_) (fun h297 => ?_)
          · refine v_iinc9 (q := 345) rfl dX10_readItem_342 (by decide) rfl ?_
            refine v_goto (q := 254) dX10_readItem_345 (by decide) ?_
            first | exact nx (fun h => h282 h.1) | exact nx (fun h => h297 h.2.1) | exact nx (fun h => h313 h.2.2.1) | exact nx (fun h => h329 h.2.2.2) | exact d254 mem a l hM hl (b + 1) b (hB (hth.mp ⟨k, h2, by omega, h282, h297, h313, h329⟩)) hb la p x q w t (k + 1) (by omega) _ _
          · refine v_aload_n (j := 0) (q := 301) rfl dX10_readItem_300 rfl ?_
            refine v_getR (p' := 127) (q := 304) dX10_readItem_301 fl_X10_41 kd_116 rfl (rfc_10_18 kd_116) rfl ?_
            refine v_iconst (q := 305) dX10_readItem_304 rfl ?_
            refine v_iload (j := 9) (q := 307) rfl dX10_readItem_305 rfl ?_
            refine v_imul (q := 308) dX10_readItem_307 rfl ?_
            refine v_iconst (q := 309) dX10_readItem_308 rfl ?_
            refine v_iadd (q := 310) dX10_readItem_309 rfl ?_
            refine v_iald (q := 311) dX10_readItem_310 kd_127 (by omega) (by omega) rfl ?_
            rw [m27]
            refine v_iload (j := 5) (q := 313) rfl dX10_readItem_311 rfl ?_
            refine v_icmp_ne (tgt := 342) (q := 316) dX10_readItem_313 (by decide) rfl (by omega) (by omega) (fun h313 => ?_) (fun h313 => ?_)
            · refine v_iinc9 (q := 345) rfl dX10_readItem_342 (by decide) rfl ?_
              refine v_goto (q := 254) dX10_readItem_345 (by decide) ?_
              first | exact nx (fun h => h282 h.1) | exact nx (fun h => h297 h.2.1) | exact nx (fun h => h313 h.2.2.1) | exact nx (fun h => h329 h.2.2.2) | exact d254 mem a l hM hl (b + 1) b (hB (hth.mp ⟨k, h2, by omega, h282, h297, h313, h329⟩)) hb la p x q w t (k + 1) (by omega) _ _
            · refine v_aload_n (j := 0) (q := 317) rfl dX10_readItem_316 rfl ?_
              refine v_getR (p' := 127) (q := 320) dX10_readItem_317 fl_X10_41 kd_116 rfl (rfc_10_18 kd_116) rfl ?_
              refine v_iconst (q := 321) dX10_readItem_320 rfl ?_
              refine v_iload (j := 9) (q := 323) rfl dX10_readItem_321 rfl ?_
              refine v_imul (q := 324) dX10_readItem_323 rfl ?_
              refine v_iconst (q := 325) dX10_readItem_324 rfl ?_
              refine v_iadd (q := 326) dX10_readItem_325 rfl ?_
              refine v_iald (q := 327) dX10_readItem_326 kd_127 (by omega) (by omega) rfl ?_
              rw [m27]
              refine v_iload (j := 6) (q := 329) rfl dX10_readItem_327 rfl ?_
              refine v_icmp_ne (tgt := 342) (q := 332) dX10_readItem_329 (by decide) rfl (by omega) (by omega) (fun h329 => ?_) (fun h329 => ?_)
              · refine v_iinc9 (q := 345) rfl dX10_readItem_342 (by decide) rfl ?_
                refine v_goto (q := 254) dX10_readItem_345 (by decide) ?_
                first | exact nx (fun h => h282 h.1) | exact nx (fun h => h297 h.2.1) | exact nx (fun h => h313 h.2.2.1) | exact nx (fun h => h329 h.2.2.2) | exact d254 mem a l hM hl (b + 1) b (hB (hth.mp ⟨k, h2, by omega, h282, h297, h313, h329⟩)) hb la p x q w t (k + 1) (by omega) _ _
              · refine v_aload_n (j := 0) (q := 333) rfl dX10_readItem_332 rfl ?_
                refine v_aload_n (j := 0) (q := 334) rfl dX10_readItem_333 rfl ?_
                refine v_getI (j := 16) (q := 337) dX10_readItem_334 fl_X10_208 kd_116 rfl rfl rfl ?_
                rw [stM_a]
                refine v_iconst (q := 338) dX10_readItem_337 rfl ?_
                refine v_isub (q := 339) dX10_readItem_338 rfl ?_
                refine v_cVV1 (q := 342) dX10_readItem_339 mlX10_218 mdX10_fails (by decide) kd_116 rfl rfl ⟨Nat.le_refl 0, Nat.le_refl 0⟩ (by exact Nat.le_of_ble_eq_true rfl) rfl (c_X10_fails (b + 1 - 1) (b + 1) (-6) mem (by omega)) ?_
                rintro _ rfl
                rw [if_pos rfl, show b + 1 - 1 = b by omega]
                refine v_iinc9 (q := 345) rfl dX10_readItem_342 (by decide) rfl ?_
                refine v_goto (q := 254) dX10_readItem_345 (by decide) ?_
                first | exact nx (fun h => h282 h.1) | exact nx (fun h => h297 h.2.1) | exact nx (fun h => h313 h.2.2.1) | exact nx (fun h => h329 h.2.2.2) | exact d254 mem a l hM hl (b + 1) b (hB (hth.mp ⟨k, h2, by omega, h282, h297, h313, h329⟩)) hb la p x q w t (k + 1) (by omega) _ _
