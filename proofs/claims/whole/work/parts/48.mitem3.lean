/-! ===== The reference's readItem, from its end to its start ===== -/
theorem pI_bad5 {mem : Mem} {a : Int} {l : List Rl} (c1 : ch (mem 119) (mem 116 5) 48 (mem 117 0) a) (c2 : ch (mem 119) (mem 116 5) 97 (mem 117 1) (a + 1)) (c3 : ch (mem 119) (mem 116 5) 62 1 (a + 2)) (c4 : ch (mem 119) (mem 116 5) 48 (mem 117 0) (a + 3)) (n5 : ¬ ch (mem 119) (mem 116 5) 58 1 (pW (mem 119) (mem 116 5) (mem 117 1) (a + 4)).2) : pI mem a l = .inl (pW (mem 119) (mem 116 5) (mem 117 1) (a + 4)).2 := by
  have nn : ∀ {P : Prop}, P → ¬ ¬ P := fun h h2 => h2 h
  unfold pI pItem
  rw [if_neg (nn c1), if_neg (nn c2), if_neg (nn c3), if_neg (nn c4), if_pos n5]
/-- what has been read up to the colon, all right so far -/
def upC (mem : Mem) (a : Int) : Prop := ch (mem 119) (mem 116 5) 48 (mem 117 0) a ∧ ch (mem 119) (mem 116 5) 97 (mem 117 1) (a + 1) ∧ ch (mem 119) (mem 116 5) 62 1 (a + 2) ∧ ch (mem 119) (mem 116 5) 48 (mem 117 0) (a + 3) ∧ ch (mem 119) (mem 116 5) 58 1 (pW (mem 119) (mem 116 5) (mem 117 1) (a + 4)).2
theorem pI_bad6 {mem : Mem} {a : Int} {l : List Rl} (c : upC mem a) (n6 : ¬ ch (mem 119) (mem 116 5) 48 10 ((pW (mem 119) (mem 116 5) (mem 117 1) (a + 4)).2 + 1)) : pI mem a l = .inl ((pW (mem 119) (mem 116 5) (mem 117 1) (a + 4)).2 + 1) := by
  have nn : ∀ {P : Prop}, P → ¬ ¬ P := fun h h2 => h2 h
  obtain ⟨c1, c2, c3, c4, c5⟩ := c
  unfold pI pItem
  rw [if_neg (nn c1), if_neg (nn c2), if_neg (nn c3), if_neg (nn c4), if_neg (nn c5), if_pos n6]
theorem pI_bad7 {mem : Mem} {a : Int} {l : List Rl} (c : upC mem a) (c6 : ch (mem 119) (mem 116 5) 48 10 ((pW (mem 119) (mem 116 5) (mem 117 1) (a + 4)).2 + 1)) (n7 : ¬ (1 ≤ (pN (mem 119) (mem 116 5) ((pW (mem 119) (mem 116 5) (mem 117 1) (a + 4)).2 + 1)).1 ∧ (pN (mem 119) (mem 116 5) ((pW (mem 119) (mem 116 5) (mem 117 1) (a + 4)).2 + 1)).1 ≤ 20)) : pI mem a l = .inl ((pW (mem 119) (mem 116 5) (mem 117 1) (a + 4)).2 + 1) := by
  have nn : ∀ {P : Prop}, P → ¬ ¬ P := fun h h2 => h2 h
  obtain ⟨c1, c2, c3, c4, c5⟩ := c
  unfold pI pItem
  rw [if_neg (nn c1), if_neg (nn c2), if_neg (nn c3), if_neg (nn c4), if_neg (nn c5), if_neg (nn c6), if_pos n7]
theorem pI_end {mem : Mem} {a : Int} {l : List Rl} (c : upC mem a) (c6 : ch (mem 119) (mem 116 5) 48 10 ((pW (mem 119) (mem 116 5) (mem 117 1) (a + 4)).2 + 1)) (c7 : 1 ≤ (pN (mem 119) (mem 116 5) ((pW (mem 119) (mem 116 5) (mem 117 1) (a + 4)).2 + 1)).1 ∧ (pN (mem 119) (mem 116 5) ((pW (mem 119) (mem 116 5) (mem 117 1) (a + 4)).2 + 1)).1 ≤ 20) :
    (¬ ch (mem 119) (mem 116 5) 59 1 (pN (mem 119) (mem 116 5) ((pW (mem 119) (mem 116 5) (mem 117 1) (a + 4)).2 + 1)).2 → pI mem a l = .inl (pN (mem 119) (mem 116 5) ((pW (mem 119) (mem 116 5) (mem 117 1) (a + 4)).2 + 1)).2) ∧
    (ch (mem 119) (mem 116 5) 59 1 (pN (mem 119) (mem 116 5) ((pW (mem 119) (mem 116 5) (mem 117 1) (a + 4)).2 + 1)).2 →
      (thereR l (mem 119 a - 48) (mem 119 (a + 1) - 97 + 1) (mem 119 (a + 3) - 48) (pW (mem 119) (mem 116 5) (mem 117 1) (a + 4)).1 → pI mem a l = .inl (pN (mem 119) (mem 116 5) ((pW (mem 119) (mem 116 5) (mem 117 1) (a + 4)).2 + 1)).2) ∧
      (¬ thereR l (mem 119 a - 48) (mem 119 (a + 1) - 97 + 1) (mem 119 (a + 3) - 48) (pW (mem 119) (mem 116 5) (mem 117 1) (a + 4)).1 → pI mem a l = .inr ((pN (mem 119) (mem 116 5) ((pW (mem 119) (mem 116 5) (mem 117 1) (a + 4)).2 + 1)).2 + 1, (mem 119 a - 48, mem 119 (a + 1) - 97 + 1, mem 119 (a + 3) - 48, (pW (mem 119) (mem 116 5) (mem 117 1) (a + 4)).1, (pN (mem 119) (mem 116 5) ((pW (mem 119) (mem 116 5) (mem 117 1) (a + 4)).2 + 1)).1)))) := by
  have nn : ∀ {P : Prop}, P → ¬ ¬ P := fun h h2 => h2 h
  obtain ⟨c1, c2, c3, c4, c5⟩ := c
  refine ⟨fun n8 => ?_, fun c8 => ⟨fun h9 => ?_, fun h9 => ?_⟩⟩
  · unfold pI pItem
    rw [if_neg (nn c1), if_neg (nn c2), if_neg (nn c3), if_neg (nn c4), if_neg (nn c5), if_neg (nn c6), if_neg (nn c7), if_pos n8]
  · unfold pI pItem
    rw [if_neg (nn c1), if_neg (nn c2), if_neg (nn c3), if_neg (nn c4), if_neg (nn c5), if_neg (nn c6), if_neg (nn c7), if_neg (nn c8), if_pos h9]
  · unfold pI pItem
    rw [if_neg (nn c1), if_neg (nn c2), if_neg (nn c3), if_neg (nn c4), if_neg (nn c5), if_neg (nn c6), if_neg (nn c7), if_neg (nn c8), if_neg h9]
theorem a241 (mem : Mem) (a : Int) (l : List Rl) (hT : txR mem) (ha : 0 ≤ a) (hM : MD mem l) (hl : l.length < 20) (c : upC mem a) (c6 : ch (mem 119) (mem 116 5) 48 10 ((pW (mem 119) (mem 116 5) (mem 117 1) (a + 4)).2 + 1)) (c7 : 1 ≤ (pN (mem 119) (mem 116 5) ((pW (mem 119) (mem 116 5) (mem 117 1) (a + 4)).2 + 1)).1 ∧ (pN (mem 119) (mem 116 5) ((pW (mem 119) (mem 116 5) (mem 117 1) (a + 4)).2 + 1)).1 ≤ 20) (la : Int) (u4 u7 u9 : AV) :
    V cX10_readItem RX10 10 none (rmk 2 44) (riE mem a l) 241 [aR 116, aI la, aI (mem 119 a - 48), aI (mem 119 (a + 1) - 97 + 1), u4, aI (mem 119 (a + 3) - 48), aI (pW (mem 119) (mem 116 5) (mem 117 1) (a + 4)).1, u7, aI (pN (mem 119) (mem 116 5) ((pW (mem 119) (mem 116 5) (mem 117 1) (a + 4)).2 + 1)).1, u9] [] (stM mem (pN (mem 119) (mem 116 5) ((pW (mem 119) (mem 116 5) (mem 117 1) (a + 4)).2 + 1)).2 (-6)) := by
  obtain ⟨e1, e2⟩ := pI_end (l := l) c c6 c7
  obtain ⟨c1, c2, c3, c4, c5⟩ := id c
  have hL := hT.1
  have g1 := c1
  have g2 := c2
  have g4 := c4
  unfold ch at g1 g2 g4
  have w := pW_ok (mem 119) (mem 116 5) (mem 117 1) (a + 4) hM.2.1 (by omega)
  have v := pN_ok (mem 119) (mem 116 5) _ c6
  have w0 := w.1.1
  generalize (pN (mem 119) (mem 116 5) ((pW (mem 119) (mem 116 5) (mem 117 1) (a + 4)).2 + 1)) = N at *
  generalize (pW (mem 119) (mem 116 5) (mem 117 1) (a + 4)) = Wd at *
  have hS := hM.1
  have hG := hM.2.1
  by_cases c8 : ch (mem 119) (mem 116 5) 59 1 N.2
  · skip
    refine v_aload_n (j := 0) (q := 242) rfl dX10_readItem_241 rfl ?_
    refine v_bipush (q := 244) (by decide) dX10_readItem_242 rfl ?_
    refine v_bipush (q := 246) (by decide) dX10_readItem_244 rfl ?_
    refine v_cVI2 (q := 249) dX10_readItem_246 mlX10_224 mdX10_take (by decide) kd_116 rfl rfl ⟨Nat.le_refl 0, Nat.le_refl 0⟩ (by exact Nat.le_of_ble_eq_true rfl) rfl (c_X10_take 59 59 1 N.2 mem hT (by omega) (by omega) (by omega) (by omega)) ?_
    intro z m1 hor
    obtain ⟨-, rfl, rfl⟩ := hor.resolve_right (fun h => h.1 c8)
    refine v_ist4 (q := 251) rfl dX10_readItem_249 (by decide) rfl ?_
    refine v_iconst (q := 252) dX10_readItem_251 rfl ?_
    refine v_ist9 (q := 254) rfl dX10_readItem_252 (by decide) rfl ?_
    exact a254 mem a l hM hl N.2 (mem 119 a - 48) (mem 119 (a + 1) - 97 + 1) (mem 119 (a + 3) - 48) Wd.1 N.1 (by omega) (by omega) ⟨by show 0 ≤ mem 119 a - 48 ∧ mem 119 a - 48 < mem 117 0; omega, by show 1 ≤ mem 119 (a + 1) - 97 + 1 ∧ mem 119 (a + 1) - 97 + 1 ≤ mem 117 1; omega, by show 0 ≤ mem 119 (a + 3) - 48 ∧ mem 119 (a + 3) - 48 < mem 117 0; omega, ⟨w.1, w.2.1⟩, c7⟩ (e2 c8).2 (e2 c8).1 la _ _ (mem 116 19).toNat 0 (by have := hM.2.2.1; omega) (by omega) (fun i i0 i1 => by omega)
  · skip
    refine v_aload_n (j := 0) (q := 242) rfl dX10_readItem_241 rfl ?_
    refine v_bipush (q := 244) (by decide) dX10_readItem_242 rfl ?_
    refine v_bipush (q := 246) (by decide) dX10_readItem_244 rfl ?_
    refine v_cVI2 (q := 249) dX10_readItem_246 mlX10_224 mdX10_take (by decide) kd_116 rfl rfl ⟨Nat.le_refl 0, Nat.le_refl 0⟩ (by exact Nat.le_of_ble_eq_true rfl) rfl (c_X10_take 59 59 1 N.2 mem hT (by omega) (by omega) (by omega) (by omega)) ?_
    intro z m1 hor
    obtain ⟨-, rfl, rfl⟩ := hor.resolve_left (fun h => c8 h.1)
    refine v_ist4 (q := 251) rfl dX10_readItem_249 (by decide) rfl ?_
    refine v_iconst (q := 252) dX10_readItem_251 rfl ?_
    refine v_ist9 (q := 254) rfl dX10_readItem_252 (by decide) rfl ?_
    exact d254 mem a l hM hl N.2 N.2 (e1 c8) (by omega) la _ _ _ _ _ 0 (by omega) _ _
theorem a215 (mem : Mem) (a : Int) (l : List Rl) (hT : txR mem) (ha : 0 ≤ a) (hM : MD mem l) (hl : l.length < 20) (c : upC mem a) (c6 : ch (mem 119) (mem 116 5) 48 10 ((pW (mem 119) (mem 116 5) (mem 117 1) (a + 4)).2 + 1)) (la : Int) (u4 u9 : AV) :
    V cX10_readItem RX10 10 none (rmk 2 44) (riE mem a l) 215 [aR 116, aI la, aI (mem 119 a - 48), aI (mem 119 (a + 1) - 97 + 1), u4, aI (mem 119 (a + 3) - 48), aI (pW (mem 119) (mem 116 5) (mem 117 1) (a + 4)).1, aI ((pW (mem 119) (mem 116 5) (mem 117 1) (a + 4)).2 + 1), aI (pN (mem 119) (mem 116 5) ((pW (mem 119) (mem 116 5) (mem 117 1) (a + 4)).2 + 1)).1, u9] [] (stM mem (pN (mem 119) (mem 116 5) ((pW (mem 119) (mem 116 5) (mem 117 1) (a + 4)).2 + 1)).2 (-6)) := by
  have hL := hT.1
  have v := pN_ok (mem 119) (mem 116 5) _ c6
  have c6a := c6.1
  have w := pW_ok (mem 119) (mem 116 5) (mem 117 1) (a + 4) hM.2.1 (by have := c.2.2.2.1.1; omega)
  refine v_aload_n (j := 0) (q := 216) rfl dX10_readItem_215 rfl ?_
  refine v_getI (j := 17) (q := 219) dX10_readItem_216 fl_X10_211 kd_116 rfl rfl rfl ?_
  refine v_bipush (q := 221) (by decide) dX10_readItem_219 rfl ?_
  rw [stM_w]
  refine v_icmp_ne (tgt := 241) (q := 224) dX10_readItem_221 (by decide) rfl (by omega) (by omega) (fun h221 => ?_) (fun h221 => ?_)
  · exact absurd h221 (by omega)
  · refine v_iload (j := 8) (q := 226) rfl dX10_readItem_224 rfl ?_
    refine v_iconst (q := 227) dX10_readItem_226 rfl ?_
    refine v_bipush (q := 229) (by decide) dX10_readItem_227 rfl ?_
    refine v_cSI3 (q := 232) dX10_readItem_229 mlX10_44 mdX10_isIn (by decide) ⟨Nat.le_refl 0, Nat.le_refl 0⟩ (by exact Nat.le_of_ble_eq_true rfl) rfl (c_X10_isIn _ _ _ _ (by omega) (by omega) (by omega)) ?_
    rintro _ _ ⟨rfl, rfl⟩
    refine v_if_neB (tgt := 241) (q := 235) dX10_readItem_232 (by decide) rfl (fun h232 => ?_) (fun h232 => ?_)
    · first | exact a241 mem a l hT ha hM hl c c6 h232 la _ _ _ | exact d241 mem a l hM hl _ _ (pI_bad7 c c6 h232) (by omega) la _ _ _ _ _ _ _ _
    · refine v_aload_n (j := 0) (q := 236) rfl dX10_readItem_235 rfl ?_
      refine v_iload (j := 7) (q := 238) rfl dX10_readItem_236 rfl ?_
      refine v_cVV1 (q := 241) dX10_readItem_238 mlX10_218 mdX10_fails (by decide) kd_116 rfl rfl ⟨Nat.le_refl 0, Nat.le_refl 0⟩ (by exact Nat.le_of_ble_eq_true rfl) rfl (c_X10_fails _ _ (-6) mem (by omega)) ?_
      rintro _ rfl
      rw [if_pos rfl]
      first | exact a241 mem a l hT ha hM hl c c6 h232 la _ _ _ | exact d241 mem a l hM hl _ _ (pI_bad7 c c6 h232) (by omega) la _ _ _ _ _ _ _ _
theorem a176 (mem : Mem) (a : Int) (l : List Rl) (hT : txR mem) (ha : 0 ≤ a) (hM : MD mem l) (hl : l.length < 20) (c : upC mem a) (c6 : ch (mem 119) (mem 116 5) 48 10 ((pW (mem 119) (mem 116 5) (mem 117 1) (a + 4)).2 + 1)) (la : Int) (u4 u9 : AV) :
    V cX10_readItem RX10 10 none (rmk 2 44) (riE mem a l) 176 [aR 116, aI la, aI (mem 119 a - 48), aI (mem 119 (a + 1) - 97 + 1), u4, aI (mem 119 (a + 3) - 48), aI (pW (mem 119) (mem 116 5) (mem 117 1) (a + 4)).1, aI ((pW (mem 119) (mem 116 5) (mem 117 1) (a + 4)).2 + 1), aI (mem 119 ((pW (mem 119) (mem 116 5) (mem 117 1) (a + 4)).2 + 1) - 48), u9] [] (stM mem ((pW (mem 119) (mem 116 5) (mem 117 1) (a + 4)).2 + 1 + 1) (-6)) := by
  have hL := hT.1
  have c6a := c6.1
  have w := pW_ok (mem 119) (mem 116 5) (mem 117 1) (a + 4) hM.2.1 (by have := c.2.2.2.1.1; omega)
  have h215 := a215 mem a l hT ha hM hl c c6 la u4 u9
  have hpc := pN_cases (mem 119) (mem 116 5) ((pW (mem 119) (mem 116 5) (mem 117 1) (a + 4)).2 + 1)
  generalize (pW (mem 119) (mem 116 5) (mem 117 1) (a + 4)) = Wd at *
  have hrr : R32 (hrT (mem 119) (mem 116 5) (Wd.2 + 1 + 1)) := by
    unfold hrT
    have := hT.2 (Wd.2 + 1 + 1)
    split <;> omega
  have hch := ch_here (T := mem 119) (L := mem 116 5) (f := 48) (h := 57) (a := Wd.2 + 1 + 1) (by omega)
  refine v_aload_n (j := 0) (q := 177) rfl dX10_readItem_176 rfl ?_
  refine v_getI (j := 17) (q := 180) dX10_readItem_177 fl_X10_211 kd_116 rfl rfl rfl ?_
  refine v_bipush (q := 182) (by decide) dX10_readItem_180 rfl ?_
  rw [stM_w]
  refine v_icmp_ne (tgt := 215) (q := 185) dX10_readItem_182 (by decide) rfl (by omega) (by omega) (fun h182 => ?_) (fun h182 => ?_)
  · exact absurd h182 (by omega)
  · refine v_aload_n (j := 0) (q := 186) rfl dX10_readItem_185 rfl ?_
    refine v_cVI0 (q := 189) dX10_readItem_186 mlX10_214 mdX10_here (by decide) kd_116 rfl rfl ⟨Nat.le_refl 0, Nat.le_refl 0⟩ (by exact Nat.le_of_ble_eq_true rfl) rfl (c_X10_here _ (-6) mem hT (by omega)) ?_
    rintro _ _ ⟨rfl, rfl⟩
    refine v_bipush (q := 191) (by decide) dX10_readItem_189 rfl ?_
    refine v_bipush (q := 193) (by decide) dX10_readItem_191 rfl ?_
    refine v_cSI3 (q := 196) dX10_readItem_193 mlX10_44 mdX10_isIn (by decide) ⟨Nat.le_refl 0, Nat.le_refl 0⟩ (by exact Nat.le_of_ble_eq_true rfl) rfl (c_X10_isIn _ _ _ _ hrr (by omega) (by omega)) ?_
    rintro _ _ ⟨rfl, rfl⟩
    refine v_if_eqB (tgt := 215) (q := 199) dX10_readItem_196 (by decide) rfl (fun h196 => ?_) (fun h196 => ?_)
    · rcases hpc with ⟨k1, e⟩ | ⟨k1, e⟩
      · first
          | exact absurd (hch.mpr k1) h196
          | (rw [e] at h215
             have e2 : (mem 119 (Wd.2 + 1) - 48) * 10 + (mem 119 (Wd.2 + 1 + 1) - 48) = 10 * (mem 119 (Wd.2 + 1) - 48) + (mem 119 (Wd.2 + 1 + 1) - 48) := by omega
             have e3 : Wd.2 + 1 + 2 = Wd.2 + 1 + 1 + 1 := by omega
             dsimp only at h215
             rw [e2, e3] at h215
             exact h215)
      · first
          | exact absurd c9 k1
          | (rw [e] at h215; exact h215)
    · have c9 := hch.mp h196
      have c9a := c9.1
      refine v_bipush (q := 201) (by decide) dX10_readItem_199 rfl ?_
      refine v_iload (j := 8) (q := 203) rfl dX10_readItem_201 rfl ?_
      refine v_imul (q := 204) dX10_readItem_203 rfl ?_
      refine v_aload_n (j := 0) (q := 205) rfl dX10_readItem_204 rfl ?_
      refine v_bipush (q := 207) (by decide) dX10_readItem_205 rfl ?_
      refine v_bipush (q := 209) (by decide) dX10_readItem_207 rfl ?_
      refine v_cVI2 (q := 212) dX10_readItem_209 mlX10_224 mdX10_take (by decide) kd_116 rfl rfl ⟨Nat.le_refl 0, Nat.le_refl 0⟩ (by exact Nat.le_of_ble_eq_true rfl) rfl (c_X10_take 48 57 10 (Wd.2 + 1 + 1) mem hT (by omega) (by omega) (by omega) (by omega)) ?_
      intro z m1 hor
      obtain ⟨-, rfl, rfl⟩ := hor.resolve_right (fun h => h.1 c9)
      refine v_iadd (q := 213) dX10_readItem_212 rfl ?_
      refine v_ist8 (q := 215) rfl dX10_readItem_213 (by decide) rfl ?_
      rcases hpc with ⟨k1, e⟩ | ⟨k1, e⟩
      · first
          | exact absurd (hch.mpr k1) h196
          | (rw [e] at h215
             have e2 : (mem 119 (Wd.2 + 1) - 48) * 10 + (mem 119 (Wd.2 + 1 + 1) - 48) = 10 * (mem 119 (Wd.2 + 1) - 48) + (mem 119 (Wd.2 + 1 + 1) - 48) := by omega
             have e3 : Wd.2 + 1 + 2 = Wd.2 + 1 + 1 + 1 := by omega
             dsimp only at h215
             rw [e2, e3] at h215
             exact h215)
      · first
          | exact absurd c9 k1
          | (rw [e] at h215; exact h215)
theorem a166 (mem : Mem) (a : Int) (l : List Rl) (hT : txR mem) (ha : 0 ≤ a) (hM : MD mem l) (hl : l.length < 20) (c : upC mem a) (la : Int) (u4 u8 u9 : AV) :
    V cX10_readItem RX10 10 none (rmk 2 44) (riE mem a l) 166 [aR 116, aI la, aI (mem 119 a - 48), aI (mem 119 (a + 1) - 97 + 1), u4, aI (mem 119 (a + 3) - 48), aI (pW (mem 119) (mem 116 5) (mem 117 1) (a + 4)).1, aI ((pW (mem 119) (mem 116 5) (mem 117 1) (a + 4)).2 + 1), u8, u9] [] (stM mem ((pW (mem 119) (mem 116 5) (mem 117 1) (a + 4)).2 + 1) (-6)) := by
  have hL := hT.1
  have c5a := c.2.2.2.2.1
  have w := pW_ok (mem 119) (mem 116 5) (mem 117 1) (a + 4) hM.2.1 (by have := c.2.2.2.1.1; omega)
  by_cases c6 : ch (mem 119) (mem 116 5) 48 10 ((pW (mem 119) (mem 116 5) (mem 117 1) (a + 4)).2 + 1)
  · skip
    refine v_aload_n (j := 0) (q := 167) rfl dX10_readItem_166 rfl ?_
    refine v_bipush (q := 169) (by decide) dX10_readItem_167 rfl ?_
    refine v_bipush (q := 171) (by decide) dX10_readItem_169 rfl ?_
    refine v_cVI2 (q := 174) dX10_readItem_171 mlX10_224 mdX10_take (by decide) kd_116 rfl rfl ⟨Nat.le_refl 0, Nat.le_refl 0⟩ (by exact Nat.le_of_ble_eq_true rfl) rfl (c_X10_take 48 57 10 _ mem hT (by omega) (by omega) (by omega) (by omega)) ?_
    intro z m1 hor
    obtain ⟨-, rfl, rfl⟩ := hor.resolve_right (fun h => h.1 c6)
    refine v_ist8 (q := 176) rfl dX10_readItem_174 (by decide) rfl ?_
    exact a176 mem a l hT ha hM hl c c6 la _ _
  · skip
    refine v_aload_n (j := 0) (q := 167) rfl dX10_readItem_166 rfl ?_
    refine v_bipush (q := 169) (by decide) dX10_readItem_167 rfl ?_
    refine v_bipush (q := 171) (by decide) dX10_readItem_169 rfl ?_
    refine v_cVI2 (q := 174) dX10_readItem_171 mlX10_224 mdX10_take (by decide) kd_116 rfl rfl ⟨Nat.le_refl 0, Nat.le_refl 0⟩ (by exact Nat.le_of_ble_eq_true rfl) rfl (c_X10_take 48 57 10 _ mem hT (by omega) (by omega) (by omega) (by omega)) ?_
    intro z m1 hor
    obtain ⟨-, rfl, rfl⟩ := hor.resolve_left (fun h => c6 h.1)
    refine v_ist8 (q := 176) rfl dX10_readItem_174 (by decide) rfl ?_
    exact d176 mem a l hM hl _ _ (pI_bad6 c c6) (by omega) la _ _ _ _ _ _ _ _
theorem a150 (mem : Mem) (a : Int) (l : List Rl) (hT : txR mem) (ha : 0 ≤ a) (hM : MD mem l) (hl : l.length < 20) (c1 : ch (mem 119) (mem 116 5) 48 (mem 117 0) a) (c2 : ch (mem 119) (mem 116 5) 97 (mem 117 1) (a + 1)) (c3 : ch (mem 119) (mem 116 5) 62 1 (a + 2)) (c4 : ch (mem 119) (mem 116 5) 48 (mem 117 0) (a + 3)) (la : Int) (u4 u7 u8 u9 : AV) :
    V cX10_readItem RX10 10 none (rmk 2 44) (riE mem a l) 150 [aR 116, aI la, aI (mem 119 a - 48), aI (mem 119 (a + 1) - 97 + 1), u4, aI (mem 119 (a + 3) - 48), aI (pW (mem 119) (mem 116 5) (mem 117 1) (a + 4)).1, u7, u8, u9] [] (stM mem (pW (mem 119) (mem 116 5) (mem 117 1) (a + 4)).2 (-6)) := by
  have hL := hT.1
  have c4a := c4.1
  have w := pW_ok (mem 119) (mem 116 5) (mem 117 1) (a + 4) hM.2.1 (by omega)
  by_cases c5 : ch (mem 119) (mem 116 5) 58 1 (pW (mem 119) (mem 116 5) (mem 117 1) (a + 4)).2
  · skip
    refine v_aload_n (j := 0) (q := 151) rfl dX10_readItem_150 rfl ?_
    refine v_bipush (q := 153) (by decide) dX10_readItem_151 rfl ?_
    refine v_bipush (q := 155) (by decide) dX10_readItem_153 rfl ?_
    refine v_cVI2 (q := 158) dX10_readItem_155 mlX10_224 mdX10_take (by decide) kd_116 rfl rfl ⟨Nat.le_refl 0, Nat.le_refl 0⟩ (by exact Nat.le_of_ble_eq_true rfl) rfl (c_X10_take 58 58 1 _ mem hT (by omega) (by omega) (by omega) (by omega)) ?_
    intro z m1 hor
    obtain ⟨-, rfl, rfl⟩ := hor.resolve_right (fun h => h.1 c5)
    refine v_ist4 (q := 160) rfl dX10_readItem_158 (by decide) rfl ?_
    refine v_aload_n (j := 0) (q := 161) rfl dX10_readItem_160 rfl ?_
    refine v_getI (j := 16) (q := 164) dX10_readItem_161 fl_X10_208 kd_116 rfl rfl rfl ?_
    rw [stM_a]
    refine v_ist7 (q := 166) rfl dX10_readItem_164 (by decide) rfl ?_
    exact a166 mem a l hT ha hM hl ⟨c1, c2, c3, c4, c5⟩ la _ _ _
  · skip
    refine v_aload_n (j := 0) (q := 151) rfl dX10_readItem_150 rfl ?_
    refine v_bipush (q := 153) (by decide) dX10_readItem_151 rfl ?_
    refine v_bipush (q := 155) (by decide) dX10_readItem_153 rfl ?_
    refine v_cVI2 (q := 158) dX10_readItem_155 mlX10_224 mdX10_take (by decide) kd_116 rfl rfl ⟨Nat.le_refl 0, Nat.le_refl 0⟩ (by exact Nat.le_of_ble_eq_true rfl) rfl (c_X10_take 58 58 1 _ mem hT (by omega) (by omega) (by omega) (by omega)) ?_
    intro z m1 hor
    obtain ⟨-, rfl, rfl⟩ := hor.resolve_left (fun h => c5 h.1)
    refine v_ist4 (q := 160) rfl dX10_readItem_158 (by decide) rfl ?_
    refine v_aload_n (j := 0) (q := 161) rfl dX10_readItem_160 rfl ?_
    refine v_getI (j := 16) (q := 164) dX10_readItem_161 fl_X10_208 kd_116 rfl rfl rfl ?_
    refine v_ist7 (q := 166) rfl dX10_readItem_164 (by decide) rfl ?_
    exact d166 mem a l hM hl _ _ (pI_bad5 c1 c2 c3 c4 c5) (by omega) la _ _ _ _ _ _ _ _ rfl
theorem a93 (mem : Mem) (a : Int) (l : List Rl) (hT : txR mem) (ha : 0 ≤ a) (hM : MD mem l) (hl : l.length < 20) (c1 : ch (mem 119) (mem 116 5) 48 (mem 117 0) a) (c2 : ch (mem 119) (mem 116 5) 97 (mem 117 1) (a + 1)) (c3 : ch (mem 119) (mem 116 5) 62 1 (a + 2)) (c4 : ch (mem 119) (mem 116 5) 48 (mem 117 0) (a + 3)) (u4 u8 u9 : AV) :
    V cX10_readItem RX10 10 none (rmk 2 44) (riE mem a l) 93 [aR 116, aI (mem 117 1 - 1), aI (mem 119 a - 48), aI (mem 119 (a + 1) - 97 + 1), u4, aI (mem 119 (a + 3) - 48), aI 0, aI 0, u8, u9] [] (stM mem (a + 4) (-6)) := by
  have hL := hT.1
  have hG := hM.2.1
  have c4a := c4.1
  have hrr : ∀ b, 0 ≤ b → R32 (hrT (mem 119) (mem 116 5) b) := fun b hb => by
    unfold hrT
    have := hT.2 b hb
    split <;> omega
  have hch : ∀ b, (97 ≤ hrT (mem 119) (mem 116 5) b ∧ hrT (mem 119) (mem 116 5) b ≤ 97 + (mem 117 1 - 1)) ↔ ch (mem 119) (mem 116 5) 97 (mem 117 1) b := fun b => by
    have := ch_here (T := mem 119) (L := mem 116 5) (f := 97) (h := 97 + (mem 117 1 - 1)) (a := b) (by omega)
    rw [show 97 + (mem 117 1 - 1) - 97 + 1 = mem 117 1 by omega] at this
    exact this
  have fin : ∀ u7, V cX10_readItem RX10 10 none (rmk 2 44) (riE mem a l) 150 [aR 116, aI (mem 117 1 - 1), aI (mem 119 a - 48), aI (mem 119 (a + 1) - 97 + 1), u4, aI (mem 119 (a + 3) - 48), aI (pW (mem 119) (mem 116 5) (mem 117 1) (a + 4)).1, u7, u8, u9] [] (stM mem (pW (mem 119) (mem 116 5) (mem 117 1) (a + 4)).2 (-6)) := fun u7 => a150 mem a l hT ha hM hl c1 c2 c3 c4 _ u4 u7 u8 u9
  rcases pW_cases (mem 119) (mem 116 5) (mem 117 1) (a + 4) with ⟨k1, k2, e⟩ | ⟨k1, k2, e⟩ | ⟨k1, e⟩
  · rw [e] at fin
    have k1a := k1.1
    have k2a := k2.1
    refine v_iload (j := 7) (q := 95) rfl dX10_readItem_93 rfl ?_
    refine v_iconst (q := 96) dX10_readItem_95 rfl ?_
    refine v_icmp_ge (tgt := 150) (q := 99) dX10_readItem_96 (by decide) rfl (by omega) (by omega) (fun h96 => ?_) (fun h96 => ?_)
    · exact absurd h96 (by first | omega | exact fun h => h ((hch _).mpr k1) | exact fun h => h ((hch _).mpr k2))
    · refine v_aload_n (j := 0) (q := 100) rfl dX10_readItem_99 rfl ?_
      refine v_getI (j := 17) (q := 103) dX10_readItem_100 fl_X10_211 kd_116 rfl rfl rfl ?_
      refine v_bipush (q := 105) (by decide) dX10_readItem_103 rfl ?_
      rw [stM_w]
      refine v_icmp_ne (tgt := 150) (q := 108) dX10_readItem_105 (by decide) rfl (by omega) (by omega) (fun h105 => ?_) (fun h105 => ?_)
      · exact absurd h105 (by first | omega | exact fun h => h ((hch _).mpr k1) | exact fun h => h ((hch _).mpr k2))
      · refine v_aload_n (j := 0) (q := 109) rfl dX10_readItem_108 rfl ?_
        refine v_cVI0 (q := 112) dX10_readItem_109 mlX10_214 mdX10_here (by decide) kd_116 rfl rfl ⟨Nat.le_refl 0, Nat.le_refl 0⟩ (by exact Nat.le_of_ble_eq_true rfl) rfl (c_X10_here _ (-6) mem hT (by omega)) ?_
        rintro _ _ ⟨rfl, rfl⟩
        refine v_bipush (q := 114) (by decide) dX10_readItem_112 rfl ?_
        refine v_bipush (q := 116) (by decide) dX10_readItem_114 rfl ?_
        refine v_iload_n (j := 1) (q := 117) rfl dX10_readItem_116 rfl ?_
        refine v_iadd (q := 118) dX10_readItem_117 rfl ?_
        refine v_cSI3 (q := 121) dX10_readItem_118 mlX10_44 mdX10_isIn (by decide) ⟨Nat.le_refl 0, Nat.le_refl 0⟩ (by exact Nat.le_of_ble_eq_true rfl) rfl (c_X10_isIn _ _ _ _ (hrr _ (by omega)) (by omega) (by omega)) ?_
        rintro _ _ ⟨rfl, rfl⟩
        refine v_if_eqB (tgt := 150) (q := 124) dX10_readItem_121 (by decide) rfl (fun h121 => ?_) (fun h121 => ?_)
        · exact absurd h121 (by first | omega | exact fun h => h ((hch _).mpr k1) | exact fun h => h ((hch _).mpr k2))
        · refine v_bipush (q := 126) (by decide) dX10_readItem_124 rfl ?_
          refine v_iload (j := 6) (q := 128) rfl dX10_readItem_126 rfl ?_
          refine v_imul (q := 129) dX10_readItem_128 rfl ?_
          refine v_aload_n (j := 0) (q := 130) rfl dX10_readItem_129 rfl ?_
          refine v_bipush (q := 132) (by decide) dX10_readItem_130 rfl ?_
          refine v_bipush (q := 134) (by decide) dX10_readItem_132 rfl ?_
          refine v_iload_n (j := 1) (q := 135) rfl dX10_readItem_134 rfl ?_
          refine v_iadd (q := 136) dX10_readItem_135 rfl ?_
          refine v_cVI2 (q := 139) dX10_readItem_136 mlX10_224 mdX10_take (by decide) kd_116 rfl rfl ⟨Nat.le_refl 0, Nat.le_refl 0⟩ (by exact Nat.le_of_ble_eq_true rfl) rfl (c_X10_take 97 _ (mem 117 1) _ mem hT (by omega) (by omega) (by omega) (by omega)) ?_
          intro z m1 hor
          obtain ⟨-, rfl, rfl⟩ := hor.resolve_right (fun h => h.1 (by first | exact k1 | exact k2))
          refine v_iadd (q := 140) dX10_readItem_139 rfl ?_
          refine v_iconst (q := 141) dX10_readItem_140 rfl ?_
          refine v_iadd (q := 142) dX10_readItem_141 rfl ?_
          refine v_ist6 (q := 144) rfl dX10_readItem_142 (by decide) rfl ?_
          refine v_iinc7 (q := 147) rfl dX10_readItem_144 (by decide) rfl ?_
          refine v_goto (q := 93) dX10_readItem_147 (by decide) ?_
          refine v_iload (j := 7) (q := 95) rfl dX10_readItem_93 rfl ?_
          refine v_iconst (q := 96) dX10_readItem_95 rfl ?_
          refine v_icmp_ge (tgt := 150) (q := 99) dX10_readItem_96 (by decide) rfl (by omega) (by omega) (fun h96 => ?_) (fun h96 => ?_)
          · exact absurd h96 (by first | omega | exact fun h => h ((hch _).mpr k1) | exact fun h => h ((hch _).mpr k2))
          · refine v_aload_n (j := 0) (q := 100) rfl dX10_readItem_99 rfl ?_
            refine v_getI (j := 17) (q := 103) dX10_readItem_100 fl_X10_211 kd_116 rfl rfl rfl ?_
            refine v_bipush (q := 105) (by decide) dX10_readItem_103 rfl ?_
            rw [stM_w]
            refine v_icmp_ne (tgt := 150) (q := 108) dX10_readItem_105 (by decide) rfl (by omega) (by omega) (fun h105 => ?_) (fun h105 => ?_)
            · exact absurd h105 (by first | omega | exact fun h => h ((hch _).mpr k1) | exact fun h => h ((hch _).mpr k2))
            · refine v_aload_n (j := 0) (q := 109) rfl dX10_readItem_108 rfl ?_
              refine v_cVI0 (q := 112) dX10_readItem_109 mlX10_214 mdX10_here (by decide) kd_116 rfl rfl ⟨Nat.le_refl 0, Nat.le_refl 0⟩ (by exact Nat.le_of_ble_eq_true rfl) rfl (c_X10_here _ (-6) mem hT (by omega)) ?_
              rintro _ _ ⟨rfl, rfl⟩
              refine v_bipush (q := 114) (by decide) dX10_readItem_112 rfl ?_
              refine v_bipush (q := 116) (by decide) dX10_readItem_114 rfl ?_
              refine v_iload_n (j := 1) (q := 117) rfl dX10_readItem_116 rfl ?_
              refine v_iadd (q := 118) dX10_readItem_117 rfl ?_
              refine v_cSI3 (q := 121) dX10_readItem_118 mlX10_44 mdX10_isIn (by decide) ⟨Nat.le_refl 0, Nat.le_refl 0⟩ (by exact Nat.le_of_ble_eq_true rfl) rfl (c_X10_isIn _ _ _ _ (hrr _ (by omega)) (by omega) (by omega)) ?_
              rintro _ _ ⟨rfl, rfl⟩
              refine v_if_eqB (tgt := 150) (q := 124) dX10_readItem_121 (by decide) rfl (fun h121 => ?_) (fun h121 => ?_)
              · exact absurd h121 (by first | omega | exact fun h => h ((hch _).mpr k1) | exact fun h => h ((hch _).mpr k2))
              · refine v_bipush (q := 126) (by decide) dX10_readItem_124 rfl ?_
                refine v_iload (j := 6) (q := 128) rfl dX10_readItem_126 rfl ?_
                refine v_imul (q := 129) dX10_readItem_128 rfl ?_
                refine v_aload_n (j := 0) (q := 130) rfl dX10_readItem_129 rfl ?_
                refine v_bipush (q := 132) (by decide) dX10_readItem_130 rfl ?_
                refine v_bipush (q := 134) (by decide) dX10_readItem_132 rfl ?_
                refine v_iload_n (j := 1) (q := 135) rfl dX10_readItem_134 rfl ?_
                refine v_iadd (q := 136) dX10_readItem_135 rfl ?_
                refine v_cVI2 (q := 139) dX10_readItem_136 mlX10_224 mdX10_take (by decide) kd_116 rfl rfl ⟨Nat.le_refl 0, Nat.le_refl 0⟩ (by exact Nat.le_of_ble_eq_true rfl) rfl (c_X10_take 97 _ (mem 117 1) _ mem hT (by omega) (by omega) (by omega) (by omega)) ?_
                intro z m1 hor
                obtain ⟨-, rfl, rfl⟩ := hor.resolve_right (fun h => h.1 (by first | exact k1 | exact k2))
                refine v_iadd (q := 140) dX10_readItem_139 rfl ?_
                refine v_iconst (q := 141) dX10_readItem_140 rfl ?_
                refine v_iadd (q := 142) dX10_readItem_141 rfl ?_
                refine v_ist6 (q := 144) rfl dX10_readItem_142 (by decide) rfl ?_
                refine v_iinc7 (q := 147) rfl dX10_readItem_144 (by decide) rfl ?_
                refine v_goto (q := 93) dX10_readItem_147 (by decide) ?_
                refine v_iload (j := 7) (q := 95) rfl dX10_readItem_93 rfl ?_
                refine v_iconst (q := 96) dX10_readItem_95 rfl ?_
                refine v_icmp_ge (tgt := 150) (q := 99) dX10_readItem_96 (by decide) rfl (by omega) (by omega) (fun h96 => ?_) (fun h96 => ?_)
                · have f2 := fin (aI (0 + 1 + 1))
                  dsimp only at f2
                  rw [show (mem 119 (a + 4) - 97 + 1) * 10 + (mem 119 (a + 4 + 1) - 97) + 1 = 10 * (10 * 0 + (mem 119 (a + 4) - 97) + 1) + (mem 119 (a + 4 + 1) - 97) + 1 by omega, show a + 4 + 2 = a + 4 + 1 + 1 by omega] at f2
                  exact f2
                · exact absurd h96 (by first | omega | exact fun h => h ((hch _).mpr k1) | exact fun h => h ((hch _).mpr k2))
  · rw [e] at fin
    have k1a := k1.1
    refine v_iload (j := 7) (q := 95) rfl dX10_readItem_93 rfl ?_
    refine v_iconst (q := 96) dX10_readItem_95 rfl ?_
    refine v_icmp_ge (tgt := 150) (q := 99) dX10_readItem_96 (by decide) rfl (by omega) (by omega) (fun h96 => ?_) (fun h96 => ?_)
    · exact absurd h96 (by first | omega | exact fun h => h ((hch _).mpr k1) | exact fun h => k2 ((hch _).mp h))
    · refine v_aload_n (j := 0) (q := 100) rfl dX10_readItem_99 rfl ?_
      refine v_getI (j := 17) (q := 103) dX10_readItem_100 fl_X10_211 kd_116 rfl rfl rfl ?_
      refine v_bipush (q := 105) (by decide) dX10_readItem_103 rfl ?_
      rw [stM_w]
      refine v_icmp_ne (tgt := 150) (q := 108) dX10_readItem_105 (by decide) rfl (by omega) (by omega) (fun h105 => ?_) (fun h105 => ?_)
      · exact absurd h105 (by first | omega | exact fun h => h ((hch _).mpr k1) | exact fun h => k2 ((hch _).mp h))
      · refine v_aload_n (j := 0) (q := 109) rfl dX10_readItem_108 rfl ?_
        refine v_cVI0 (q := 112) dX10_readItem_109 mlX10_214 mdX10_here (by decide) kd_116 rfl rfl ⟨Nat.le_refl 0, Nat.le_refl 0⟩ (by exact Nat.le_of_ble_eq_true rfl) rfl (c_X10_here _ (-6) mem hT (by omega)) ?_
        rintro _ _ ⟨rfl, rfl⟩
        refine v_bipush (q := 114) (by decide) dX10_readItem_112 rfl ?_
        refine v_bipush (q := 116) (by decide) dX10_readItem_114 rfl ?_
        refine v_iload_n (j := 1) (q := 117) rfl dX10_readItem_116 rfl ?_
        refine v_iadd (q := 118) dX10_readItem_117 rfl ?_
        refine v_cSI3 (q := 121) dX10_readItem_118 mlX10_44 mdX10_isIn (by decide) ⟨Nat.le_refl 0, Nat.le_refl 0⟩ (by exact Nat.le_of_ble_eq_true rfl) rfl (c_X10_isIn _ _ _ _ (hrr _ (by omega)) (by omega) (by omega)) ?_
        rintro _ _ ⟨rfl, rfl⟩
        refine v_if_eqB (tgt := 150) (q := 124) dX10_readItem_121 (by decide) rfl (fun h121 => ?_) (fun h121 => ?_)
        · exact absurd h121 (by first | omega | exact fun h => h ((hch _).mpr k1) | exact fun h => k2 ((hch _).mp h))
        · refine v_bipush (q := 126) (by decide) dX10_readItem_124 rfl ?_
          refine v_iload (j := 6) (q := 128) rfl dX10_readItem_126 rfl ?_
          refine v_imul (q := 129) dX10_readItem_128 rfl ?_
          refine v_aload_n (j := 0) (q := 130) rfl dX10_readItem_129 rfl ?_
          refine v_bipush (q := 132) (by decide) dX10_readItem_130 rfl ?_
          refine v_bipush (q := 134) (by decide) dX10_readItem_132 rfl ?_
          refine v_iload_n (j := 1) (q := 135) rfl dX10_readItem_134 rfl ?_
          refine v_iadd (q := 136) dX10_readItem_135 rfl ?_
          refine v_cVI2 (q := 139) dX10_readItem_136 mlX10_224 mdX10_take (by decide) kd_116 rfl rfl ⟨Nat.le_refl 0, Nat.le_refl 0⟩ (by exact Nat.le_of_ble_eq_true rfl) rfl (c_X10_take 97 _ (mem 117 1) _ mem hT (by omega) (by omega) (by omega) (by omega)) ?_
          intro z m1 hor
          obtain ⟨-, rfl, rfl⟩ := hor.resolve_right (fun h => h.1 k1)
          refine v_iadd (q := 140) dX10_readItem_139 rfl ?_
          refine v_iconst (q := 141) dX10_readItem_140 rfl ?_
          refine v_iadd (q := 142) dX10_readItem_141 rfl ?_
          refine v_ist6 (q := 144) rfl dX10_readItem_142 (by decide) rfl ?_
          refine v_iinc7 (q := 147) rfl dX10_readItem_144 (by decide) rfl ?_
          refine v_goto (q := 93) dX10_readItem_147 (by decide) ?_
          refine v_iload (j := 7) (q := 95) rfl dX10_readItem_93 rfl ?_
          refine v_iconst (q := 96) dX10_readItem_95 rfl ?_
          refine v_icmp_ge (tgt := 150) (q := 99) dX10_readItem_96 (by decide) rfl (by omega) (by omega) (fun h96 => ?_) (fun h96 => ?_)
          · exact absurd h96 (by first | omega | exact fun h => h ((hch _).mpr k1) | exact fun h => k2 ((hch _).mp h))
          · refine v_aload_n (j := 0) (q := 100) rfl dX10_readItem_99 rfl ?_
            refine v_getI (j := 17) (q := 103) dX10_readItem_100 fl_X10_211 kd_116 rfl rfl rfl ?_
            refine v_bipush (q := 105) (by decide) dX10_readItem_103 rfl ?_
            rw [stM_w]
            refine v_icmp_ne (tgt := 150) (q := 108) dX10_readItem_105 (by decide) rfl (by omega) (by omega) (fun h105 => ?_) (fun h105 => ?_)
            · exact absurd h105 (by first | omega | exact fun h => h ((hch _).mpr k1) | exact fun h => k2 ((hch _).mp h))
            · refine v_aload_n (j := 0) (q := 109) rfl dX10_readItem_108 rfl ?_
              refine v_cVI0 (q := 112) dX10_readItem_109 mlX10_214 mdX10_here (by decide) kd_116 rfl rfl ⟨Nat.le_refl 0, Nat.le_refl 0⟩ (by exact Nat.le_of_ble_eq_true rfl) rfl (c_X10_here _ (-6) mem hT (by omega)) ?_
              rintro _ _ ⟨rfl, rfl⟩
              refine v_bipush (q := 114) (by decide) dX10_readItem_112 rfl ?_
              refine v_bipush (q := 116) (by decide) dX10_readItem_114 rfl ?_
              refine v_iload_n (j := 1) (q := 117) rfl dX10_readItem_116 rfl ?_
              refine v_iadd (q := 118) dX10_readItem_117 rfl ?_
              refine v_cSI3 (q := 121) dX10_readItem_118 mlX10_44 mdX10_isIn (by decide) ⟨Nat.le_refl 0, Nat.le_refl 0⟩ (by exact Nat.le_of_ble_eq_true rfl) rfl (c_X10_isIn _ _ _ _ (hrr _ (by omega)) (by omega) (by omega)) ?_
              rintro _ _ ⟨rfl, rfl⟩
              refine v_if_eqB (tgt := 150) (q := 124) dX10_readItem_121 (by decide) rfl (fun h121 => ?_) (fun h121 => ?_)
              · have f2 := fin (aI (0 + 1))
                dsimp only at f2
                rw [show mem 119 (a + 4) - 97 + 1 = 10 * 0 + (mem 119 (a + 4) - 97) + 1 by omega] at f2
                exact f2
              · exact absurd h121 (by first | omega | exact fun h => h ((hch _).mpr k1) | exact fun h => k2 ((hch _).mp h))
  · rw [e] at fin
    refine v_iload (j := 7) (q := 95) rfl dX10_readItem_93 rfl ?_
    refine v_iconst (q := 96) dX10_readItem_95 rfl ?_
    refine v_icmp_ge (tgt := 150) (q := 99) dX10_readItem_96 (by decide) rfl (by omega) (by omega) (fun h96 => ?_) (fun h96 => ?_)
    · exact absurd h96 (by first | omega | exact fun h => k1 ((hch _).mp h))
    · refine v_aload_n (j := 0) (q := 100) rfl dX10_readItem_99 rfl ?_
      refine v_getI (j := 17) (q := 103) dX10_readItem_100 fl_X10_211 kd_116 rfl rfl rfl ?_
      refine v_bipush (q := 105) (by decide) dX10_readItem_103 rfl ?_
      rw [stM_w]
      refine v_icmp_ne (tgt := 150) (q := 108) dX10_readItem_105 (by decide) rfl (by omega) (by omega) (fun h105 => ?_) (fun h105 => ?_)
      · exact absurd h105 (by first | omega | exact fun h => k1 ((hch _).mp h))
      · refine v_aload_n (j := 0) (q := 109) rfl dX10_readItem_108 rfl ?_
        refine v_cVI0 (q := 112) dX10_readItem_109 mlX10_214 mdX10_here (by decide) kd_116 rfl rfl ⟨Nat.le_refl 0, Nat.le_refl 0⟩ (by exact Nat.le_of_ble_eq_true rfl) rfl (c_X10_here _ (-6) mem hT (by omega)) ?_
        rintro _ _ ⟨rfl, rfl⟩
        refine v_bipush (q := 114) (by decide) dX10_readItem_112 rfl ?_
        refine v_bipush (q := 116) (by decide) dX10_readItem_114 rfl ?_
        refine v_iload_n (j := 1) (q := 117) rfl dX10_readItem_116 rfl ?_
        refine v_iadd (q := 118) dX10_readItem_117 rfl ?_
        refine v_cSI3 (q := 121) dX10_readItem_118 mlX10_44 mdX10_isIn (by decide) ⟨Nat.le_refl 0, Nat.le_refl 0⟩ (by exact Nat.le_of_ble_eq_true rfl) rfl (c_X10_isIn _ _ _ _ (hrr _ (by omega)) (by omega) (by omega)) ?_
        rintro _ _ ⟨rfl, rfl⟩
        refine v_if_eqB (tgt := 150) (q := 124) dX10_readItem_121 (by decide) rfl (fun h121 => ?_) (fun h121 => ?_)
        · exact fin _
        · exact absurd h121 (by first | omega | exact fun h => k1 ((hch _).mp h))
theorem c_X10_readItem (a : Int) (l : List Rl) (mem : Mem) (hT : txR mem) (ha : 0 ≤ a ∧ a ≤ mem 116 5) (hM : MD mem l) (hl : l.length < 20) : CtrV mX10_readItem [aR 116] (stM mem a (-6)) (riQ mem a l) := by
  have hL := hT.1
  have hS := hM.1
  have hG := hM.2.1
  have hi := hM.2.2.1
  have nn : ∀ {P : Prop}, P → ¬ ¬ P := fun h h2 => h2 h
  have e7 : ∀ b w, stM mem b w 117 = mem 117 := fun b w => stM_ne _ _ _ (by decide)
  by_cases c1 : ch (mem 119) (mem 116 5) 48 (mem 117 0) a
  rotate_left
  · have hp : pI mem a l = .inl a := by unfold pI pItem; rw [if_pos c1]
    refine Ctr.ofV (ls := [aR 116, aU, aU, aU, aU, aU, aU, aU, aU, aU]) rfl (by decide) rfl (Nat.le_of_ble_eq_true rfl) ?_
    refine v_aload_n (j := 0) (q := 1) rfl dX10_readItem_0 rfl ?_
    refine v_getI (j := 19) (q := 4) dX10_readItem_1 fl_X10_221 kd_116 rfl rfl rfl ?_
    refine v_bipush (q := 6) (by decide) dX10_readItem_4 rfl ?_
    rw [stM_j _ _ _ (by omega) (by omega)]
    refine v_icmp_ne (tgt := 18) (q := 9) dX10_readItem_6 (by decide) rfl (by omega) (by omega) (fun h6 => ?_) (fun h6 => ?_)
    · refine v_aload_n (j := 0) (q := 19) rfl dX10_readItem_18 rfl ?_
      refine v_getR (p' := 117) (q := 22) dX10_readItem_19 fl_X10_7 kd_116 rfl (rfc_10_0 kd_116) rfl ?_
      refine v_iconst (q := 23) dX10_readItem_22 rfl ?_
      refine v_iald (q := 24) dX10_readItem_23 kd_117 (by omega) (by omega) rfl ?_
      rw [e7]
      refine v_iconst (q := 25) dX10_readItem_24 rfl ?_
      refine v_isub (q := 26) dX10_readItem_25 rfl ?_
      refine v_ist1 (q := 27) rfl dX10_readItem_26 (by decide) rfl ?_
      refine v_aload_n (j := 0) (q := 28) rfl dX10_readItem_27 rfl ?_
      refine v_bipush (q := 30) (by decide) dX10_readItem_28 rfl ?_
      refine v_bipush (q := 32) (by decide) dX10_readItem_30 rfl ?_
      refine v_aload_n (j := 0) (q := 33) rfl dX10_readItem_32 rfl ?_
      refine v_getR (p' := 117) (q := 36) dX10_readItem_33 fl_X10_7 kd_116 rfl (rfc_10_0 kd_116) rfl ?_
      refine v_iconst (q := 37) dX10_readItem_36 rfl ?_
      refine v_iald (q := 38) dX10_readItem_37 kd_117 (by omega) (by omega) rfl ?_
      rw [e7]
      refine v_iadd (q := 39) dX10_readItem_38 rfl ?_
      refine v_iconst (q := 40) dX10_readItem_39 rfl ?_
      refine v_isub (q := 41) dX10_readItem_40 rfl ?_
      refine v_cVI2 (q := 44) dX10_readItem_41 mlX10_224 mdX10_take (by decide) kd_116 rfl rfl ⟨Nat.le_refl 0, Nat.le_refl 0⟩ (by exact Nat.le_of_ble_eq_true rfl) rfl (c_X10_take 48 _ (mem 117 0) a mem hT ha (by omega) (by omega) (by omega)) ?_
      intro z m1 hor
      obtain ⟨-, rfl, rfl⟩ := hor.resolve_left (fun h => c1 h.1)
      refine v_ist2 (q := 45) rfl dX10_readItem_44 (by decide) rfl ?_
      exact d45 mem a l hM hl a a hp (by omega) _ _ _ _ _ _ _ _ _ rfl
    · exact absurd h6 (by omega)
  have c1a := c1.1
  by_cases c2 : ch (mem 119) (mem 116 5) 97 (mem 117 1) (a + 1)
  rotate_left
  · have hp : pI mem a l = .inl (a + 1) := by unfold pI pItem; rw [if_neg (nn c1), if_pos c2]
    refine Ctr.ofV (ls := [aR 116, aU, aU, aU, aU, aU, aU, aU, aU, aU]) rfl (by decide) rfl (Nat.le_of_ble_eq_true rfl) ?_
    refine v_aload_n (j := 0) (q := 1) rfl dX10_readItem_0 rfl ?_
    refine v_getI (j := 19) (q := 4) dX10_readItem_1 fl_X10_221 kd_116 rfl rfl rfl ?_
    refine v_bipush (q := 6) (by decide) dX10_readItem_4 rfl ?_
    rw [stM_j _ _ _ (by omega) (by omega)]
    refine v_icmp_ne (tgt := 18) (q := 9) dX10_readItem_6 (by decide) rfl (by omega) (by omega) (fun h6 => ?_) (fun h6 => ?_)
    · refine v_aload_n (j := 0) (q := 19) rfl dX10_readItem_18 rfl ?_
      refine v_getR (p' := 117) (q := 22) dX10_readItem_19 fl_X10_7 kd_116 rfl (rfc_10_0 kd_116) rfl ?_
      refine v_iconst (q := 23) dX10_readItem_22 rfl ?_
      refine v_iald (q := 24) dX10_readItem_23 kd_117 (by omega) (by omega) rfl ?_
      rw [e7]
      refine v_iconst (q := 25) dX10_readItem_24 rfl ?_
      refine v_isub (q := 26) dX10_readItem_25 rfl ?_
      refine v_ist1 (q := 27) rfl dX10_readItem_26 (by decide) rfl ?_
      refine v_aload_n (j := 0) (q := 28) rfl dX10_readItem_27 rfl ?_
      refine v_bipush (q := 30) (by decide) dX10_readItem_28 rfl ?_
      refine v_bipush (q := 32) (by decide) dX10_readItem_30 rfl ?_
      refine v_aload_n (j := 0) (q := 33) rfl dX10_readItem_32 rfl ?_
      refine v_getR (p' := 117) (q := 36) dX10_readItem_33 fl_X10_7 kd_116 rfl (rfc_10_0 kd_116) rfl ?_
      refine v_iconst (q := 37) dX10_readItem_36 rfl ?_
      refine v_iald (q := 38) dX10_readItem_37 kd_117 (by omega) (by omega) rfl ?_
      rw [e7]
      refine v_iadd (q := 39) dX10_readItem_38 rfl ?_
      refine v_iconst (q := 40) dX10_readItem_39 rfl ?_
      refine v_isub (q := 41) dX10_readItem_40 rfl ?_
      refine v_cVI2 (q := 44) dX10_readItem_41 mlX10_224 mdX10_take (by decide) kd_116 rfl rfl ⟨Nat.le_refl 0, Nat.le_refl 0⟩ (by exact Nat.le_of_ble_eq_true rfl) rfl (c_X10_take 48 _ (mem 117 0) a mem hT ha (by omega) (by omega) (by omega)) ?_
      intro z m1 hor
      obtain ⟨-, rfl, rfl⟩ := hor.resolve_right (fun h => h.1 c1)
      refine v_ist2 (q := 45) rfl dX10_readItem_44 (by decide) rfl ?_
      refine v_aload_n (j := 0) (q := 46) rfl dX10_readItem_45 rfl ?_
      refine v_bipush (q := 48) (by decide) dX10_readItem_46 rfl ?_
      refine v_bipush (q := 50) (by decide) dX10_readItem_48 rfl ?_
      refine v_iload_n (j := 1) (q := 51) rfl dX10_readItem_50 rfl ?_
      refine v_iadd (q := 52) dX10_readItem_51 rfl ?_
      refine v_cVI2 (q := 55) dX10_readItem_52 mlX10_224 mdX10_take (by decide) kd_116 rfl rfl ⟨Nat.le_refl 0, Nat.le_refl 0⟩ (by exact Nat.le_of_ble_eq_true rfl) rfl (c_X10_take 97 _ (mem 117 1) (a + 1) mem hT (by omega) (by omega) (by omega) (by omega)) ?_
      intro z m1 hor
      obtain ⟨-, rfl, rfl⟩ := hor.resolve_left (fun h => c2 h.1)
      refine v_iconst (q := 56) dX10_readItem_55 rfl ?_
      refine v_iadd (q := 57) dX10_readItem_56 rfl ?_
      refine v_ist3 (q := 58) rfl dX10_readItem_57 (by decide) rfl ?_
      exact d58 mem a l hM hl _ _ hp (by omega) _ _ _ _ _ _ _ _ _ rfl
    · exact absurd h6 (by omega)
  have c2a := c2.1
  by_cases c3 : ch (mem 119) (mem 116 5) 62 1 (a + 2)
  rotate_left
  · have hp : pI mem a l = .inl (a + 2) := by unfold pI pItem; rw [if_neg (nn c1), if_neg (nn c2), if_pos c3]
    refine Ctr.ofV (ls := [aR 116, aU, aU, aU, aU, aU, aU, aU, aU, aU]) rfl (by decide) rfl (Nat.le_of_ble_eq_true rfl) ?_
    refine v_aload_n (j := 0) (q := 1) rfl dX10_readItem_0 rfl ?_
    refine v_getI (j := 19) (q := 4) dX10_readItem_1 fl_X10_221 kd_116 rfl rfl rfl ?_
    refine v_bipush (q := 6) (by decide) dX10_readItem_4 rfl ?_
    rw [stM_j _ _ _ (by omega) (by omega)]
    refine v_icmp_ne (tgt := 18) (q := 9) dX10_readItem_6 (by decide) rfl (by omega) (by omega) (fun h6 => ?_) (fun h6 => ?_)
    · refine v_aload_n (j := 0) (q := 19) rfl dX10_readItem_18 rfl ?_
      refine v_getR (p' := 117) (q := 22) dX10_readItem_19 fl_X10_7 kd_116 rfl (rfc_10_0 kd_116) rfl ?_
      refine v_iconst (q := 23) dX10_readItem_22 rfl ?_
      refine v_iald (q := 24) dX10_readItem_23 kd_117 (by omega) (by omega) rfl ?_
      rw [e7]
      refine v_iconst (q := 25) dX10_readItem_24 rfl ?_
      refine v_isub (q := 26) dX10_readItem_25 rfl ?_
      refine v_ist1 (q := 27) rfl dX10_readItem_26 (by decide) rfl ?_
      refine v_aload_n (j := 0) (q := 28) rfl dX10_readItem_27 rfl ?_
      refine v_bipush (q := 30) (by decide) dX10_readItem_28 rfl ?_
      refine v_bipush (q := 32) (by decide) dX10_readItem_30 rfl ?_
      refine v_aload_n (j := 0) (q := 33) rfl dX10_readItem_32 rfl ?_
      refine v_getR (p' := 117) (q := 36) dX10_readItem_33 fl_X10_7 kd_116 rfl (rfc_10_0 kd_116) rfl ?_
      refine v_iconst (q := 37) dX10_readItem_36 rfl ?_
      refine v_iald (q := 38) dX10_readItem_37 kd_117 (by omega) (by omega) rfl ?_
      rw [e7]
      refine v_iadd (q := 39) dX10_readItem_38 rfl ?_
      refine v_iconst (q := 40) dX10_readItem_39 rfl ?_
      refine v_isub (q := 41) dX10_readItem_40 rfl ?_
      refine v_cVI2 (q := 44) dX10_readItem_41 mlX10_224 mdX10_take (by decide) kd_116 rfl rfl ⟨Nat.le_refl 0, Nat.le_refl 0⟩ (by exact Nat.le_of_ble_eq_true rfl) rfl (c_X10_take 48 _ (mem 117 0) a mem hT ha (by omega) (by omega) (by omega)) ?_
      intro z m1 hor
      obtain ⟨-, rfl, rfl⟩ := hor.resolve_right (fun h => h.1 c1)
      refine v_ist2 (q := 45) rfl dX10_readItem_44 (by decide) rfl ?_
      refine v_aload_n (j := 0) (q := 46) rfl dX10_readItem_45 rfl ?_
      refine v_bipush (q := 48) (by decide) dX10_readItem_46 rfl ?_
      refine v_bipush (q := 50) (by decide) dX10_readItem_48 rfl ?_
      refine v_iload_n (j := 1) (q := 51) rfl dX10_readItem_50 rfl ?_
      refine v_iadd (q := 52) dX10_readItem_51 rfl ?_
      refine v_cVI2 (q := 55) dX10_readItem_52 mlX10_224 mdX10_take (by decide) kd_116 rfl rfl ⟨Nat.le_refl 0, Nat.le_refl 0⟩ (by exact Nat.le_of_ble_eq_true rfl) rfl (c_X10_take 97 _ (mem 117 1) (a + 1) mem hT (by omega) (by omega) (by omega) (by omega)) ?_
      intro z m1 hor
      obtain ⟨-, rfl, rfl⟩ := hor.resolve_right (fun h => h.1 c2)
      rw [show a + 1 + 1 = a + 2 by omega]
      refine v_iconst (q := 56) dX10_readItem_55 rfl ?_
      refine v_iadd (q := 57) dX10_readItem_56 rfl ?_
      refine v_ist3 (q := 58) rfl dX10_readItem_57 (by decide) rfl ?_
      refine v_aload_n (j := 0) (q := 59) rfl dX10_readItem_58 rfl ?_
      refine v_bipush (q := 61) (by decide) dX10_readItem_59 rfl ?_
      refine v_bipush (q := 63) (by decide) dX10_readItem_61 rfl ?_
      refine v_cVI2 (q := 66) dX10_readItem_63 mlX10_224 mdX10_take (by decide) kd_116 rfl rfl ⟨Nat.le_refl 0, Nat.le_refl 0⟩ (by exact Nat.le_of_ble_eq_true rfl) rfl (c_X10_take 62 62 1 (a + 2) mem hT (by omega) (by omega) (by omega) (by omega)) ?_
      intro z m1 hor
      obtain ⟨-, rfl, rfl⟩ := hor.resolve_left (fun h => c3 h.1)
      refine v_ist4 (q := 68) rfl dX10_readItem_66 (by decide) rfl ?_
      exact d68 mem a l hM hl _ _ hp (by omega) _ _ _ _ _ _ _ _ _ rfl rfl
    · exact absurd h6 (by omega)
  have c3a := c3.1
  by_cases c4 : ch (mem 119) (mem 116 5) 48 (mem 117 0) (a + 3)
  · skip
    refine Ctr.ofV (ls := [aR 116, aU, aU, aU, aU, aU, aU, aU, aU, aU]) rfl (by decide) rfl (Nat.le_of_ble_eq_true rfl) ?_
    refine v_aload_n (j := 0) (q := 1) rfl dX10_readItem_0 rfl ?_
    refine v_getI (j := 19) (q := 4) dX10_readItem_1 fl_X10_221 kd_116 rfl rfl rfl ?_
    refine v_bipush (q := 6) (by decide) dX10_readItem_4 rfl ?_
    rw [stM_j _ _ _ (by omega) (by omega)]
    refine v_icmp_ne (tgt := 18) (q := 9) dX10_readItem_6 (by decide) rfl (by omega) (by omega) (fun h6 => ?_) (fun h6 => ?_)
    · refine v_aload_n (j := 0) (q := 19) rfl dX10_readItem_18 rfl ?_
      refine v_getR (p' := 117) (q := 22) dX10_readItem_19 fl_X10_7 kd_116 rfl (rfc_10_0 kd_116) rfl ?_
      refine v_iconst (q := 23) dX10_readItem_22 rfl ?_
      refine v_iald (q := 24) dX10_readItem_23 kd_117 (by omega) (by omega) rfl ?_
      rw [e7]
      refine v_iconst (q := 25) dX10_readItem_24 rfl ?_
      refine v_isub (q := 26) dX10_readItem_25 rfl ?_
      refine v_ist1 (q := 27) rfl dX10_readItem_26 (by decide) rfl ?_
      refine v_aload_n (j := 0) (q := 28) rfl dX10_readItem_27 rfl ?_
      refine v_bipush (q := 30) (by decide) dX10_readItem_28 rfl ?_
      refine v_bipush (q := 32) (by decide) dX10_readItem_30 rfl ?_
      refine v_aload_n (j := 0) (q := 33) rfl dX10_readItem_32 rfl ?_
      refine v_getR (p' := 117) (q := 36) dX10_readItem_33 fl_X10_7 kd_116 rfl (rfc_10_0 kd_116) rfl ?_
      refine v_iconst (q := 37) dX10_readItem_36 rfl ?_
      refine v_iald (q := 38) dX10_readItem_37 kd_117 (by omega) (by omega) rfl ?_
      rw [e7]
      refine v_iadd (q := 39) dX10_readItem_38 rfl ?_
      refine v_iconst (q := 40) dX10_readItem_39 rfl ?_
      refine v_isub (q := 41) dX10_readItem_40 rfl ?_
      refine v_cVI2 (q := 44) dX10_readItem_41 mlX10_224 mdX10_take (by decide) kd_116 rfl rfl ⟨Nat.le_refl 0, Nat.le_refl 0⟩ (by exact Nat.le_of_ble_eq_true rfl) rfl (c_X10_take 48 _ (mem 117 0) a mem hT ha (by omega) (by omega) (by omega)) ?_
      intro z m1 hor
      obtain ⟨-, rfl, rfl⟩ := hor.resolve_right (fun h => h.1 c1)
      refine v_ist2 (q := 45) rfl dX10_readItem_44 (by decide) rfl ?_
      refine v_aload_n (j := 0) (q := 46) rfl dX10_readItem_45 rfl ?_
      refine v_bipush (q := 48) (by decide) dX10_readItem_46 rfl ?_
      refine v_bipush (q := 50) (by decide) dX10_readItem_48 rfl ?_
      refine v_iload_n (j := 1) (q := 51) rfl dX10_readItem_50 rfl ?_
      refine v_iadd (q := 52) dX10_readItem_51 rfl ?_
      refine v_cVI2 (q := 55) dX10_readItem_52 mlX10_224 mdX10_take (by decide) kd_116 rfl rfl ⟨Nat.le_refl 0, Nat.le_refl 0⟩ (by exact Nat.le_of_ble_eq_true rfl) rfl (c_X10_take 97 _ (mem 117 1) (a + 1) mem hT (by omega) (by omega) (by omega) (by omega)) ?_
      intro z m1 hor
      obtain ⟨-, rfl, rfl⟩ := hor.resolve_right (fun h => h.1 c2)
      rw [show a + 1 + 1 = a + 2 by omega]
      refine v_iconst (q := 56) dX10_readItem_55 rfl ?_
      refine v_iadd (q := 57) dX10_readItem_56 rfl ?_
      refine v_ist3 (q := 58) rfl dX10_readItem_57 (by decide) rfl ?_
      refine v_aload_n (j := 0) (q := 59) rfl dX10_readItem_58 rfl ?_
      refine v_bipush (q := 61) (by decide) dX10_readItem_59 rfl ?_
      refine v_bipush (q := 63) (by decide) dX10_readItem_61 rfl ?_
      refine v_cVI2 (q := 66) dX10_readItem_63 mlX10_224 mdX10_take (by decide) kd_116 rfl rfl ⟨Nat.le_refl 0, Nat.le_refl 0⟩ (by exact Nat.le_of_ble_eq_true rfl) rfl (c_X10_take 62 62 1 (a + 2) mem hT (by omega) (by omega) (by omega) (by omega)) ?_
      intro z m1 hor
      obtain ⟨-, rfl, rfl⟩ := hor.resolve_right (fun h => h.1 c3)
      rw [show a + 2 + 1 = a + 3 by omega]
      refine v_ist4 (q := 68) rfl dX10_readItem_66 (by decide) rfl ?_
      refine v_aload_n (j := 0) (q := 69) rfl dX10_readItem_68 rfl ?_
      refine v_bipush (q := 71) (by decide) dX10_readItem_69 rfl ?_
      refine v_bipush (q := 73) (by decide) dX10_readItem_71 rfl ?_
      refine v_aload_n (j := 0) (q := 74) rfl dX10_readItem_73 rfl ?_
      refine v_getR (p' := 117) (q := 77) dX10_readItem_74 fl_X10_7 kd_116 rfl (rfc_10_0 kd_116) rfl ?_
      refine v_iconst (q := 78) dX10_readItem_77 rfl ?_
      refine v_iald (q := 79) dX10_readItem_78 kd_117 (by omega) (by omega) rfl ?_
      rw [e7]
      refine v_iadd (q := 80) dX10_readItem_79 rfl ?_
      refine v_iconst (q := 81) dX10_readItem_80 rfl ?_
      refine v_isub (q := 82) dX10_readItem_81 rfl ?_
      refine v_cVI2 (q := 85) dX10_readItem_82 mlX10_224 mdX10_take (by decide) kd_116 rfl rfl ⟨Nat.le_refl 0, Nat.le_refl 0⟩ (by exact Nat.le_of_ble_eq_true rfl) rfl (c_X10_take 48 _ (mem 117 0) (a + 3) mem hT (by omega) (by omega) (by omega) (by omega)) ?_
      intro z m1 hor
      obtain ⟨-, rfl, rfl⟩ := hor.resolve_right (fun h => h.1 c4)
      rw [show a + 3 + 1 = a + 4 by omega]
      refine v_ist5 (q := 87) rfl dX10_readItem_85 (by decide) rfl ?_
      refine v_iconst (q := 88) dX10_readItem_87 rfl ?_
      refine v_ist6 (q := 90) rfl dX10_readItem_88 (by decide) rfl ?_
      refine v_iconst (q := 91) dX10_readItem_90 rfl ?_
      refine v_ist7 (q := 93) rfl dX10_readItem_91 (by decide) rfl ?_
      exact a93 mem a l hT ha.1 hM hl c1 c2 c3 c4 _ _ _
    · exact absurd h6 (by omega)
  · have hp : pI mem a l = .inl (a + 3) := by unfold pI pItem; rw [if_neg (nn c1), if_neg (nn c2), if_neg (nn c3), if_pos c4]
    refine Ctr.ofV (ls := [aR 116, aU, aU, aU, aU, aU, aU, aU, aU, aU]) rfl (by decide) rfl (Nat.le_of_ble_eq_true rfl) ?_
    refine v_aload_n (j := 0) (q := 1) rfl dX10_readItem_0 rfl ?_
    refine v_getI (j := 19) (q := 4) dX10_readItem_1 fl_X10_221 kd_116 rfl rfl rfl ?_
    refine v_bipush (q := 6) (by decide) dX10_readItem_4 rfl ?_
    rw [stM_j _ _ _ (by omega) (by omega)]
    refine v_icmp_ne (tgt := 18) (q := 9) dX10_readItem_6 (by decide) rfl (by omega) (by omega) (fun h6 => ?_) (fun h6 => ?_)
    · refine v_aload_n (j := 0) (q := 19) rfl dX10_readItem_18 rfl ?_
      refine v_getR (p' := 117) (q := 22) dX10_readItem_19 fl_X10_7 kd_116 rfl (rfc_10_0 kd_116) rfl ?_
      refine v_iconst (q := 23) dX10_readItem_22 rfl ?_
      refine v_iald (q := 24) dX10_readItem_23 kd_117 (by omega) (by omega) rfl ?_
      rw [e7]
      refine v_iconst (q := 25) dX10_readItem_24 rfl ?_
      refine v_isub (q := 26) dX10_readItem_25 rfl ?_
      refine v_ist1 (q := 27) rfl dX10_readItem_26 (by decide) rfl ?_
      refine v_aload_n (j := 0) (q := 28) rfl dX10_readItem_27 rfl ?_
      refine v_bipush (q := 30) (by decide) dX10_readItem_28 rfl ?_
      refine v_bipush (q := 32) (by decide) dX10_readItem_30 rfl ?_
      refine v_aload_n (j := 0) (q := 33) rfl dX10_readItem_32 rfl ?_
      refine v_getR (p' := 117) (q := 36) dX10_readItem_33 fl_X10_7 kd_116 rfl (rfc_10_0 kd_116) rfl ?_
      refine v_iconst (q := 37) dX10_readItem_36 rfl ?_
      refine v_iald (q := 38) dX10_readItem_37 kd_117 (by omega) (by omega) rfl ?_
      rw [e7]
      refine v_iadd (q := 39) dX10_readItem_38 rfl ?_
      refine v_iconst (q := 40) dX10_readItem_39 rfl ?_
      refine v_isub (q := 41) dX10_readItem_40 rfl ?_
      refine v_cVI2 (q := 44) dX10_readItem_41 mlX10_224 mdX10_take (by decide) kd_116 rfl rfl ⟨Nat.le_refl 0, Nat.le_refl 0⟩ (by exact Nat.le_of_ble_eq_true rfl) rfl (c_X10_take 48 _ (mem 117 0) a mem hT ha (by omega) (by omega) (by omega)) ?_
      intro z m1 hor
      obtain ⟨-, rfl, rfl⟩ := hor.resolve_right (fun h => h.1 c1)
      refine v_ist2 (q := 45) rfl dX10_readItem_44 (by decide) rfl ?_
      refine v_aload_n (j := 0) (q := 46) rfl dX10_readItem_45 rfl ?_
      refine v_bipush (q := 48) (by decide) dX10_readItem_46 rfl ?_
      refine v_bipush (q := 50) (by decide) dX10_readItem_48 rfl ?_
      refine v_iload_n (j := 1) (q := 51) rfl dX10_readItem_50 rfl ?_
      refine v_iadd (q := 52) dX10_readItem_51 rfl ?_
      refine v_cVI2 (q := 55) dX10_readItem_52 mlX10_224 mdX10_take (by decide) kd_116 rfl rfl ⟨Nat.le_refl 0, Nat.le_refl 0⟩ (by exact Nat.le_of_ble_eq_true rfl) rfl (c_X10_take 97 _ (mem 117 1) (a + 1) mem hT (by omega) (by omega) (by omega) (by omega)) ?_
      intro z m1 hor
      obtain ⟨-, rfl, rfl⟩ := hor.resolve_right (fun h => h.1 c2)
      rw [show a + 1 + 1 = a + 2 by omega]
      refine v_iconst (q := 56) dX10_readItem_55 rfl ?_
      refine v_iadd (q := 57) dX10_readItem_56 rfl ?_
      refine v_ist3 (q := 58) rfl dX10_readItem_57 (by decide) rfl ?_
      refine v_aload_n (j := 0) (q := 59) rfl dX10_readItem_58 rfl ?_
      refine v_bipush (q := 61) (by decide) dX10_readItem_59 rfl ?_
      refine v_bipush (q := 63) (by decide) dX10_readItem_61 rfl ?_
      refine v_cVI2 (q := 66) dX10_readItem_63 mlX10_224 mdX10_take (by decide) kd_116 rfl rfl ⟨Nat.le_refl 0, Nat.le_refl 0⟩ (by exact Nat.le_of_ble_eq_true rfl) rfl (c_X10_take 62 62 1 (a + 2) mem hT (by omega) (by omega) (by omega) (by omega)) ?_
      intro z m1 hor
      obtain ⟨-, rfl, rfl⟩ := hor.resolve_right (fun h => h.1 c3)
      rw [show a + 2 + 1 = a + 3 by omega]
      refine v_ist4 (q := 68) rfl dX10_readItem_66 (by decide) rfl ?_
      refine v_aload_n (j := 0) (q := 69) rfl dX10_readItem_68 rfl ?_
      refine v_bipush (q := 71) (by decide) dX10_readItem_69 rfl ?_
      refine v_bipush (q := 73) (by decide) dX10_readItem_71 rfl ?_
      refine v_aload_n (j := 0) (q := 74) rfl dX10_readItem_73 rfl ?_
      refine v_getR (p' := 117) (q := 77) dX10_readItem_74 fl_X10_7 kd_116 rfl (rfc_10_0 kd_116) rfl ?_
      refine v_iconst (q := 78) dX10_readItem_77 rfl ?_
      refine v_iald (q := 79) dX10_readItem_78 kd_117 (by omega) (by omega) rfl ?_
      rw [e7]
      refine v_iadd (q := 80) dX10_readItem_79 rfl ?_
      refine v_iconst (q := 81) dX10_readItem_80 rfl ?_
      refine v_isub (q := 82) dX10_readItem_81 rfl ?_
      refine v_cVI2 (q := 85) dX10_readItem_82 mlX10_224 mdX10_take (by decide) kd_116 rfl rfl ⟨Nat.le_refl 0, Nat.le_refl 0⟩ (by exact Nat.le_of_ble_eq_true rfl) rfl (c_X10_take 48 _ (mem 117 0) (a + 3) mem hT (by omega) (by omega) (by omega) (by omega)) ?_
      intro z m1 hor
      obtain ⟨-, rfl, rfl⟩ := hor.resolve_left (fun h => c4 h.1)
      refine v_ist5 (q := 87) rfl dX10_readItem_85 (by decide) rfl ?_
      refine v_iconst (q := 88) dX10_readItem_87 rfl ?_
      refine v_ist6 (q := 90) rfl dX10_readItem_88 (by decide) rfl ?_
      refine v_iconst (q := 91) dX10_readItem_90 rfl ?_
      refine v_ist7 (q := 93) rfl dX10_readItem_91 (by decide) rfl ?_
      exact d93 mem a l hM hl _ _ hp (by omega) _ _ _ _ _ _ (by omega) _ _ _
    · exact absurd h6 (by omega)
