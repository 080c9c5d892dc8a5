/-! ===== The judgement V: from this point of a method, over a memory, the walk comes to its end; a row an instruction ===== -/
/-- which cells the walk may write; cells and slots made before it; its end; what more is known at its entry -/
abbrev EQ : Type := (State → (Nat → Nat) → Nat → Prop) × (Nat × Nat) × (List Frame → Array Value → State → WG → (Nat → Nat) → State → Prop) × (Array Value → State → WG → (Nat → Nat) → Prop)
def isNest : Cond → Bool
  | .methodLinkNest .. => true
  | _ => false
def nestL : List Cond := lw_tbl.filter isNest
def nestOK (U : State) : Prop := ∀ w ∈ nestL, va_Nw w U
theorem nestOK.warm {s U : State} (hW : s.WarmedH U.vm) (h : nestOK s) : nestOK U := by
  intro w hw
  have h1 := (List.mem_filter.mp hw).2
  cases w <;> first | (simp [isNest] at h1; done) | exact va_Nw.warmM hW (h _ hw)
theorem nestOK.same {s U : State} (hv : s.vm = U.vm) (h : nestOK s) : nestOK U := by
  intro w hw
  have h1 := (List.mem_filter.mp hw).2
  cases w <;> first | (simp [isNest] at h1; done) | exact va_Nw.same rfl hv (h _ hw)
def injA (ad : Nat → Nat) : Prop := ∀ i j, i < NP → j < NP → ad i = ad j → i = j
def rngA (ad : Nat → Nat) : Nat → Prop := fun q => ∃ i, i < NP ∧ ad i = q
def Cx (cc : ByteArray) (own : String) (nL : Nat) (ret : Option FieldType) (E : EQ) (p : Program) (s : State) (m : MethodId) (args : Array Value) (meth : Method) (c : Code) (G : WG) (ad : Nat → Nat) : Prop :=
  CallFix p m c cc nL s args gw own ∧ meth.locks = false ∧ meth.sig.returnType = ret ∧ va_K G.1 vwCl (tysW G) s ∧ nestOK s ∧ injA ad ∧ (∀ i, i < NP → E.1 s ad (ad i)) ∧ E.2.2.2 args s G ad
def lvh (ad : Nat → Nat) (la : Array Slot) (nL : Nat) (ls : List AV) : Prop := la.size = nL ∧ lv_wf la ∧ ∀ (i : Nat) (v : AV), ls[i]? = some v → v ≠ aU → la[i]? = some (.val (cv ad v))
def V (cc : ByteArray) (own : String) (nL : Nat) (ret : Option FieldType) (R : Room) (E : EQ) (pc : Nat) (ls st : List AV) (mem : Mem) : Prop :=
  ∀ (p : Program) (l : Launch) (e : Env) (s : State) (m : MethodId) (args : Array Value) (below : List Frame) (meth : Method) (c : Code) (G : WG) (ad : Nat → Nat) (H : Heap) (locs : List Loc) (la : Array Slot),
    Cx cc own nL ret E p s m args meth c G ad → va_P G.1 vwCl (WS G ad mem) H → va_S (E.1 s ad) s.heap H locs → lvh ad la nL ls →
    W p l e R s m args below meth c H locs E.2.1.1 E.2.1.2 (E.2.2.1 below args s G ad) (F0 m pc la (st.map (cv ad)))
/-- the locals as the kit has them -/
def toL (ad : Nat → Nat) : Nat → List AV → List (Nat × Value)
  | _, [] => []
  | i, v :: vs => if v = aU then toL ad (i + 1) vs else (i, cv ad v) :: toL ad (i + 1) vs
theorem toL_of {ad : Nat → Nat} : ∀ (ls : List AV) (i : Nat) (q : Nat × Value), q ∈ toL ad i ls → ∃ (j : Nat) (v : AV), ls[j]? = some v ∧ v ≠ aU ∧ q = (i + j, cv ad v)
  | [], _, _, h => by simp [toL] at h
  | v :: vs, i, q, h => by
    unfold toL at h
    by_cases hv : v = aU
    · rw [if_pos hv] at h
      obtain ⟨j, w, h1, h2, h3⟩ := toL_of vs (i + 1) q h
      exact ⟨j + 1, w, by simpa using h1, h2, by rw [h3]; congr 1; omega⟩
    · rw [if_neg hv] at h
      rcases List.mem_cons.mp h with h | h
      · exact ⟨0, v, rfl, hv, by simpa using h⟩
      · obtain ⟨j, w, h1, h2, h3⟩ := toL_of vs (i + 1) q h
        exact ⟨j + 1, w, by simpa using h1, h2, by rw [h3]; congr 1; omega⟩
theorem toL_in {ad : Nat → Nat} : ∀ (ls : List AV) (i j : Nat) (v : AV), ls[j]? = some v → v ≠ aU → (i + j, cv ad v) ∈ toL ad i ls
  | [], _, _, _, h, _ => by simp at h
  | w :: ws, i, j, v, h, hv => by
    unfold toL
    cases j with
    | zero =>
      have e : w = v := by simpa using h
      subst e
      rw [if_neg hv]
      exact List.mem_cons_self
    | succ j =>
      have h1 := toL_in (ad := ad) ws (i + 1) j v (by simpa using h) hv
      rw [show i + (j + 1) = i + 1 + j by omega]
      by_cases hw : w = aU
      · rw [if_pos hw]; exact h1
      · rw [if_neg hw]; exact List.mem_cons_of_mem _ h1
theorem lvh.has {ad : Nat → Nat} {la : Array Slot} {nL : Nat} {ls : List AV} (h : lvh ad la nL ls) : lv_has la nL (toL ad 0 ls) := by
  refine ⟨h.1, h.2.1, fun q hq => ?_⟩
  obtain ⟨j, v, h1, h2, rfl⟩ := toL_of ls 0 q hq
  rw [Nat.zero_add]
  exact h.2.2 j v h1 h2
theorem lvh.set1 {ad : Nat → Nat} {la : Array Slot} {nL i : Nat} {ls : List AV} {x : AV} (hp : ∀ w, 0 < i → ls[i - 1]? = some w → ctg w = 1)
    (h : lv_has la nL ((i, cv ad x) :: (toL ad 0 ls).filter (fun q => !(q.1 == i) && !(q.1 + 1 == i && q.2.category == 2)))) : lvh ad la nL (ls.set i x) := by
  refine ⟨h.1, h.2.1, fun j v hj hv => ?_⟩
  by_cases hji : j = i
  · subst hji
    have hl : j < ls.length := by
      have := (List.getElem?_eq_some_iff.mp hj).1
      simpa using this
    rw [List.getElem?_set_self hl] at hj
    cases hj
    exact h.2.2 _ List.mem_cons_self
  · rw [List.getElem?_set_ne (Ne.symm hji)] at hj
    refine h.2.2 (j, cv ad v) (List.mem_cons_of_mem _ (List.mem_filter.mpr ⟨by simpa using toL_in ls 0 j v hj hv, ?_⟩))
    have h1 : ¬ (j + 1 = i ∧ (cv ad v).category = 2) := by
      rintro ⟨e1, e2⟩
      have := hp v (by omega) (by rw [show i - 1 = j by omega]; exact hj)
      rw [cv_ctg] at e2
      omega
    have h2 : (!(j == i) && !(j + 1 == i && (cv ad v).category == 2)) = true := by
      simp only [Bool.and_eq_true, Bool.not_eq_true', beq_eq_false_iff_ne, ne_eq, hji, not_false_eq_true, true_and, Bool.and_eq_false_iff]
      by_cases e : j + 1 = i
      · right
        simpa using fun q => h1 ⟨e, q⟩
      · left
        simpa using e
    exact h2
theorem lvh.set2 {ad : Nat → Nat} {la : Array Slot} {nL i : Nat} {ls : List AV} {x : AV} (hp : ∀ w, 0 < i → ls[i - 1]? = some w → ctg w = 1)
    (h : lv_has la nL ((i, cv ad x) :: (toL ad 0 ls).filter (fun q => !(q.1 == i) && (!(q.1 == i + 1) && !(q.1 + 1 == i && q.2.category == 2))))) : lvh ad la nL ((ls.set i x).set (i + 1) aU) := by
  refine ⟨h.1, h.2.1, fun j v hj hv => ?_⟩
  by_cases hj1 : j = i + 1
  · subst hj1
    by_cases hl : i + 1 < (ls.set i x).length
    · rw [List.getElem?_set_self hl] at hj
      cases hj
      exact absurd rfl hv
    · rw [List.getElem?_eq_none (by simp at hl ⊢; omega)] at hj
      cases hj
  rw [List.getElem?_set_ne (Ne.symm hj1)] at hj
  by_cases hji : j = i
  · subst hji
    have hl : j < ls.length := by
      have := (List.getElem?_eq_some_iff.mp hj).1
      simpa using this
    rw [List.getElem?_set_self hl] at hj
    cases hj
    exact h.2.2 _ List.mem_cons_self
  · rw [List.getElem?_set_ne (Ne.symm hji)] at hj
    refine h.2.2 (j, cv ad v) (List.mem_cons_of_mem _ (List.mem_filter.mpr ⟨by simpa using toL_in ls 0 j v hj hv, ?_⟩))
    have h1 : ¬ (j + 1 = i ∧ (cv ad v).category = 2) := by
      rintro ⟨e1, e2⟩
      have := hp v (by omega) (by rw [show i - 1 = j by omega]; exact hj)
      rw [cv_ctg] at e2
      omega
    have h2 : (!(j == i) && (!(j == i + 1) && !(j + 1 == i && (cv ad v).category == 2))) = true := by
      simp only [Bool.and_eq_true, Bool.not_eq_true', beq_eq_false_iff_ne, ne_eq, hji, hj1, not_false_eq_true, true_and, Bool.and_eq_false_iff]
      by_cases e : j + 1 = i
      · right
        simpa using fun q => h1 ⟨e, q⟩
      · left
        simpa using e
    exact h2
/-- the range of an int, of a long -/
abbrev R32 (a : Int) : Prop := -2147483648 ≤ a ∧ a ≤ 2147483647
abbrev R64 (a : Int) : Prop := -9223372036854775808 ≤ a ∧ a ≤ 9223372036854775807
theorem i32 {a : Int} (h : R32 a) : (Int32.ofInt a).toInt = a := Int32.toInt_ofInt_of_le (by omega) (by omega)
theorem i64 {a : Int} (h : R64 a) : (Int64.ofInt a).toInt = a := Int64.toInt_ofInt_of_le (by omega) (by omega)
theorem i32_lt {a b : Int} (ha : R32 a) (hb : R32 b) : Int32.ofInt a < Int32.ofInt b ↔ a < b := by rw [Int32.lt_iff_toInt_lt, i32 ha, i32 hb]
theorem i32_le {a b : Int} (ha : R32 a) (hb : R32 b) : Int32.ofInt a ≤ Int32.ofInt b ↔ a ≤ b := by rw [Int32.le_iff_toInt_le, i32 ha, i32 hb]
theorem i32_eq {a b : Int} (ha : R32 a) (hb : R32 b) : Int32.ofInt a = Int32.ofInt b ↔ a = b := by rw [← Int32.toInt_inj, i32 ha, i32 hb]
theorem i64_lt {a b : Int} (ha : R64 a) (hb : R64 b) : Int64.ofInt a < Int64.ofInt b ↔ a < b := by rw [Int64.lt_iff_toInt_lt, i64 ha, i64 hb]
theorem i64_eq {a b : Int} (ha : R64 a) (hb : R64 b) : Int64.ofInt a = Int64.ofInt b ↔ a = b := by rw [← Int64.toInt_inj, i64 ha, i64 hb]
theorem i32_z : (0 : Int32) = Int32.ofInt 0 := rfl
theorem i32_in {i : Int} {n : Nat} (h0 : 0 ≤ i) (h1 : i < n) (hn : n ≤ 100000) : vp_in (Int32.ofInt i) n ∧ (Int32.ofInt i).toNatClampNeg = i.toNat := by
  have e : (Int32.ofInt i).toNatClampNeg = i.toNat := by rw [Int32.toNatClampNeg, i32 (by omega)]
  refine ⟨?_, e⟩
  unfold vp_in
  rw [e, i32_z, i32_lt (by omega) (by omega)]
  omega
section Rows
variable {cc : ByteArray} {own : String} {nL : Nat} {ret : Option FieldType} {R : Room} {E : EQ} {pc q : Nat} {ls st : List AV} {mem : Mem}

theorem v_iconst {n : Int} (hd : decode cc pc = .ok (.iconst n, 1)) (hq : pc + 1 = q) (k : V cc own nL ret R E q ls (aI n :: st) mem) : V cc own nL ret R E pc ls st mem := by
  subst hq
  intro p l e s m args below meth c G ad H locs la hC hP hS hl
  exact lv_iconst hC.1.1 hC.1.2.1 hd rfl (k p l e s m args below meth c G ad H locs la hC hP hS hl)
theorem v_bipush {n : Int} (hn : -128 ≤ n ∧ n ≤ 127) (hd : decode cc pc = .ok (.bipush n, 2)) (hq : pc + 2 = q) (k : V cc own nL ret R E q ls (aI n :: st) mem) : V cc own nL ret R E pc ls st mem := by
  subst hq
  intro p l e s m args below meth c G ad H locs la hC hP hS hl
  refine lv_bipush hC.1.1 hC.1.2.1 hd (v := Int32.ofInt n) ?_ (k p l e s m args below meth c G ad H locs la hC hP hS hl)
  apply Int32.toInt_inj.mp
  rw [i32 (by omega), Int8.toInt_toInt32, Int8.toInt_ofInt_of_le (by omega) (by omega)]
theorem v_sipush {n : Int} (hn : -32768 ≤ n ∧ n ≤ 32767) (hd : decode cc pc = .ok (.sipush n, 3)) (hq : pc + 3 = q) (k : V cc own nL ret R E q ls (aI n :: st) mem) : V cc own nL ret R E pc ls st mem := by
  subst hq
  intro p l e s m args below meth c G ad H locs la hC hP hS hl
  refine lv_sipush hC.1.1 hC.1.2.1 hd (v := Int32.ofInt n) ?_ (k p l e s m args below meth c G ad H locs la hC hP hS hl)
  apply Int32.toInt_inj.mp
  rw [i32 (by omega), Int16.toInt_toInt32, Int16.toInt_ofInt_of_le (by omega) (by omega)]
theorem v_lconst0  (hd : decode cc pc = .ok (.lconst 0, 1)) (hq : pc + 1 = q) (k : V cc own nL ret R E q ls (aL 0 :: st) mem) : V cc own nL ret R E pc ls st mem := by
  subst hq
  intro p l e s m args below meth c G ad H locs la hC hP hS hl
  exact lv_lconst hC.1.1 hC.1.2.1 hd rfl (k p l e s m args below meth c G ad H locs la hC hP hS hl)
theorem v_lconst1  (hd : decode cc pc = .ok (.lconst 1, 1)) (hq : pc + 1 = q) (k : V cc own nL ret R E q ls (aL 1 :: st) mem) : V cc own nL ret R E pc ls st mem := by
  subst hq
  intro p l e s m args below meth c G ad H locs la hC hP hS hl
  exact lv_lconst hC.1.1 hC.1.2.1 hd rfl (k p l e s m args below meth c G ad H locs la hC hP hS hl)
theorem v_fconst0  (hd : decode cc pc = .ok (.fconst 0, 1)) (hq : pc + 1 = q) (k : V cc own nL ret R E q ls (aF FP.fconst0 :: st) mem) : V cc own nL ret R E pc ls st mem := by
  subst hq
  intro p l e s m args below meth c G ad H locs la hC hP hS hl
  exact lv_fconst0 hC.1.1 hC.1.2.1 hd (k p l e s m args below meth c G ad H locs la hC hP hS hl)
theorem v_ldc {x : Nat} {n : Int} {v : Int32} (hw : Cond.constant own x v ∈ gw) (hv : v = Int32.ofInt n) (hd : decode cc pc = .ok (.ldc x, 2)) (hq : pc + 2 = q) (k : V cc own nL ret R E q ls (aI n :: st) mem) : V cc own nL ret R E pc ls st mem := by
  subst hq
  intro p l e s m args below meth c G ad H locs la hC hP hS hl
  subst hv
  exact lv_ldc hC.1.1 hC.1.2.1 hC.1.2.2.2.1 (hC.1.2.2.2.2 _ hw) hd (k p l e s m args below meth c G ad H locs la hC hP hS hl)
theorem v_ldcf {x : Nat} {v : UInt32} (hw : Cond.constantFloat own x v ∈ gw) (hd : decode cc pc = .ok (.ldc x, 2)) (hq : pc + 2 = q) (k : V cc own nL ret R E q ls (aF v :: st) mem) : V cc own nL ret R E pc ls st mem := by
  subst hq
  intro p l e s m args below meth c G ad H locs la hC hP hS hl
  exact lv_ldcf hC.1.1 hC.1.2.1 hC.1.2.2.2.1 (hC.1.2.2.2.2 _ hw) hd (k p l e s m args below meth c G ad H locs la hC hP hS hl)
theorem v_ldc2 {x : Nat} {n : Int} {v : Int64} (hw : Cond.constantLong own x v ∈ gw) (hv : v = Int64.ofInt n) (hd : decode cc pc = .ok (.ldc2_w x, 3)) (hq : pc + 3 = q) (k : V cc own nL ret R E q ls (aL n :: st) mem) : V cc own nL ret R E pc ls st mem := by
  subst hq
  intro p l e s m args below meth c G ad H locs la hC hP hS hl
  subst hv
  exact lv_ldc2 hC.1.1 hC.1.2.1 hC.1.2.2.2.1 (hC.1.2.2.2.2 _ hw) hd (k p l e s m args below meth c G ad H locs la hC hP hS hl)
theorem v_iload_n {j : Fin 4} {z : Int} (hl0 : ls[(j : Nat)]? = some (aI z)) (hd : decode cc pc = .ok (.iload_n j, 1)) (hq : pc + 1 = q) (k : V cc own nL ret R E q ls (aI z :: st) mem) : V cc own nL ret R E pc ls st mem := by
  subst hq
  intro p l e s m args below meth c G ad H locs la hC hP hS hl
  exact lv_iload_n hC.1.1 hC.1.2.1 hd rfl (hl.2.2 _ _ hl0 (by intro h; cases h)) (k p l e s m args below meth c G ad H locs la hC hP hS hl)
theorem v_iload {j : Nat} {z : Int} (hl0 : ls[j]? = some (aI z)) (hd : decode cc pc = .ok (.iload j, 2)) (hq : pc + 2 = q) (k : V cc own nL ret R E q ls (aI z :: st) mem) : V cc own nL ret R E pc ls st mem := by
  subst hq
  intro p l e s m args below meth c G ad H locs la hC hP hS hl
  exact lv_iload hC.1.1 hC.1.2.1 hd (hl.2.2 _ _ hl0 (by intro h; cases h)) (k p l e s m args below meth c G ad H locs la hC hP hS hl)
theorem v_lload_n {j : Fin 4} {z : Int} (hl0 : ls[(j : Nat)]? = some (aL z)) (hd : decode cc pc = .ok (.lload_n j, 1)) (hq : pc + 1 = q) (k : V cc own nL ret R E q ls (aL z :: st) mem) : V cc own nL ret R E pc ls st mem := by
  subst hq
  intro p l e s m args below meth c G ad H locs la hC hP hS hl
  exact lv_lload_n hC.1.1 hC.1.2.1 hd rfl (hl.2.2 _ _ hl0 (by intro h; cases h)) (k p l e s m args below meth c G ad H locs la hC hP hS hl)
theorem v_lload {j : Nat} {z : Int} (hl0 : ls[j]? = some (aL z)) (hd : decode cc pc = .ok (.lload j, 2)) (hq : pc + 2 = q) (k : V cc own nL ret R E q ls (aL z :: st) mem) : V cc own nL ret R E pc ls st mem := by
  subst hq
  intro p l e s m args below meth c G ad H locs la hC hP hS hl
  exact lv_lload hC.1.1 hC.1.2.1 hd (hl.2.2 _ _ hl0 (by intro h; cases h)) (k p l e s m args below meth c G ad H locs la hC hP hS hl)
theorem v_aload_n {j : Fin 4} {z : Nat} (hl0 : ls[(j : Nat)]? = some (aR z)) (hd : decode cc pc = .ok (.aload_n j, 1)) (hq : pc + 1 = q) (k : V cc own nL ret R E q ls (aR z :: st) mem) : V cc own nL ret R E pc ls st mem := by
  subst hq
  intro p l e s m args below meth c G ad H locs la hC hP hS hl
  exact lv_aload_n hC.1.1 hC.1.2.1 hd rfl (hl.2.2 _ _ hl0 (by intro h; cases h)) (k p l e s m args below meth c G ad H locs la hC hP hS hl)
theorem v_aload {j : Nat} {z : Nat} (hl0 : ls[j]? = some (aR z)) (hd : decode cc pc = .ok (.aload j, 2)) (hq : pc + 2 = q) (k : V cc own nL ret R E q ls (aR z :: st) mem) : V cc own nL ret R E pc ls st mem := by
  subst hq
  intro p l e s m args below meth c G ad H locs la hC hP hS hl
  exact lv_aload hC.1.1 hC.1.2.1 hd (hl.2.2 _ _ hl0 (by intro h; cases h)) (k p l e s m args below meth c G ad H locs la hC hP hS hl)
theorem v_dload {j : Nat} {z : UInt64} (hl0 : ls[j]? = some (aD z)) (hd : decode cc pc = .ok (.dload j, 2)) (hq : pc + 2 = q) (k : V cc own nL ret R E q ls (aD z :: st) mem) : V cc own nL ret R E pc ls st mem := by
  subst hq
  intro p l e s m args below meth c G ad H locs la hC hP hS hl
  exact lv_dload hC.1.1 hC.1.2.1 hd (hl.2.2 _ _ hl0 (by intro h; cases h)) (k p l e s m args below meth c G ad H locs la hC hP hS hl)
theorem v_istore_n {j : Fin 4} {z : Int} (hn : j < nL) (hp : ∀ w, 0 < (j : Nat) → ls[(j : Nat) - 1]? = some w → ctg w = 1) (hd : decode cc pc = .ok (.istore_n j, 1)) (hq : pc + 1 = q) (k : V cc own nL ret R E q (ls.set j (aI z)) st mem) : V cc own nL ret R E pc ls (aI z :: st) mem := by
  subst hq
  intro p l e s m args below meth c G ad H locs la hC hP hS hl
  exact lv_istore_n hC.1.1 hC.1.2.1 hd rfl hl.has hn rfl (fun la' hl' => k p l e s m args below meth c G ad H locs la' hC hP hS (lvh.set1 (x := aI z) hp hl'))
theorem v_istore {j : Nat} {z : Int} (hn : j < nL) (hp : ∀ w, 0 < (j : Nat) → ls[(j : Nat) - 1]? = some w → ctg w = 1) (hd : decode cc pc = .ok (.istore j, 2)) (hq : pc + 2 = q) (k : V cc own nL ret R E q (ls.set j (aI z)) st mem) : V cc own nL ret R E pc ls (aI z :: st) mem := by
  subst hq
  intro p l e s m args below meth c G ad H locs la hC hP hS hl
  exact lv_istore hC.1.1 hC.1.2.1 hd hl.has hn rfl (fun la' hl' => k p l e s m args below meth c G ad H locs la' hC hP hS (lvh.set1 (x := aI z) hp hl'))
theorem v_lstore_n {j : Fin 4} {z : Int} (hn : j + 1 < nL) (hp : ∀ w, 0 < (j : Nat) → ls[(j : Nat) - 1]? = some w → ctg w = 1) (hd : decode cc pc = .ok (.lstore_n j, 1)) (hq : pc + 1 = q) (k : V cc own nL ret R E q ((ls.set j (aL z)).set (j + 1) aU) st mem) : V cc own nL ret R E pc ls (aL z :: st) mem := by
  subst hq
  intro p l e s m args below meth c G ad H locs la hC hP hS hl
  exact lv_lstore_n hC.1.1 hC.1.2.1 hd rfl hl.has hn rfl (fun la' hl' => k p l e s m args below meth c G ad H locs la' hC hP hS (lvh.set2 (x := aL z) hp hl'))
theorem v_lstore {j : Nat} {z : Int} (hn : j + 1 < nL) (hp : ∀ w, 0 < (j : Nat) → ls[(j : Nat) - 1]? = some w → ctg w = 1) (hd : decode cc pc = .ok (.lstore j, 2)) (hq : pc + 2 = q) (k : V cc own nL ret R E q ((ls.set j (aL z)).set (j + 1) aU) st mem) : V cc own nL ret R E pc ls (aL z :: st) mem := by
  subst hq
  intro p l e s m args below meth c G ad H locs la hC hP hS hl
  exact lv_lstore hC.1.1 hC.1.2.1 hd hl.has hn rfl (fun la' hl' => k p l e s m args below meth c G ad H locs la' hC hP hS (lvh.set2 (x := aL z) hp hl'))
theorem v_astore_n {j : Fin 4} {z : Nat} (hn : j < nL) (hp : ∀ w, 0 < (j : Nat) → ls[(j : Nat) - 1]? = some w → ctg w = 1) (hd : decode cc pc = .ok (.astore_n j, 1)) (hq : pc + 1 = q) (k : V cc own nL ret R E q (ls.set j (aR z)) st mem) : V cc own nL ret R E pc ls (aR z :: st) mem := by
  subst hq
  intro p l e s m args below meth c G ad H locs la hC hP hS hl
  exact lv_astore_n hC.1.1 hC.1.2.1 hd rfl hl.has hn rfl (fun la' hl' => k p l e s m args below meth c G ad H locs la' hC hP hS (lvh.set1 (x := aR z) hp hl'))
theorem v_astore {j : Nat} {z : Nat} (hn : j < nL) (hp : ∀ w, 0 < (j : Nat) → ls[(j : Nat) - 1]? = some w → ctg w = 1) (hd : decode cc pc = .ok (.astore j, 2)) (hq : pc + 2 = q) (k : V cc own nL ret R E q (ls.set j (aR z)) st mem) : V cc own nL ret R E pc ls (aR z :: st) mem := by
  subst hq
  intro p l e s m args below meth c G ad H locs la hC hP hS hl
  exact lv_astore hC.1.1 hC.1.2.1 hd hl.has hn rfl (fun la' hl' => k p l e s m args below meth c G ad H locs la' hC hP hS (lvh.set1 (x := aR z) hp hl'))
theorem v_dstore {j : Nat} {z : UInt64} (hn : j + 1 < nL) (hp : ∀ w, 0 < (j : Nat) → ls[(j : Nat) - 1]? = some w → ctg w = 1) (hd : decode cc pc = .ok (.dstore j, 2)) (hq : pc + 2 = q) (k : V cc own nL ret R E q ((ls.set j (aD z)).set (j + 1) aU) st mem) : V cc own nL ret R E pc ls (aD z :: st) mem := by
  subst hq
  intro p l e s m args below meth c G ad H locs la hC hP hS hl
  exact lv_dstore hC.1.1 hC.1.2.1 hd hl.has hn rfl (fun la' hl' => k p l e s m args below meth c G ad H locs la' hC hP hS (lvh.set2 (x := aD z) hp hl'))
theorem v_iinc {j : Nat} {z n : Int} (hn : j < nL) (hp : ∀ w, 0 < j → ls[j - 1]? = some w → ctg w = 1) (hl0 : ls[j]? = some (aI z)) (hd : decode cc pc = .ok (.iinc j n, 3)) (hq : pc + 3 = q) (k : V cc own nL ret R E q (ls.set j (aI (z + n))) st mem) : V cc own nL ret R E pc ls st mem := by
  subst hq
  intro p l e s m args below meth c G ad H locs la hC hP hS hl
  obtain ⟨i, hi⟩ := List.getElem?_of_mem (toL_in (ad := ad) ls 0 j (aI z) hl0 (by intro h; cases h))
  rw [Nat.zero_add] at hi
  refine lv_iinc hC.1.1 hC.1.2.1 hd hl.has (k := i) (x := Int32.ofInt z) hi rfl hn rfl (fun la' hl' => k p l e s m args below meth c G ad H locs la' hC hP hS (lvh.set1 (x := aI (z + n)) hp ?_))
  rw [← Int32.ofInt_add] at hl'
  exact hl'
theorem v_ist0 {x : AV} {z : Int} (hd : decode cc pc = .ok (.istore_n 0, 1)) (hn : 0 < nL) (hq : pc + 1 = q) (k : V cc own nL ret R E q (aI z :: ls) st mem) : V cc own nL ret R E pc (x :: ls) (aI z :: st) mem :=
  v_istore_n (j := 0) hn (by intro w h0; exact absurd h0 (by decide)) hd hq k
theorem v_ast0 {x : AV} {z : Nat} (hd : decode cc pc = .ok (.astore_n 0, 1)) (hn : 0 < nL) (hq : pc + 1 = q) (k : V cc own nL ret R E q (aR z :: ls) st mem) : V cc own nL ret R E pc (x :: ls) (aR z :: st) mem :=
  v_astore_n (j := 0) hn (by intro w h0; exact absurd h0 (by decide)) hd hq k
theorem v_lst0 {x x2 : AV} {z : Int} (hd : decode cc pc = .ok (.lstore_n 0, 1)) (hn : 0 + 1 < nL) (hq : pc + 1 = q) (k : V cc own nL ret R E q (aL z :: aU :: ls) st mem) : V cc own nL ret R E pc (x :: x2 :: ls) (aL z :: st) mem :=
  v_lstore_n (j := 0) hn (by intro w h0; exact absurd h0 (by decide)) hd hq k
theorem v_iinc0  {z n : Int} (hd : decode cc pc = .ok (.iinc 0 n, 3)) (hn : 0 < nL) (hq : pc + 3 = q) (k : V cc own nL ret R E q (aI (z + n) :: ls) st mem) : V cc own nL ret R E pc (aI z :: ls) st mem :=
  v_iinc (j := 0) hn (by intro w h0; exact absurd h0 (by decide)) rfl hd hq k
theorem v_ist1 {a0 x : AV} {z : Int} (hc : ctg a0 = 1 := by rfl) (hd : decode cc pc = .ok (.istore_n 1, 1)) (hn : 1 < nL) (hq : pc + 1 = q) (k : V cc own nL ret R E q (a0 :: aI z :: ls) st mem) : V cc own nL ret R E pc (a0 :: x :: ls) (aI z :: st) mem :=
  v_istore_n (j := 1) hn (by intro w _ hw; cases hw; exact hc) hd hq k
theorem v_ast1 {a0 x : AV} {z : Nat} (hc : ctg a0 = 1 := by rfl) (hd : decode cc pc = .ok (.astore_n 1, 1)) (hn : 1 < nL) (hq : pc + 1 = q) (k : V cc own nL ret R E q (a0 :: aR z :: ls) st mem) : V cc own nL ret R E pc (a0 :: x :: ls) (aR z :: st) mem :=
  v_astore_n (j := 1) hn (by intro w _ hw; cases hw; exact hc) hd hq k
theorem v_lst1 {a0 x x2 : AV} {z : Int} (hc : ctg a0 = 1 := by rfl) (hd : decode cc pc = .ok (.lstore_n 1, 1)) (hn : 1 + 1 < nL) (hq : pc + 1 = q) (k : V cc own nL ret R E q (a0 :: aL z :: aU :: ls) st mem) : V cc own nL ret R E pc (a0 :: x :: x2 :: ls) (aL z :: st) mem :=
  v_lstore_n (j := 1) hn (by intro w _ hw; cases hw; exact hc) hd hq k
theorem v_iinc1 {a0 : AV} {z n : Int} (hc : ctg a0 = 1 := by rfl) (hd : decode cc pc = .ok (.iinc 1 n, 3)) (hn : 1 < nL) (hq : pc + 3 = q) (k : V cc own nL ret R E q (a0 :: aI (z + n) :: ls) st mem) : V cc own nL ret R E pc (a0 :: aI z :: ls) st mem :=
  v_iinc (j := 1) hn (by intro w _ hw; cases hw; exact hc) rfl hd hq k
theorem v_ist2 {a0 a1 x : AV} {z : Int} (hc : ctg a1 = 1 := by rfl) (hd : decode cc pc = .ok (.istore_n 2, 1)) (hn : 2 < nL) (hq : pc + 1 = q) (k : V cc own nL ret R E q (a0 :: a1 :: aI z :: ls) st mem) : V cc own nL ret R E pc (a0 :: a1 :: x :: ls) (aI z :: st) mem :=
  v_istore_n (j := 2) hn (by intro w _ hw; cases hw; exact hc) hd hq k
theorem v_ast2 {a0 a1 x : AV} {z : Nat} (hc : ctg a1 = 1 := by rfl) (hd : decode cc pc = .ok (.astore_n 2, 1)) (hn : 2 < nL) (hq : pc + 1 = q) (k : V cc own nL ret R E q (a0 :: a1 :: aR z :: ls) st mem) : V cc own nL ret R E pc (a0 :: a1 :: x :: ls) (aR z :: st) mem :=
  v_astore_n (j := 2) hn (by intro w _ hw; cases hw; exact hc) hd hq k
theorem v_lst2 {a0 a1 x x2 : AV} {z : Int} (hc : ctg a1 = 1 := by rfl) (hd : decode cc pc = .ok (.lstore_n 2, 1)) (hn : 2 + 1 < nL) (hq : pc + 1 = q) (k : V cc own nL ret R E q (a0 :: a1 :: aL z :: aU :: ls) st mem) : V cc own nL ret R E pc (a0 :: a1 :: x :: x2 :: ls) (aL z :: st) mem :=
  v_lstore_n (j := 2) hn (by intro w _ hw; cases hw; exact hc) hd hq k
theorem v_iinc2 {a0 a1 : AV} {z n : Int} (hc : ctg a1 = 1 := by rfl) (hd : decode cc pc = .ok (.iinc 2 n, 3)) (hn : 2 < nL) (hq : pc + 3 = q) (k : V cc own nL ret R E q (a0 :: a1 :: aI (z + n) :: ls) st mem) : V cc own nL ret R E pc (a0 :: a1 :: aI z :: ls) st mem :=
  v_iinc (j := 2) hn (by intro w _ hw; cases hw; exact hc) rfl hd hq k
theorem v_ist3 {a0 a1 a2 x : AV} {z : Int} (hc : ctg a2 = 1 := by rfl) (hd : decode cc pc = .ok (.istore_n 3, 1)) (hn : 3 < nL) (hq : pc + 1 = q) (k : V cc own nL ret R E q (a0 :: a1 :: a2 :: aI z :: ls) st mem) : V cc own nL ret R E pc (a0 :: a1 :: a2 :: x :: ls) (aI z :: st) mem :=
  v_istore_n (j := 3) hn (by intro w _ hw; cases hw; exact hc) hd hq k
theorem v_ast3 {a0 a1 a2 x : AV} {z : Nat} (hc : ctg a2 = 1 := by rfl) (hd : decode cc pc = .ok (.astore_n 3, 1)) (hn : 3 < nL) (hq : pc + 1 = q) (k : V cc own nL ret R E q (a0 :: a1 :: a2 :: aR z :: ls) st mem) : V cc own nL ret R E pc (a0 :: a1 :: a2 :: x :: ls) (aR z :: st) mem :=
  v_astore_n (j := 3) hn (by intro w _ hw; cases hw; exact hc) hd hq k
theorem v_lst3 {a0 a1 a2 x x2 : AV} {z : Int} (hc : ctg a2 = 1 := by rfl) (hd : decode cc pc = .ok (.lstore_n 3, 1)) (hn : 3 + 1 < nL) (hq : pc + 1 = q) (k : V cc own nL ret R E q (a0 :: a1 :: a2 :: aL z :: aU :: ls) st mem) : V cc own nL ret R E pc (a0 :: a1 :: a2 :: x :: x2 :: ls) (aL z :: st) mem :=
  v_lstore_n (j := 3) hn (by intro w _ hw; cases hw; exact hc) hd hq k
theorem v_iinc3 {a0 a1 a2 : AV} {z n : Int} (hc : ctg a2 = 1 := by rfl) (hd : decode cc pc = .ok (.iinc 3 n, 3)) (hn : 3 < nL) (hq : pc + 3 = q) (k : V cc own nL ret R E q (a0 :: a1 :: a2 :: aI (z + n) :: ls) st mem) : V cc own nL ret R E pc (a0 :: a1 :: a2 :: aI z :: ls) st mem :=
  v_iinc (j := 3) hn (by intro w _ hw; cases hw; exact hc) rfl hd hq k
theorem v_ist4 {a0 a1 a2 a3 x : AV} {z : Int} (hc : ctg a3 = 1 := by rfl) (hd : decode cc pc = .ok (.istore 4, 2)) (hn : 4 < nL) (hq : pc + 2 = q) (k : V cc own nL ret R E q (a0 :: a1 :: a2 :: a3 :: aI z :: ls) st mem) : V cc own nL ret R E pc (a0 :: a1 :: a2 :: a3 :: x :: ls) (aI z :: st) mem :=
  v_istore (j := 4) hn (by intro w _ hw; cases hw; exact hc) hd hq k
theorem v_ast4 {a0 a1 a2 a3 x : AV} {z : Nat} (hc : ctg a3 = 1 := by rfl) (hd : decode cc pc = .ok (.astore 4, 2)) (hn : 4 < nL) (hq : pc + 2 = q) (k : V cc own nL ret R E q (a0 :: a1 :: a2 :: a3 :: aR z :: ls) st mem) : V cc own nL ret R E pc (a0 :: a1 :: a2 :: a3 :: x :: ls) (aR z :: st) mem :=
  v_astore (j := 4) hn (by intro w _ hw; cases hw; exact hc) hd hq k
theorem v_lst4 {a0 a1 a2 a3 x x2 : AV} {z : Int} (hc : ctg a3 = 1 := by rfl) (hd : decode cc pc = .ok (.lstore 4, 2)) (hn : 4 + 1 < nL) (hq : pc + 2 = q) (k : V cc own nL ret R E q (a0 :: a1 :: a2 :: a3 :: aL z :: aU :: ls) st mem) : V cc own nL ret R E pc (a0 :: a1 :: a2 :: a3 :: x :: x2 :: ls) (aL z :: st) mem :=
  v_lstore (j := 4) hn (by intro w _ hw; cases hw; exact hc) hd hq k
theorem v_dst4 {a0 a1 a2 a3 x x2 : AV} {z : UInt64} (hc : ctg a3 = 1 := by rfl) (hd : decode cc pc = .ok (.dstore 4, 2)) (hn : 4 + 1 < nL) (hq : pc + 2 = q) (k : V cc own nL ret R E q (a0 :: a1 :: a2 :: a3 :: aD z :: aU :: ls) st mem) : V cc own nL ret R E pc (a0 :: a1 :: a2 :: a3 :: x :: x2 :: ls) (aD z :: st) mem :=
  v_dstore (j := 4) hn (by intro w _ hw; cases hw; exact hc) hd hq k
theorem v_iinc4 {a0 a1 a2 a3 : AV} {z n : Int} (hc : ctg a3 = 1 := by rfl) (hd : decode cc pc = .ok (.iinc 4 n, 3)) (hn : 4 < nL) (hq : pc + 3 = q) (k : V cc own nL ret R E q (a0 :: a1 :: a2 :: a3 :: aI (z + n) :: ls) st mem) : V cc own nL ret R E pc (a0 :: a1 :: a2 :: a3 :: aI z :: ls) st mem :=
  v_iinc (j := 4) hn (by intro w _ hw; cases hw; exact hc) rfl hd hq k
theorem v_ist5 {a0 a1 a2 a3 a4 x : AV} {z : Int} (hc : ctg a4 = 1 := by rfl) (hd : decode cc pc = .ok (.istore 5, 2)) (hn : 5 < nL) (hq : pc + 2 = q) (k : V cc own nL ret R E q (a0 :: a1 :: a2 :: a3 :: a4 :: aI z :: ls) st mem) : V cc own nL ret R E pc (a0 :: a1 :: a2 :: a3 :: a4 :: x :: ls) (aI z :: st) mem :=
  v_istore (j := 5) hn (by intro w _ hw; cases hw; exact hc) hd hq k
theorem v_ast5 {a0 a1 a2 a3 a4 x : AV} {z : Nat} (hc : ctg a4 = 1 := by rfl) (hd : decode cc pc = .ok (.astore 5, 2)) (hn : 5 < nL) (hq : pc + 2 = q) (k : V cc own nL ret R E q (a0 :: a1 :: a2 :: a3 :: a4 :: aR z :: ls) st mem) : V cc own nL ret R E pc (a0 :: a1 :: a2 :: a3 :: a4 :: x :: ls) (aR z :: st) mem :=
  v_astore (j := 5) hn (by intro w _ hw; cases hw; exact hc) hd hq k
theorem v_lst5 {a0 a1 a2 a3 a4 x x2 : AV} {z : Int} (hc : ctg a4 = 1 := by rfl) (hd : decode cc pc = .ok (.lstore 5, 2)) (hn : 5 + 1 < nL) (hq : pc + 2 = q) (k : V cc own nL ret R E q (a0 :: a1 :: a2 :: a3 :: a4 :: aL z :: aU :: ls) st mem) : V cc own nL ret R E pc (a0 :: a1 :: a2 :: a3 :: a4 :: x :: x2 :: ls) (aL z :: st) mem :=
  v_lstore (j := 5) hn (by intro w _ hw; cases hw; exact hc) hd hq k
theorem v_dst5 {a0 a1 a2 a3 a4 x x2 : AV} {z : UInt64} (hc : ctg a4 = 1 := by rfl) (hd : decode cc pc = .ok (.dstore 5, 2)) (hn : 5 + 1 < nL) (hq : pc + 2 = q) (k : V cc own nL ret R E q (a0 :: a1 :: a2 :: a3 :: a4 :: aD z :: aU :: ls) st mem) : V cc own nL ret R E pc (a0 :: a1 :: a2 :: a3 :: a4 :: x :: x2 :: ls) (aD z :: st) mem :=
  v_dstore (j := 5) hn (by intro w _ hw; cases hw; exact hc) hd hq k
theorem v_iinc5 {a0 a1 a2 a3 a4 : AV} {z n : Int} (hc : ctg a4 = 1 := by rfl) (hd : decode cc pc = .ok (.iinc 5 n, 3)) (hn : 5 < nL) (hq : pc + 3 = q) (k : V cc own nL ret R E q (a0 :: a1 :: a2 :: a3 :: a4 :: aI (z + n) :: ls) st mem) : V cc own nL ret R E pc (a0 :: a1 :: a2 :: a3 :: a4 :: aI z :: ls) st mem :=
  v_iinc (j := 5) hn (by intro w _ hw; cases hw; exact hc) rfl hd hq k
theorem v_ist6 {a0 a1 a2 a3 a4 a5 x : AV} {z : Int} (hc : ctg a5 = 1 := by rfl) (hd : decode cc pc = .ok (.istore 6, 2)) (hn : 6 < nL) (hq : pc + 2 = q) (k : V cc own nL ret R E q (a0 :: a1 :: a2 :: a3 :: a4 :: a5 :: aI z :: ls) st mem) : V cc own nL ret R E pc (a0 :: a1 :: a2 :: a3 :: a4 :: a5 :: x :: ls) (aI z :: st) mem :=
  v_istore (j := 6) hn (by intro w _ hw; cases hw; exact hc) hd hq k
theorem v_ast6 {a0 a1 a2 a3 a4 a5 x : AV} {z : Nat} (hc : ctg a5 = 1 := by rfl) (hd : decode cc pc = .ok (.astore 6, 2)) (hn : 6 < nL) (hq : pc + 2 = q) (k : V cc own nL ret R E q (a0 :: a1 :: a2 :: a3 :: a4 :: a5 :: aR z :: ls) st mem) : V cc own nL ret R E pc (a0 :: a1 :: a2 :: a3 :: a4 :: a5 :: x :: ls) (aR z :: st) mem :=
  v_astore (j := 6) hn (by intro w _ hw; cases hw; exact hc) hd hq k
theorem v_lst6 {a0 a1 a2 a3 a4 a5 x x2 : AV} {z : Int} (hc : ctg a5 = 1 := by rfl) (hd : decode cc pc = .ok (.lstore 6, 2)) (hn : 6 + 1 < nL) (hq : pc + 2 = q) (k : V cc own nL ret R E q (a0 :: a1 :: a2 :: a3 :: a4 :: a5 :: aL z :: aU :: ls) st mem) : V cc own nL ret R E pc (a0 :: a1 :: a2 :: a3 :: a4 :: a5 :: x :: x2 :: ls) (aL z :: st) mem :=
  v_lstore (j := 6) hn (by intro w _ hw; cases hw; exact hc) hd hq k
theorem v_dst6 {a0 a1 a2 a3 a4 a5 x x2 : AV} {z : UInt64} (hc : ctg a5 = 1 := by rfl) (hd : decode cc pc = .ok (.dstore 6, 2)) (hn : 6 + 1 < nL) (hq : pc + 2 = q) (k : V cc own nL ret R E q (a0 :: a1 :: a2 :: a3 :: a4 :: a5 :: aD z :: aU :: ls) st mem) : V cc own nL ret R E pc (a0 :: a1 :: a2 :: a3 :: a4 :: a5 :: x :: x2 :: ls) (aD z :: st) mem :=
  v_dstore (j := 6) hn (by intro w _ hw; cases hw; exact hc) hd hq k
theorem v_iinc6 {a0 a1 a2 a3 a4 a5 : AV} {z n : Int} (hc : ctg a5 = 1 := by rfl) (hd : decode cc pc = .ok (.iinc 6 n, 3)) (hn : 6 < nL) (hq : pc + 3 = q) (k : V cc own nL ret R E q (a0 :: a1 :: a2 :: a3 :: a4 :: a5 :: aI (z + n) :: ls) st mem) : V cc own nL ret R E pc (a0 :: a1 :: a2 :: a3 :: a4 :: a5 :: aI z :: ls) st mem :=
  v_iinc (j := 6) hn (by intro w _ hw; cases hw; exact hc) rfl hd hq k
theorem v_ist7 {a0 a1 a2 a3 a4 a5 a6 x : AV} {z : Int} (hc : ctg a6 = 1 := by rfl) (hd : decode cc pc = .ok (.istore 7, 2)) (hn : 7 < nL) (hq : pc + 2 = q) (k : V cc own nL ret R E q (a0 :: a1 :: a2 :: a3 :: a4 :: a5 :: a6 :: aI z :: ls) st mem) : V cc own nL ret R E pc (a0 :: a1 :: a2 :: a3 :: a4 :: a5 :: a6 :: x :: ls) (aI z :: st) mem :=
  v_istore (j := 7) hn (by intro w _ hw; cases hw; exact hc) hd hq k
theorem v_ast7 {a0 a1 a2 a3 a4 a5 a6 x : AV} {z : Nat} (hc : ctg a6 = 1 := by rfl) (hd : decode cc pc = .ok (.astore 7, 2)) (hn : 7 < nL) (hq : pc + 2 = q) (k : V cc own nL ret R E q (a0 :: a1 :: a2 :: a3 :: a4 :: a5 :: a6 :: aR z :: ls) st mem) : V cc own nL ret R E pc (a0 :: a1 :: a2 :: a3 :: a4 :: a5 :: a6 :: x :: ls) (aR z :: st) mem :=
  v_astore (j := 7) hn (by intro w _ hw; cases hw; exact hc) hd hq k
theorem v_lst7 {a0 a1 a2 a3 a4 a5 a6 x x2 : AV} {z : Int} (hc : ctg a6 = 1 := by rfl) (hd : decode cc pc = .ok (.lstore 7, 2)) (hn : 7 + 1 < nL) (hq : pc + 2 = q) (k : V cc own nL ret R E q (a0 :: a1 :: a2 :: a3 :: a4 :: a5 :: a6 :: aL z :: aU :: ls) st mem) : V cc own nL ret R E pc (a0 :: a1 :: a2 :: a3 :: a4 :: a5 :: a6 :: x :: x2 :: ls) (aL z :: st) mem :=
  v_lstore (j := 7) hn (by intro w _ hw; cases hw; exact hc) hd hq k
theorem v_dst7 {a0 a1 a2 a3 a4 a5 a6 x x2 : AV} {z : UInt64} (hc : ctg a6 = 1 := by rfl) (hd : decode cc pc = .ok (.dstore 7, 2)) (hn : 7 + 1 < nL) (hq : pc + 2 = q) (k : V cc own nL ret R E q (a0 :: a1 :: a2 :: a3 :: a4 :: a5 :: a6 :: aD z :: aU :: ls) st mem) : V cc own nL ret R E pc (a0 :: a1 :: a2 :: a3 :: a4 :: a5 :: a6 :: x :: x2 :: ls) (aD z :: st) mem :=
  v_dstore (j := 7) hn (by intro w _ hw; cases hw; exact hc) hd hq k
theorem v_iinc7 {a0 a1 a2 a3 a4 a5 a6 : AV} {z n : Int} (hc : ctg a6 = 1 := by rfl) (hd : decode cc pc = .ok (.iinc 7 n, 3)) (hn : 7 < nL) (hq : pc + 3 = q) (k : V cc own nL ret R E q (a0 :: a1 :: a2 :: a3 :: a4 :: a5 :: a6 :: aI (z + n) :: ls) st mem) : V cc own nL ret R E pc (a0 :: a1 :: a2 :: a3 :: a4 :: a5 :: a6 :: aI z :: ls) st mem :=
  v_iinc (j := 7) hn (by intro w _ hw; cases hw; exact hc) rfl hd hq k
theorem v_ist8 {a0 a1 a2 a3 a4 a5 a6 a7 x : AV} {z : Int} (hc : ctg a7 = 1 := by rfl) (hd : decode cc pc = .ok (.istore 8, 2)) (hn : 8 < nL) (hq : pc + 2 = q) (k : V cc own nL ret R E q (a0 :: a1 :: a2 :: a3 :: a4 :: a5 :: a6 :: a7 :: aI z :: ls) st mem) : V cc own nL ret R E pc (a0 :: a1 :: a2 :: a3 :: a4 :: a5 :: a6 :: a7 :: x :: ls) (aI z :: st) mem :=
  v_istore (j := 8) hn (by intro w _ hw; cases hw; exact hc) hd hq k
theorem v_ast8 {a0 a1 a2 a3 a4 a5 a6 a7 x : AV} {z : Nat} (hc : ctg a7 = 1 := by rfl) (hd : decode cc pc = .ok (.astore 8, 2)) (hn : 8 < nL) (hq : pc + 2 = q) (k : V cc own nL ret R E q (a0 :: a1 :: a2 :: a3 :: a4 :: a5 :: a6 :: a7 :: aR z :: ls) st mem) : V cc own nL ret R E pc (a0 :: a1 :: a2 :: a3 :: a4 :: a5 :: a6 :: a7 :: x :: ls) (aR z :: st) mem :=
  v_astore (j := 8) hn (by intro w _ hw; cases hw; exact hc) hd hq k
theorem v_lst8 {a0 a1 a2 a3 a4 a5 a6 a7 x x2 : AV} {z : Int} (hc : ctg a7 = 1 := by rfl) (hd : decode cc pc = .ok (.lstore 8, 2)) (hn : 8 + 1 < nL) (hq : pc + 2 = q) (k : V cc own nL ret R E q (a0 :: a1 :: a2 :: a3 :: a4 :: a5 :: a6 :: a7 :: aL z :: aU :: ls) st mem) : V cc own nL ret R E pc (a0 :: a1 :: a2 :: a3 :: a4 :: a5 :: a6 :: a7 :: x :: x2 :: ls) (aL z :: st) mem :=
  v_lstore (j := 8) hn (by intro w _ hw; cases hw; exact hc) hd hq k
theorem v_dst8 {a0 a1 a2 a3 a4 a5 a6 a7 x x2 : AV} {z : UInt64} (hc : ctg a7 = 1 := by rfl) (hd : decode cc pc = .ok (.dstore 8, 2)) (hn : 8 + 1 < nL) (hq : pc + 2 = q) (k : V cc own nL ret R E q (a0 :: a1 :: a2 :: a3 :: a4 :: a5 :: a6 :: a7 :: aD z :: aU :: ls) st mem) : V cc own nL ret R E pc (a0 :: a1 :: a2 :: a3 :: a4 :: a5 :: a6 :: a7 :: x :: x2 :: ls) (aD z :: st) mem :=
  v_dstore (j := 8) hn (by intro w _ hw; cases hw; exact hc) hd hq k
theorem v_iinc8 {a0 a1 a2 a3 a4 a5 a6 a7 : AV} {z n : Int} (hc : ctg a7 = 1 := by rfl) (hd : decode cc pc = .ok (.iinc 8 n, 3)) (hn : 8 < nL) (hq : pc + 3 = q) (k : V cc own nL ret R E q (a0 :: a1 :: a2 :: a3 :: a4 :: a5 :: a6 :: a7 :: aI (z + n) :: ls) st mem) : V cc own nL ret R E pc (a0 :: a1 :: a2 :: a3 :: a4 :: a5 :: a6 :: a7 :: aI z :: ls) st mem :=
  v_iinc (j := 8) hn (by intro w _ hw; cases hw; exact hc) rfl hd hq k
theorem v_ist9 {a0 a1 a2 a3 a4 a5 a6 a7 a8 x : AV} {z : Int} (hc : ctg a8 = 1 := by rfl) (hd : decode cc pc = .ok (.istore 9, 2)) (hn : 9 < nL) (hq : pc + 2 = q) (k : V cc own nL ret R E q (a0 :: a1 :: a2 :: a3 :: a4 :: a5 :: a6 :: a7 :: a8 :: aI z :: ls) st mem) : V cc own nL ret R E pc (a0 :: a1 :: a2 :: a3 :: a4 :: a5 :: a6 :: a7 :: a8 :: x :: ls) (aI z :: st) mem :=
  v_istore (j := 9) hn (by intro w _ hw; cases hw; exact hc) hd hq k
theorem v_ast9 {a0 a1 a2 a3 a4 a5 a6 a7 a8 x : AV} {z : Nat} (hc : ctg a8 = 1 := by rfl) (hd : decode cc pc = .ok (.astore 9, 2)) (hn : 9 < nL) (hq : pc + 2 = q) (k : V cc own nL ret R E q (a0 :: a1 :: a2 :: a3 :: a4 :: a5 :: a6 :: a7 :: a8 :: aR z :: ls) st mem) : V cc own nL ret R E pc (a0 :: a1 :: a2 :: a3 :: a4 :: a5 :: a6 :: a7 :: a8 :: x :: ls) (aR z :: st) mem :=
  v_astore (j := 9) hn (by intro w _ hw; cases hw; exact hc) hd hq k
theorem v_lst9 {a0 a1 a2 a3 a4 a5 a6 a7 a8 x x2 : AV} {z : Int} (hc : ctg a8 = 1 := by rfl) (hd : decode cc pc = .ok (.lstore 9, 2)) (hn : 9 + 1 < nL) (hq : pc + 2 = q) (k : V cc own nL ret R E q (a0 :: a1 :: a2 :: a3 :: a4 :: a5 :: a6 :: a7 :: a8 :: aL z :: aU :: ls) st mem) : V cc own nL ret R E pc (a0 :: a1 :: a2 :: a3 :: a4 :: a5 :: a6 :: a7 :: a8 :: x :: x2 :: ls) (aL z :: st) mem :=
  v_lstore (j := 9) hn (by intro w _ hw; cases hw; exact hc) hd hq k
theorem v_dst9 {a0 a1 a2 a3 a4 a5 a6 a7 a8 x x2 : AV} {z : UInt64} (hc : ctg a8 = 1 := by rfl) (hd : decode cc pc = .ok (.dstore 9, 2)) (hn : 9 + 1 < nL) (hq : pc + 2 = q) (k : V cc own nL ret R E q (a0 :: a1 :: a2 :: a3 :: a4 :: a5 :: a6 :: a7 :: a8 :: aD z :: aU :: ls) st mem) : V cc own nL ret R E pc (a0 :: a1 :: a2 :: a3 :: a4 :: a5 :: a6 :: a7 :: a8 :: x :: x2 :: ls) (aD z :: st) mem :=
  v_dstore (j := 9) hn (by intro w _ hw; cases hw; exact hc) hd hq k
theorem v_iinc9 {a0 a1 a2 a3 a4 a5 a6 a7 a8 : AV} {z n : Int} (hc : ctg a8 = 1 := by rfl) (hd : decode cc pc = .ok (.iinc 9 n, 3)) (hn : 9 < nL) (hq : pc + 3 = q) (k : V cc own nL ret R E q (a0 :: a1 :: a2 :: a3 :: a4 :: a5 :: a6 :: a7 :: a8 :: aI (z + n) :: ls) st mem) : V cc own nL ret R E pc (a0 :: a1 :: a2 :: a3 :: a4 :: a5 :: a6 :: a7 :: a8 :: aI z :: ls) st mem :=
  v_iinc (j := 9) hn (by intro w _ hw; cases hw; exact hc) rfl hd hq k
theorem v_ist10 {a0 a1 a2 a3 a4 a5 a6 a7 a8 a9 x : AV} {z : Int} (hc : ctg a9 = 1 := by rfl) (hd : decode cc pc = .ok (.istore 10, 2)) (hn : 10 < nL) (hq : pc + 2 = q) (k : V cc own nL ret R E q (a0 :: a1 :: a2 :: a3 :: a4 :: a5 :: a6 :: a7 :: a8 :: a9 :: aI z :: ls) st mem) : V cc own nL ret R E pc (a0 :: a1 :: a2 :: a3 :: a4 :: a5 :: a6 :: a7 :: a8 :: a9 :: x :: ls) (aI z :: st) mem :=
  v_istore (j := 10) hn (by intro w _ hw; cases hw; exact hc) hd hq k
theorem v_ast10 {a0 a1 a2 a3 a4 a5 a6 a7 a8 a9 x : AV} {z : Nat} (hc : ctg a9 = 1 := by rfl) (hd : decode cc pc = .ok (.astore 10, 2)) (hn : 10 < nL) (hq : pc + 2 = q) (k : V cc own nL ret R E q (a0 :: a1 :: a2 :: a3 :: a4 :: a5 :: a6 :: a7 :: a8 :: a9 :: aR z :: ls) st mem) : V cc own nL ret R E pc (a0 :: a1 :: a2 :: a3 :: a4 :: a5 :: a6 :: a7 :: a8 :: a9 :: x :: ls) (aR z :: st) mem :=
  v_astore (j := 10) hn (by intro w _ hw; cases hw; exact hc) hd hq k
theorem v_lst10 {a0 a1 a2 a3 a4 a5 a6 a7 a8 a9 x x2 : AV} {z : Int} (hc : ctg a9 = 1 := by rfl) (hd : decode cc pc = .ok (.lstore 10, 2)) (hn : 10 + 1 < nL) (hq : pc + 2 = q) (k : V cc own nL ret R E q (a0 :: a1 :: a2 :: a3 :: a4 :: a5 :: a6 :: a7 :: a8 :: a9 :: aL z :: aU :: ls) st mem) : V cc own nL ret R E pc (a0 :: a1 :: a2 :: a3 :: a4 :: a5 :: a6 :: a7 :: a8 :: a9 :: x :: x2 :: ls) (aL z :: st) mem :=
  v_lstore (j := 10) hn (by intro w _ hw; cases hw; exact hc) hd hq k
theorem v_dst10 {a0 a1 a2 a3 a4 a5 a6 a7 a8 a9 x x2 : AV} {z : UInt64} (hc : ctg a9 = 1 := by rfl) (hd : decode cc pc = .ok (.dstore 10, 2)) (hn : 10 + 1 < nL) (hq : pc + 2 = q) (k : V cc own nL ret R E q (a0 :: a1 :: a2 :: a3 :: a4 :: a5 :: a6 :: a7 :: a8 :: a9 :: aD z :: aU :: ls) st mem) : V cc own nL ret R E pc (a0 :: a1 :: a2 :: a3 :: a4 :: a5 :: a6 :: a7 :: a8 :: a9 :: x :: x2 :: ls) (aD z :: st) mem :=
  v_dstore (j := 10) hn (by intro w _ hw; cases hw; exact hc) hd hq k
theorem v_iinc10 {a0 a1 a2 a3 a4 a5 a6 a7 a8 a9 : AV} {z n : Int} (hc : ctg a9 = 1 := by rfl) (hd : decode cc pc = .ok (.iinc 10 n, 3)) (hn : 10 < nL) (hq : pc + 3 = q) (k : V cc own nL ret R E q (a0 :: a1 :: a2 :: a3 :: a4 :: a5 :: a6 :: a7 :: a8 :: a9 :: aI (z + n) :: ls) st mem) : V cc own nL ret R E pc (a0 :: a1 :: a2 :: a3 :: a4 :: a5 :: a6 :: a7 :: a8 :: a9 :: aI z :: ls) st mem :=
  v_iinc (j := 10) hn (by intro w _ hw; cases hw; exact hc) rfl hd hq k
theorem v_ist11 {a0 a1 a2 a3 a4 a5 a6 a7 a8 a9 a10 x : AV} {z : Int} (hc : ctg a10 = 1 := by rfl) (hd : decode cc pc = .ok (.istore 11, 2)) (hn : 11 < nL) (hq : pc + 2 = q) (k : V cc own nL ret R E q (a0 :: a1 :: a2 :: a3 :: a4 :: a5 :: a6 :: a7 :: a8 :: a9 :: a10 :: aI z :: ls) st mem) : V cc own nL ret R E pc (a0 :: a1 :: a2 :: a3 :: a4 :: a5 :: a6 :: a7 :: a8 :: a9 :: a10 :: x :: ls) (aI z :: st) mem :=
  v_istore (j := 11) hn (by intro w _ hw; cases hw; exact hc) hd hq k
theorem v_ast11 {a0 a1 a2 a3 a4 a5 a6 a7 a8 a9 a10 x : AV} {z : Nat} (hc : ctg a10 = 1 := by rfl) (hd : decode cc pc = .ok (.astore 11, 2)) (hn : 11 < nL) (hq : pc + 2 = q) (k : V cc own nL ret R E q (a0 :: a1 :: a2 :: a3 :: a4 :: a5 :: a6 :: a7 :: a8 :: a9 :: a10 :: aR z :: ls) st mem) : V cc own nL ret R E pc (a0 :: a1 :: a2 :: a3 :: a4 :: a5 :: a6 :: a7 :: a8 :: a9 :: a10 :: x :: ls) (aR z :: st) mem :=
  v_astore (j := 11) hn (by intro w _ hw; cases hw; exact hc) hd hq k
theorem v_lst11 {a0 a1 a2 a3 a4 a5 a6 a7 a8 a9 a10 x x2 : AV} {z : Int} (hc : ctg a10 = 1 := by rfl) (hd : decode cc pc = .ok (.lstore 11, 2)) (hn : 11 + 1 < nL) (hq : pc + 2 = q) (k : V cc own nL ret R E q (a0 :: a1 :: a2 :: a3 :: a4 :: a5 :: a6 :: a7 :: a8 :: a9 :: a10 :: aL z :: aU :: ls) st mem) : V cc own nL ret R E pc (a0 :: a1 :: a2 :: a3 :: a4 :: a5 :: a6 :: a7 :: a8 :: a9 :: a10 :: x :: x2 :: ls) (aL z :: st) mem :=
  v_lstore (j := 11) hn (by intro w _ hw; cases hw; exact hc) hd hq k
theorem v_dst11 {a0 a1 a2 a3 a4 a5 a6 a7 a8 a9 a10 x x2 : AV} {z : UInt64} (hc : ctg a10 = 1 := by rfl) (hd : decode cc pc = .ok (.dstore 11, 2)) (hn : 11 + 1 < nL) (hq : pc + 2 = q) (k : V cc own nL ret R E q (a0 :: a1 :: a2 :: a3 :: a4 :: a5 :: a6 :: a7 :: a8 :: a9 :: a10 :: aD z :: aU :: ls) st mem) : V cc own nL ret R E pc (a0 :: a1 :: a2 :: a3 :: a4 :: a5 :: a6 :: a7 :: a8 :: a9 :: a10 :: x :: x2 :: ls) (aD z :: st) mem :=
  v_dstore (j := 11) hn (by intro w _ hw; cases hw; exact hc) hd hq k
theorem v_iinc11 {a0 a1 a2 a3 a4 a5 a6 a7 a8 a9 a10 : AV} {z n : Int} (hc : ctg a10 = 1 := by rfl) (hd : decode cc pc = .ok (.iinc 11 n, 3)) (hn : 11 < nL) (hq : pc + 3 = q) (k : V cc own nL ret R E q (a0 :: a1 :: a2 :: a3 :: a4 :: a5 :: a6 :: a7 :: a8 :: a9 :: a10 :: aI (z + n) :: ls) st mem) : V cc own nL ret R E pc (a0 :: a1 :: a2 :: a3 :: a4 :: a5 :: a6 :: a7 :: a8 :: a9 :: a10 :: aI z :: ls) st mem :=
  v_iinc (j := 11) hn (by intro w _ hw; cases hw; exact hc) rfl hd hq k
theorem v_ist12 {a0 a1 a2 a3 a4 a5 a6 a7 a8 a9 a10 a11 x : AV} {z : Int} (hc : ctg a11 = 1 := by rfl) (hd : decode cc pc = .ok (.istore 12, 2)) (hn : 12 < nL) (hq : pc + 2 = q) (k : V cc own nL ret R E q (a0 :: a1 :: a2 :: a3 :: a4 :: a5 :: a6 :: a7 :: a8 :: a9 :: a10 :: a11 :: aI z :: ls) st mem) : V cc own nL ret R E pc (a0 :: a1 :: a2 :: a3 :: a4 :: a5 :: a6 :: a7 :: a8 :: a9 :: a10 :: a11 :: x :: ls) (aI z :: st) mem :=
  v_istore (j := 12) hn (by intro w _ hw; cases hw; exact hc) hd hq k
theorem v_ast12 {a0 a1 a2 a3 a4 a5 a6 a7 a8 a9 a10 a11 x : AV} {z : Nat} (hc : ctg a11 = 1 := by rfl) (hd : decode cc pc = .ok (.astore 12, 2)) (hn : 12 < nL) (hq : pc + 2 = q) (k : V cc own nL ret R E q (a0 :: a1 :: a2 :: a3 :: a4 :: a5 :: a6 :: a7 :: a8 :: a9 :: a10 :: a11 :: aR z :: ls) st mem) : V cc own nL ret R E pc (a0 :: a1 :: a2 :: a3 :: a4 :: a5 :: a6 :: a7 :: a8 :: a9 :: a10 :: a11 :: x :: ls) (aR z :: st) mem :=
  v_astore (j := 12) hn (by intro w _ hw; cases hw; exact hc) hd hq k
theorem v_lst12 {a0 a1 a2 a3 a4 a5 a6 a7 a8 a9 a10 a11 x x2 : AV} {z : Int} (hc : ctg a11 = 1 := by rfl) (hd : decode cc pc = .ok (.lstore 12, 2)) (hn : 12 + 1 < nL) (hq : pc + 2 = q) (k : V cc own nL ret R E q (a0 :: a1 :: a2 :: a3 :: a4 :: a5 :: a6 :: a7 :: a8 :: a9 :: a10 :: a11 :: aL z :: aU :: ls) st mem) : V cc own nL ret R E pc (a0 :: a1 :: a2 :: a3 :: a4 :: a5 :: a6 :: a7 :: a8 :: a9 :: a10 :: a11 :: x :: x2 :: ls) (aL z :: st) mem :=
  v_lstore (j := 12) hn (by intro w _ hw; cases hw; exact hc) hd hq k
theorem v_dst12 {a0 a1 a2 a3 a4 a5 a6 a7 a8 a9 a10 a11 x x2 : AV} {z : UInt64} (hc : ctg a11 = 1 := by rfl) (hd : decode cc pc = .ok (.dstore 12, 2)) (hn : 12 + 1 < nL) (hq : pc + 2 = q) (k : V cc own nL ret R E q (a0 :: a1 :: a2 :: a3 :: a4 :: a5 :: a6 :: a7 :: a8 :: a9 :: a10 :: a11 :: aD z :: aU :: ls) st mem) : V cc own nL ret R E pc (a0 :: a1 :: a2 :: a3 :: a4 :: a5 :: a6 :: a7 :: a8 :: a9 :: a10 :: a11 :: x :: x2 :: ls) (aD z :: st) mem :=
  v_dstore (j := 12) hn (by intro w _ hw; cases hw; exact hc) hd hq k
theorem v_iinc12 {a0 a1 a2 a3 a4 a5 a6 a7 a8 a9 a10 a11 : AV} {z n : Int} (hc : ctg a11 = 1 := by rfl) (hd : decode cc pc = .ok (.iinc 12 n, 3)) (hn : 12 < nL) (hq : pc + 3 = q) (k : V cc own nL ret R E q (a0 :: a1 :: a2 :: a3 :: a4 :: a5 :: a6 :: a7 :: a8 :: a9 :: a10 :: a11 :: aI (z + n) :: ls) st mem) : V cc own nL ret R E pc (a0 :: a1 :: a2 :: a3 :: a4 :: a5 :: a6 :: a7 :: a8 :: a9 :: a10 :: a11 :: aI z :: ls) st mem :=
  v_iinc (j := 12) hn (by intro w _ hw; cases hw; exact hc) rfl hd hq k
theorem v_ist13 {a0 a1 a2 a3 a4 a5 a6 a7 a8 a9 a10 a11 a12 x : AV} {z : Int} (hc : ctg a12 = 1 := by rfl) (hd : decode cc pc = .ok (.istore 13, 2)) (hn : 13 < nL) (hq : pc + 2 = q) (k : V cc own nL ret R E q (a0 :: a1 :: a2 :: a3 :: a4 :: a5 :: a6 :: a7 :: a8 :: a9 :: a10 :: a11 :: a12 :: aI z :: ls) st mem) : V cc own nL ret R E pc (a0 :: a1 :: a2 :: a3 :: a4 :: a5 :: a6 :: a7 :: a8 :: a9 :: a10 :: a11 :: a12 :: x :: ls) (aI z :: st) mem :=
  v_istore (j := 13) hn (by intro w _ hw; cases hw; exact hc) hd hq k
theorem v_ast13 {a0 a1 a2 a3 a4 a5 a6 a7 a8 a9 a10 a11 a12 x : AV} {z : Nat} (hc : ctg a12 = 1 := by rfl) (hd : decode cc pc = .ok (.astore 13, 2)) (hn : 13 < nL) (hq : pc + 2 = q) (k : V cc own nL ret R E q (a0 :: a1 :: a2 :: a3 :: a4 :: a5 :: a6 :: a7 :: a8 :: a9 :: a10 :: a11 :: a12 :: aR z :: ls) st mem) : V cc own nL ret R E pc (a0 :: a1 :: a2 :: a3 :: a4 :: a5 :: a6 :: a7 :: a8 :: a9 :: a10 :: a11 :: a12 :: x :: ls) (aR z :: st) mem :=
  v_astore (j := 13) hn (by intro w _ hw; cases hw; exact hc) hd hq k
theorem v_lst13 {a0 a1 a2 a3 a4 a5 a6 a7 a8 a9 a10 a11 a12 x x2 : AV} {z : Int} (hc : ctg a12 = 1 := by rfl) (hd : decode cc pc = .ok (.lstore 13, 2)) (hn : 13 + 1 < nL) (hq : pc + 2 = q) (k : V cc own nL ret R E q (a0 :: a1 :: a2 :: a3 :: a4 :: a5 :: a6 :: a7 :: a8 :: a9 :: a10 :: a11 :: a12 :: aL z :: aU :: ls) st mem) : V cc own nL ret R E pc (a0 :: a1 :: a2 :: a3 :: a4 :: a5 :: a6 :: a7 :: a8 :: a9 :: a10 :: a11 :: a12 :: x :: x2 :: ls) (aL z :: st) mem :=
  v_lstore (j := 13) hn (by intro w _ hw; cases hw; exact hc) hd hq k
theorem v_dst13 {a0 a1 a2 a3 a4 a5 a6 a7 a8 a9 a10 a11 a12 x x2 : AV} {z : UInt64} (hc : ctg a12 = 1 := by rfl) (hd : decode cc pc = .ok (.dstore 13, 2)) (hn : 13 + 1 < nL) (hq : pc + 2 = q) (k : V cc own nL ret R E q (a0 :: a1 :: a2 :: a3 :: a4 :: a5 :: a6 :: a7 :: a8 :: a9 :: a10 :: a11 :: a12 :: aD z :: aU :: ls) st mem) : V cc own nL ret R E pc (a0 :: a1 :: a2 :: a3 :: a4 :: a5 :: a6 :: a7 :: a8 :: a9 :: a10 :: a11 :: a12 :: x :: x2 :: ls) (aD z :: st) mem :=
  v_dstore (j := 13) hn (by intro w _ hw; cases hw; exact hc) hd hq k
theorem v_iinc13 {a0 a1 a2 a3 a4 a5 a6 a7 a8 a9 a10 a11 a12 : AV} {z n : Int} (hc : ctg a12 = 1 := by rfl) (hd : decode cc pc = .ok (.iinc 13 n, 3)) (hn : 13 < nL) (hq : pc + 3 = q) (k : V cc own nL ret R E q (a0 :: a1 :: a2 :: a3 :: a4 :: a5 :: a6 :: a7 :: a8 :: a9 :: a10 :: a11 :: a12 :: aI (z + n) :: ls) st mem) : V cc own nL ret R E pc (a0 :: a1 :: a2 :: a3 :: a4 :: a5 :: a6 :: a7 :: a8 :: a9 :: a10 :: a11 :: a12 :: aI z :: ls) st mem :=
  v_iinc (j := 13) hn (by intro w _ hw; cases hw; exact hc) rfl hd hq k
theorem v_iadd {a b : Int} (hd : decode cc pc = .ok (.iadd, 1)) (hq : pc + 1 = q) (k : V cc own nL ret R E q ls (aI (a + b) :: st) mem) : V cc own nL ret R E pc ls (aI b :: aI a :: st) mem := by
  subst hq
  intro p l e s m args below meth c G ad H locs la hC hP hS hl
  refine lv_iadd hC.1.1 hC.1.2.1 hd ?_
  rw [← Int32.ofInt_add]
  exact k p l e s m args below meth c G ad H locs la hC hP hS hl
theorem v_isub {a b : Int} (hd : decode cc pc = .ok (.isub, 1)) (hq : pc + 1 = q) (k : V cc own nL ret R E q ls (aI (a - b) :: st) mem) : V cc own nL ret R E pc ls (aI b :: aI a :: st) mem := by
  subst hq
  intro p l e s m args below meth c G ad H locs la hC hP hS hl
  refine lv_isub hC.1.1 hC.1.2.1 hd ?_
  rw [← Int32.ofInt_sub]
  exact k p l e s m args below meth c G ad H locs la hC hP hS hl
theorem v_imul {a b : Int} (hd : decode cc pc = .ok (.imul, 1)) (hq : pc + 1 = q) (k : V cc own nL ret R E q ls (aI (a * b) :: st) mem) : V cc own nL ret R E pc ls (aI b :: aI a :: st) mem := by
  subst hq
  intro p l e s m args below meth c G ad H locs la hC hP hS hl
  refine lv_imul hC.1.1 hC.1.2.1 hd ?_
  rw [← Int32.ofInt_mul]
  exact k p l e s m args below meth c G ad H locs la hC hP hS hl
theorem v_ladd {a b : Int} (hd : decode cc pc = .ok (.ladd, 1)) (hq : pc + 1 = q) (k : V cc own nL ret R E q ls (aL (a + b) :: st) mem) : V cc own nL ret R E pc ls (aL b :: aL a :: st) mem := by
  subst hq
  intro p l e s m args below meth c G ad H locs la hC hP hS hl
  refine lv_ladd hC.1.1 hC.1.2.1 hd ?_
  rw [← Int64.ofInt_add]
  exact k p l e s m args below meth c G ad H locs la hC hP hS hl
theorem v_lsub {a b : Int} (hd : decode cc pc = .ok (.lsub, 1)) (hq : pc + 1 = q) (k : V cc own nL ret R E q ls (aL (a - b) :: st) mem) : V cc own nL ret R E pc ls (aL b :: aL a :: st) mem := by
  subst hq
  intro p l e s m args below meth c G ad H locs la hC hP hS hl
  refine lv_lsub hC.1.1 hC.1.2.1 hd ?_
  rw [← Int64.ofInt_sub]
  exact k p l e s m args below meth c G ad H locs la hC hP hS hl
theorem v_lmul {a b : Int} (hd : decode cc pc = .ok (.lmul, 1)) (hq : pc + 1 = q) (k : V cc own nL ret R E q ls (aL (a * b) :: st) mem) : V cc own nL ret R E pc ls (aL b :: aL a :: st) mem := by
  subst hq
  intro p l e s m args below meth c G ad H locs la hC hP hS hl
  refine lv_lmul hC.1.1 hC.1.2.1 hd ?_
  rw [← Int64.ofInt_mul]
  exact k p l e s m args below meth c G ad H locs la hC hP hS hl
theorem v_iand {a b z : Int} (hz : (Int32.ofInt a) &&& (Int32.ofInt b) = Int32.ofInt z) (hd : decode cc pc = .ok (.iand, 1)) (hq : pc + 1 = q) (k : V cc own nL ret R E q ls (aI z :: st) mem) : V cc own nL ret R E pc ls (aI b :: aI a :: st) mem := by
  subst hq
  intro p l e s m args below meth c G ad H locs la hC hP hS hl
  refine lv_iand hC.1.1 hC.1.2.1 hd ?_
  rw [hz]
  exact k p l e s m args below meth c G ad H locs la hC hP hS hl
theorem v_ior {a b z : Int} (hz : (Int32.ofInt a) ||| (Int32.ofInt b) = Int32.ofInt z) (hd : decode cc pc = .ok (.ior, 1)) (hq : pc + 1 = q) (k : V cc own nL ret R E q ls (aI z :: st) mem) : V cc own nL ret R E pc ls (aI b :: aI a :: st) mem := by
  subst hq
  intro p l e s m args below meth c G ad H locs la hC hP hS hl
  refine lv_ior hC.1.1 hC.1.2.1 hd ?_
  rw [hz]
  exact k p l e s m args below meth c G ad H locs la hC hP hS hl
theorem v_ishl {a b z : Int} (hz : (Int32.ofInt a) <<< ((Int32.ofInt b) &&& 31) = Int32.ofInt z) (hd : decode cc pc = .ok (.ishl, 1)) (hq : pc + 1 = q) (k : V cc own nL ret R E q ls (aI z :: st) mem) : V cc own nL ret R E pc ls (aI b :: aI a :: st) mem := by
  subst hq
  intro p l e s m args below meth c G ad H locs la hC hP hS hl
  refine lv_ishl hC.1.1 hC.1.2.1 hd ?_
  rw [hz]
  exact k p l e s m args below meth c G ad H locs la hC hP hS hl
theorem v_ishr {a b z : Int} (hz : (Int32.ofInt a) >>> ((Int32.ofInt b) &&& 31) = Int32.ofInt z) (hd : decode cc pc = .ok (.ishr, 1)) (hq : pc + 1 = q) (k : V cc own nL ret R E q ls (aI z :: st) mem) : V cc own nL ret R E pc ls (aI b :: aI a :: st) mem := by
  subst hq
  intro p l e s m args below meth c G ad H locs la hC hP hS hl
  refine lv_ishr hC.1.1 hC.1.2.1 hd ?_
  rw [hz]
  exact k p l e s m args below meth c G ad H locs la hC hP hS hl
theorem i32_div {a b : Int} (ha : 0 ≤ a ∧ a ≤ 2147483647) (hb : 0 < b ∧ b ≤ 2147483647) : Int32.ofInt a / Int32.ofInt b = Int32.ofInt (a / b) := by
  apply Int32.toInt_inj.mp
  have h1 : a / b ≤ a := Int.ediv_le_self _ ha.1
  have h2 : 0 ≤ a / b := Int.ediv_nonneg ha.1 (by omega)
  rw [i32 (by omega), Int32.toInt_div_of_ne_left, i32 (by omega), i32 (by omega), Int.tdiv_eq_ediv_of_nonneg ha.1]
  intro h
  have h3 := congrArg Int32.toInt h
  rw [i32 (by omega)] at h3
  have h4 : Int32.minValue.toInt = -2147483648 := by decide
  omega
theorem i64_div {a b : Int} (ha : 0 ≤ a ∧ a ≤ 9223372036854775807) (hb : 0 < b ∧ b ≤ 9223372036854775807) : Int64.ofInt a / Int64.ofInt b = Int64.ofInt (a / b) := by
  apply Int64.toInt_inj.mp
  have h1 : a / b ≤ a := Int.ediv_le_self _ ha.1
  have h2 : 0 ≤ a / b := Int.ediv_nonneg ha.1 (by omega)
  rw [i64 (by omega), Int64.toInt_div_of_ne_left, i64 (by omega), i64 (by omega), Int.tdiv_eq_ediv_of_nonneg ha.1]
  intro h
  have h3 := congrArg Int64.toInt h
  rw [i64 (by omega)] at h3
  have h4 : Int64.minValue.toInt = -9223372036854775808 := by decide
  omega
theorem v_idiv {a b : Int} (ha : 0 ≤ a ∧ a ≤ 2147483647) (hb : 0 < b ∧ b ≤ 2147483647) (hd : decode cc pc = .ok (.idiv, 1)) (hq : pc + 1 = q) (k : V cc own nL ret R E q ls (aI (a / b) :: st) mem) : V cc own nL ret R E pc ls (aI b :: aI a :: st) mem := by
  subst hq
  intro p l e s m args below meth c G ad H locs la hC hP hS hl
  have h0 : ¬ Int32.ofInt b = 0 := by
    intro h
    have h3 := congrArg Int32.toInt h
    rw [i32 (by omega)] at h3
    have h4 : (0 : Int32).toInt = 0 := by decide
    omega
  refine lv_idiv hC.1.1 hC.1.2.1 hd h0 ?_
  rw [i32_div ha hb]
  exact k p l e s m args below meth c G ad H locs la hC hP hS hl
theorem v_irem {a b : Int} (ha : 0 ≤ a ∧ a ≤ 2147483647) (hb : 0 < b ∧ b ≤ 2147483647) (hd : decode cc pc = .ok (.irem, 1)) (hq : pc + 1 = q) (k : V cc own nL ret R E q ls (aI (a % b) :: st) mem) : V cc own nL ret R E pc ls (aI b :: aI a :: st) mem := by
  subst hq
  intro p l e s m args below meth c G ad H locs la hC hP hS hl
  have h0 : ¬ Int32.ofInt b = 0 := by
    intro h
    have h3 := congrArg Int32.toInt h
    rw [i32 (by omega)] at h3
    have h4 : (0 : Int32).toInt = 0 := by decide
    omega
  refine lv_irem hC.1.1 hC.1.2.1 hd h0 ?_
  rw [i32_div ha hb, ← Int32.ofInt_mul, ← Int32.ofInt_sub, show a - a / b * b = a % b by rw [Int.emod_def, Int.mul_comm]]
  exact k p l e s m args below meth c G ad H locs la hC hP hS hl
theorem v_ldiv {a b : Int} (ha : 0 ≤ a ∧ a ≤ 9223372036854775807) (hb : 0 < b ∧ b ≤ 9223372036854775807) (hd : decode cc pc = .ok (.ldiv, 1)) (hq : pc + 1 = q) (k : V cc own nL ret R E q ls (aL (a / b) :: st) mem) : V cc own nL ret R E pc ls (aL b :: aL a :: st) mem := by
  subst hq
  intro p l e s m args below meth c G ad H locs la hC hP hS hl
  have h0 : ¬ Int64.ofInt b = 0 := by
    intro h
    have h3 := congrArg Int64.toInt h
    rw [i64 (by omega)] at h3
    have h4 : (0 : Int64).toInt = 0 := by decide
    omega
  refine lv_ldiv hC.1.1 hC.1.2.1 hd h0 ?_
  rw [i64_div ha hb]
  exact k p l e s m args below meth c G ad H locs la hC hP hS hl
theorem v_lrem {a b : Int} (ha : 0 ≤ a ∧ a ≤ 9223372036854775807) (hb : 0 < b ∧ b ≤ 9223372036854775807) (hd : decode cc pc = .ok (.lrem, 1)) (hq : pc + 1 = q) (k : V cc own nL ret R E q ls (aL (a % b) :: st) mem) : V cc own nL ret R E pc ls (aL b :: aL a :: st) mem := by
  subst hq
  intro p l e s m args below meth c G ad H locs la hC hP hS hl
  have h0 : ¬ Int64.ofInt b = 0 := by
    intro h
    have h3 := congrArg Int64.toInt h
    rw [i64 (by omega)] at h3
    have h4 : (0 : Int64).toInt = 0 := by decide
    omega
  refine lv_lrem hC.1.1 hC.1.2.1 hd h0 ?_
  rw [i64_div ha hb, ← Int64.ofInt_mul, ← Int64.ofInt_sub, show a - a / b * b = a % b by rw [Int.emod_def, Int.mul_comm]]
  exact k p l e s m args below meth c G ad H locs la hC hP hS hl
theorem v_i2l {a : Int} (ha : R32 a) (hd : decode cc pc = .ok (.i2l, 1)) (hq : pc + 1 = q) (k : V cc own nL ret R E q ls (aL a :: st) mem) : V cc own nL ret R E pc ls (aI a :: st) mem := by
  subst hq
  intro p l e s m args below meth c G ad H locs la hC hP hS hl
  refine lv_i2l hC.1.1 hC.1.2.1 hd (v := Int64.ofInt a) ?_ (k p l e s m args below meth c G ad H locs la hC hP hS hl)
  apply Int64.toInt_inj.mp
  rw [Int32.toInt_toInt64, i32 ha, i64 (by omega)]
theorem v_l2i {a : Int} (ha : R32 a) (hd : decode cc pc = .ok (.l2i, 1)) (hq : pc + 1 = q) (k : V cc own nL ret R E q ls (aI a :: st) mem) : V cc own nL ret R E pc ls (aL a :: st) mem := by
  subst hq
  intro p l e s m args below meth c G ad H locs la hC hP hS hl
  refine lv_l2i hC.1.1 hC.1.2.1 hd (v := Int32.ofInt a) ?_ (k p l e s m args below meth c G ad H locs la hC hP hS hl)
  apply Int32.toInt_inj.mp
  rw [Int64.toInt_toInt32, i32 ha, i64 (by omega), Int.bmod_def]
  omega
theorem v_lsh {a z : Int} {b : Int} (hz : Int64.ofInt a <<< ((Int32.ofInt b).toInt64 &&& 63) = Int64.ofInt z) (hd : decode cc pc = .ok (.lshl, 1)) (hq : pc + 1 = q) (k : V cc own nL ret R E q ls (aL z :: st) mem) : V cc own nL ret R E pc ls (aI b :: aL a :: st) mem := by
  subst hq
  intro p l e s m args below meth c G ad H locs la hC hP hS hl
  exact lv_lshl hC.1.1 hC.1.2.1 hd hz (k p l e s m args below meth c G ad H locs la hC hP hS hl)
theorem v_lshr {a z : Int} {b : Int} (hz : Int64.ofInt a >>> ((Int32.ofInt b).toInt64 &&& 63) = Int64.ofInt z) (hd : decode cc pc = .ok (.lshr, 1)) (hq : pc + 1 = q) (k : V cc own nL ret R E q ls (aL z :: st) mem) : V cc own nL ret R E pc ls (aI b :: aL a :: st) mem := by
  subst hq
  intro p l e s m args below meth c G ad H locs la hC hP hS hl
  exact lv_lshr hC.1.1 hC.1.2.1 hd hz (k p l e s m args below meth c G ad H locs la hC hP hS hl)
theorem v_land {a b z : Int} (hz : Int64.ofInt a &&& Int64.ofInt b = Int64.ofInt z) (hd : decode cc pc = .ok (.land, 1)) (hq : pc + 1 = q) (k : V cc own nL ret R E q ls (aL z :: st) mem) : V cc own nL ret R E pc ls (aL b :: aL a :: st) mem := by
  subst hq
  intro p l e s m args below meth c G ad H locs la hC hP hS hl
  refine lv_land hC.1.1 hC.1.2.1 hd ?_
  rw [hz]
  exact k p l e s m args below meth c G ad H locs la hC hP hS hl
theorem v_i2f {a : Int} (hd : decode cc pc = .ok (.i2f, 1)) (hq : pc + 1 = q) (k : V cc own nL ret R E q ls (aF (FP.i2f (Int32.ofInt a)) :: st) mem) : V cc own nL ret R E pc ls (aI a :: st) mem := by
  subst hq
  intro p l e s m args below meth c G ad H locs la hC hP hS hl
  exact lv_i2f hC.1.1 hC.1.2.1 hd (k p l e s m args below meth c G ad H locs la hC hP hS hl)
theorem v_fdiv {x y : UInt32} (hn : vf_n32 (FP.fdiv x y)) (hd : decode cc pc = .ok (.fdiv, 1)) (hq : pc + 1 = q) (k : V cc own nL ret R E q ls (aF (FP.fdiv x y) :: st) mem) : V cc own nL ret R E pc ls (aF y :: aF x :: st) mem := by
  subst hq
  intro p l e s m args below meth c G ad H locs la hC hP hS hl
  exact lv_fdiv hC.1.1 hC.1.2.1 hd hn (k p l e s m args below meth c G ad H locs la hC hP hS hl)
theorem v_f2d {x : UInt32} (hn : vf_n64 (FP.f2d x)) (hd : decode cc pc = .ok (.f2d, 1)) (hq : pc + 1 = q) (k : V cc own nL ret R E q ls (aD (FP.f2d x) :: st) mem) : V cc own nL ret R E pc ls (aF x :: st) mem := by
  subst hq
  intro p l e s m args below meth c G ad H locs la hC hP hS hl
  exact lv_f2d hC.1.1 hC.1.2.1 hd hn (k p l e s m args below meth c G ad H locs la hC hP hS hl)
theorem v_dcmp {x y : UInt64} {op : CmpOp} {z : Int} (hz : Op.cmpValue (FP.dcmp x y) op = Int32.ofInt z) (hd : decode cc pc = .ok (.dcmp op, 1)) (hq : pc + 1 = q) (k : V cc own nL ret R E q ls (aI z :: st) mem) : V cc own nL ret R E pc ls (aD y :: aD x :: st) mem := by
  subst hq
  intro p l e s m args below meth c G ad H locs la hC hP hS hl
  refine lv_dcmp hC.1.1 hC.1.2.1 hd ?_
  rw [hz]
  exact k p l e s m args below meth c G ad H locs la hC hP hS hl
theorem v_dup {v : AV} (hv : ctg v = 1) (hd : decode cc pc = .ok (.dup, 1)) (hq : pc + 1 = q) (k : V cc own nL ret R E q ls (v :: v :: st) mem) : V cc own nL ret R E pc ls (v :: st) mem := by
  subst hq
  intro p l e s m args below meth c G ad H locs la hC hP hS hl
  exact lv_dup hC.1.1 hC.1.2.1 hd (by rw [cv_ctg]; exact hv) (k p l e s m args below meth c G ad H locs la hC hP hS hl)
theorem v_pop {v : AV} (hv : ctg v = 1) (hd : decode cc pc = .ok (.pop, 1)) (hq : pc + 1 = q) (k : V cc own nL ret R E q ls st mem) : V cc own nL ret R E pc ls (v :: st) mem := by
  subst hq
  intro p l e s m args below meth c G ad H locs la hC hP hS hl
  exact lv_pop hC.1.1 hC.1.2.1 hd (by rw [cv_ctg]; exact hv) (k p l e s m args below meth c G ad H locs la hC hP hS hl)
theorem v_pop2 {v : AV} (hv : ctg v = 2) (hd : decode cc pc = .ok (.pop2, 1)) (hq : pc + 1 = q) (k : V cc own nL ret R E q ls st mem) : V cc own nL ret R E pc ls (v :: st) mem := by
  subst hq
  intro p l e s m args below meth c G ad H locs la hC hP hS hl
  exact lv_pop2_2 hC.1.1 hC.1.2.1 hd (by rw [cv_ctg]; exact hv) (k p l e s m args below meth c G ad H locs la hC hP hS hl)
theorem v_dup2 {v w : AV} (hv : ctg v = 1) (hw : ctg w = 1) (hd : decode cc pc = .ok (.dup2, 1)) (hq : pc + 1 = q) (k : V cc own nL ret R E q ls (v :: w :: v :: w :: st) mem) : V cc own nL ret R E pc ls (v :: w :: st) mem := by
  subst hq
  intro p l e s m args below meth c G ad H locs la hC hP hS hl
  exact lv_dup2_11 hC.1.1 hC.1.2.1 hd (by rw [cv_ctg]; exact hv) (by rw [cv_ctg]; exact hw) (k p l e s m args below meth c G ad H locs la hC hP hS hl)
theorem v_dup2l {v : AV} (hv : ctg v = 2) (hd : decode cc pc = .ok (.dup2, 1)) (hq : pc + 1 = q) (k : V cc own nL ret R E q ls (v :: v :: st) mem) : V cc own nL ret R E pc ls (v :: st) mem := by
  subst hq
  intro p l e s m args below meth c G ad H locs la hC hP hS hl
  exact lv_dup2_2 hC.1.1 hC.1.2.1 hd (by rw [cv_ctg]; exact hv) (k p l e s m args below meth c G ad H locs la hC hP hS hl)
theorem v_goto {off : Int} (hd : decode cc pc = .ok (.goto off, 3)) (hq : (pc : Int) + off = (q : Int)) (k : V cc own nL ret R E q ls st mem) : V cc own nL ret R E pc ls st mem := by
  intro p l e s m args below meth c G ad H locs la hC hP hS hl
  exact lv_goto hC.1.1 hC.1.2.1 hd hq (k p l e s m args below meth c G ad H locs la hC hP hS hl)
theorem v_icmp_eq {a b : Int} {off : Int} {tgt : Nat} (hd : decode cc pc = .ok (.if_icmp .eq off, 3)) (ht : (pc : Int) + off = (tgt : Int)) (hq : pc + 3 = q) (ha : R32 a) (hb : R32 b) (kt : a = b → V cc own nL ret R E tgt ls st mem) (kf : ¬ (a = b) → V cc own nL ret R E q ls st mem) : V cc own nL ret R E pc ls (aI b :: aI a :: st) mem := by
  subst hq
  intro p l e s m args below meth c G ad H locs la hC hP hS hl
  have hq2 := i32_eq ha hb
  have hc : _ ↔ (a = b) := i32_eq ha hb
  exact lv_icmp_eq hC.1.1 hC.1.2.1 hd ht (fun h => kt (hc.mp h) p l e s m args below meth c G ad H locs la hC hP hS hl) (fun h => kf (fun h2 => h (hc.mpr h2)) p l e s m args below meth c G ad H locs la hC hP hS hl)
theorem v_if_eq {a : Int} {off : Int} {tgt : Nat} (hd : decode cc pc = .ok (.ifCond .eq off, 3)) (ht : (pc : Int) + off = (tgt : Int)) (hq : pc + 3 = q) (ha : R32 a) (kt : a = 0 → V cc own nL ret R E tgt ls st mem) (kf : ¬ (a = 0) → V cc own nL ret R E q ls st mem) : V cc own nL ret R E pc ls (aI a :: st) mem := by
  subst hq
  intro p l e s m args below meth c G ad H locs la hC hP hS hl
  have h0 : R32 0 := by omega
  have hq2 := i32_eq ha h0
  have hc : _ ↔ (a = 0) := i32_eq ha h0
  exact lv_if_eq hC.1.1 hC.1.2.1 hd ht (fun h => kt (hc.mp h) p l e s m args below meth c G ad H locs la hC hP hS hl) (fun h => kf (fun h2 => h (hc.mpr h2)) p l e s m args below meth c G ad H locs la hC hP hS hl)
theorem v_icmp_ne {a b : Int} {off : Int} {tgt : Nat} (hd : decode cc pc = .ok (.if_icmp .ne off, 3)) (ht : (pc : Int) + off = (tgt : Int)) (hq : pc + 3 = q) (ha : R32 a) (hb : R32 b) (kt : ¬ a = b → V cc own nL ret R E tgt ls st mem) (kf : a = b → V cc own nL ret R E q ls st mem) : V cc own nL ret R E pc ls (aI b :: aI a :: st) mem := by
  subst hq
  intro p l e s m args below meth c G ad H locs la hC hP hS hl
  have hq2 := i32_eq ha hb
  have hc : _ ↔ (¬ a = b) := not_congr (i32_eq ha hb)
  exact lv_icmp_ne hC.1.1 hC.1.2.1 hd ht (fun h => kt (hc.mp h) p l e s m args below meth c G ad H locs la hC hP hS hl) (fun h => kf (hq2.mp h) p l e s m args below meth c G ad H locs la hC hP hS hl)
theorem v_if_ne {a : Int} {off : Int} {tgt : Nat} (hd : decode cc pc = .ok (.ifCond .ne off, 3)) (ht : (pc : Int) + off = (tgt : Int)) (hq : pc + 3 = q) (ha : R32 a) (kt : ¬ a = 0 → V cc own nL ret R E tgt ls st mem) (kf : a = 0 → V cc own nL ret R E q ls st mem) : V cc own nL ret R E pc ls (aI a :: st) mem := by
  subst hq
  intro p l e s m args below meth c G ad H locs la hC hP hS hl
  have h0 : R32 0 := by omega
  have hq2 := i32_eq ha h0
  have hc : _ ↔ (¬ a = 0) := not_congr (i32_eq ha h0)
  exact lv_if_ne hC.1.1 hC.1.2.1 hd ht (fun h => kt (hc.mp h) p l e s m args below meth c G ad H locs la hC hP hS hl) (fun h => kf (hq2.mp h) p l e s m args below meth c G ad H locs la hC hP hS hl)
theorem v_icmp_lt {a b : Int} {off : Int} {tgt : Nat} (hd : decode cc pc = .ok (.if_icmp .lt off, 3)) (ht : (pc : Int) + off = (tgt : Int)) (hq : pc + 3 = q) (ha : R32 a) (hb : R32 b) (kt : a < b → V cc own nL ret R E tgt ls st mem) (kf : ¬ (a < b) → V cc own nL ret R E q ls st mem) : V cc own nL ret R E pc ls (aI b :: aI a :: st) mem := by
  subst hq
  intro p l e s m args below meth c G ad H locs la hC hP hS hl
  have hq2 := i32_eq ha hb
  have hc : _ ↔ (a < b) := i32_lt ha hb
  exact lv_icmp_lt hC.1.1 hC.1.2.1 hd ht (fun h => kt (hc.mp h) p l e s m args below meth c G ad H locs la hC hP hS hl) (fun h => kf (fun h2 => h (hc.mpr h2)) p l e s m args below meth c G ad H locs la hC hP hS hl)
theorem v_if_lt {a : Int} {off : Int} {tgt : Nat} (hd : decode cc pc = .ok (.ifCond .lt off, 3)) (ht : (pc : Int) + off = (tgt : Int)) (hq : pc + 3 = q) (ha : R32 a) (kt : a < 0 → V cc own nL ret R E tgt ls st mem) (kf : ¬ (a < 0) → V cc own nL ret R E q ls st mem) : V cc own nL ret R E pc ls (aI a :: st) mem := by
  subst hq
  intro p l e s m args below meth c G ad H locs la hC hP hS hl
  have h0 : R32 0 := by omega
  have hq2 := i32_eq ha h0
  have hc : _ ↔ (a < 0) := i32_lt ha h0
  exact lv_if_lt hC.1.1 hC.1.2.1 hd ht (fun h => kt (hc.mp h) p l e s m args below meth c G ad H locs la hC hP hS hl) (fun h => kf (fun h2 => h (hc.mpr h2)) p l e s m args below meth c G ad H locs la hC hP hS hl)
theorem v_icmp_ge {a b : Int} {off : Int} {tgt : Nat} (hd : decode cc pc = .ok (.if_icmp .ge off, 3)) (ht : (pc : Int) + off = (tgt : Int)) (hq : pc + 3 = q) (ha : R32 a) (hb : R32 b) (kt : b ≤ a → V cc own nL ret R E tgt ls st mem) (kf : ¬ (b ≤ a) → V cc own nL ret R E q ls st mem) : V cc own nL ret R E pc ls (aI b :: aI a :: st) mem := by
  subst hq
  intro p l e s m args below meth c G ad H locs la hC hP hS hl
  have hq2 := i32_eq ha hb
  have hc : _ ↔ (b ≤ a) := i32_le hb ha
  exact lv_icmp_ge hC.1.1 hC.1.2.1 hd ht (fun h => kt (hc.mp h) p l e s m args below meth c G ad H locs la hC hP hS hl) (fun h => kf (fun h2 => h (hc.mpr h2)) p l e s m args below meth c G ad H locs la hC hP hS hl)
theorem v_if_ge {a : Int} {off : Int} {tgt : Nat} (hd : decode cc pc = .ok (.ifCond .ge off, 3)) (ht : (pc : Int) + off = (tgt : Int)) (hq : pc + 3 = q) (ha : R32 a) (kt : 0 ≤ a → V cc own nL ret R E tgt ls st mem) (kf : ¬ (0 ≤ a) → V cc own nL ret R E q ls st mem) : V cc own nL ret R E pc ls (aI a :: st) mem := by
  subst hq
  intro p l e s m args below meth c G ad H locs la hC hP hS hl
  have h0 : R32 0 := by omega
  have hq2 := i32_eq ha h0
  have hc : _ ↔ (0 ≤ a) := i32_le h0 ha
  exact lv_if_ge hC.1.1 hC.1.2.1 hd ht (fun h => kt (hc.mp h) p l e s m args below meth c G ad H locs la hC hP hS hl) (fun h => kf (fun h2 => h (hc.mpr h2)) p l e s m args below meth c G ad H locs la hC hP hS hl)
theorem v_icmp_gt {a b : Int} {off : Int} {tgt : Nat} (hd : decode cc pc = .ok (.if_icmp .gt off, 3)) (ht : (pc : Int) + off = (tgt : Int)) (hq : pc + 3 = q) (ha : R32 a) (hb : R32 b) (kt : b < a → V cc own nL ret R E tgt ls st mem) (kf : ¬ (b < a) → V cc own nL ret R E q ls st mem) : V cc own nL ret R E pc ls (aI b :: aI a :: st) mem := by
  subst hq
  intro p l e s m args below meth c G ad H locs la hC hP hS hl
  have hq2 := i32_eq ha hb
  have hc : _ ↔ (b < a) := i32_lt hb ha
  exact lv_icmp_gt hC.1.1 hC.1.2.1 hd ht (fun h => kt (hc.mp h) p l e s m args below meth c G ad H locs la hC hP hS hl) (fun h => kf (fun h2 => h (hc.mpr h2)) p l e s m args below meth c G ad H locs la hC hP hS hl)
theorem v_if_gt {a : Int} {off : Int} {tgt : Nat} (hd : decode cc pc = .ok (.ifCond .gt off, 3)) (ht : (pc : Int) + off = (tgt : Int)) (hq : pc + 3 = q) (ha : R32 a) (kt : 0 < a → V cc own nL ret R E tgt ls st mem) (kf : ¬ (0 < a) → V cc own nL ret R E q ls st mem) : V cc own nL ret R E pc ls (aI a :: st) mem := by
  subst hq
  intro p l e s m args below meth c G ad H locs la hC hP hS hl
  have h0 : R32 0 := by omega
  have hq2 := i32_eq ha h0
  have hc : _ ↔ (0 < a) := i32_lt h0 ha
  exact lv_if_gt hC.1.1 hC.1.2.1 hd ht (fun h => kt (hc.mp h) p l e s m args below meth c G ad H locs la hC hP hS hl) (fun h => kf (fun h2 => h (hc.mpr h2)) p l e s m args below meth c G ad H locs la hC hP hS hl)
theorem v_icmp_le {a b : Int} {off : Int} {tgt : Nat} (hd : decode cc pc = .ok (.if_icmp .le off, 3)) (ht : (pc : Int) + off = (tgt : Int)) (hq : pc + 3 = q) (ha : R32 a) (hb : R32 b) (kt : a ≤ b → V cc own nL ret R E tgt ls st mem) (kf : ¬ (a ≤ b) → V cc own nL ret R E q ls st mem) : V cc own nL ret R E pc ls (aI b :: aI a :: st) mem := by
  subst hq
  intro p l e s m args below meth c G ad H locs la hC hP hS hl
  have hq2 := i32_eq ha hb
  have hc : _ ↔ (a ≤ b) := i32_le ha hb
  exact lv_icmp_le hC.1.1 hC.1.2.1 hd ht (fun h => kt (hc.mp h) p l e s m args below meth c G ad H locs la hC hP hS hl) (fun h => kf (fun h2 => h (hc.mpr h2)) p l e s m args below meth c G ad H locs la hC hP hS hl)
theorem v_if_le {a : Int} {off : Int} {tgt : Nat} (hd : decode cc pc = .ok (.ifCond .le off, 3)) (ht : (pc : Int) + off = (tgt : Int)) (hq : pc + 3 = q) (ha : R32 a) (kt : a ≤ 0 → V cc own nL ret R E tgt ls st mem) (kf : ¬ (a ≤ 0) → V cc own nL ret R E q ls st mem) : V cc own nL ret R E pc ls (aI a :: st) mem := by
  subst hq
  intro p l e s m args below meth c G ad H locs la hC hP hS hl
  have h0 : R32 0 := by omega
  have hq2 := i32_eq ha h0
  have hc : _ ↔ (a ≤ 0) := i32_le ha h0
  exact lv_if_le hC.1.1 hC.1.2.1 hd ht (fun h => kt (hc.mp h) p l e s m args below meth c G ad H locs la hC hP hS hl) (fun h => kf (fun h2 => h (hc.mpr h2)) p l e s m args below meth c G ad H locs la hC hP hS hl)
theorem i64_cmp {a b : Int} (ha : R64 a) (hb : R64 b) : lg_cmp (Int64.ofInt a) (Int64.ofInt b) = Int32.ofInt (if b < a then 1 else if a = b then 0 else -1) := by
  unfold lg_cmp
  by_cases h1 : b < a
  · rw [if_pos ((i64_lt hb ha).mpr h1), if_pos h1]; rfl
  · rw [if_neg (fun h => h1 ((i64_lt hb ha).mp h)), if_neg h1]
    by_cases h2 : a = b
    · rw [if_pos ((i64_eq ha hb).mpr h2), if_pos h2]; rfl
    · rw [if_neg (fun h => h2 ((i64_eq ha hb).mp h)), if_neg h2]; rfl
theorem v_lcmp_eq {a b : Int} {off : Int} {tgt : Nat} (hd0 : decode cc pc = .ok (.lcmp, 1)) (hd : decode cc (pc + 1) = .ok (.ifCond .eq off, 3)) (ht : (pc : Int) + 1 + off = (tgt : Int)) (hq : pc + 4 = q) (ha : R64 a) (hb : R64 b) (kt : a = b → V cc own nL ret R E tgt ls st mem) (kf : ¬ (a = b) → V cc own nL ret R E q ls st mem) : V cc own nL ret R E pc ls (aL b :: aL a :: st) mem := by
  intro p l e s m args below meth c G ad H locs la hC hP hS hl
  refine W.lcmp hC.1.1 hC.1.2.1 hd0 ?_
  rw [i64_cmp ha hb]
  have hz : R32 (if b < a then 1 else if a = b then 0 else -1) := by
    split
    · omega
    · split <;> omega
  refine v_if_eq (ls := ls) (st := st) (mem := mem) (q := q) (tgt := tgt) (a := if b < a then 1 else if a = b then 0 else -1) hd (by rw [← ht]; omega) (by omega) hz (fun h => kt ?_) (fun h => kf ?_) p l e s m args below meth c G ad H locs la hC hP hS hl
  · revert h
    split
    · omega
    · split <;> omega
  · revert h
    split
    · omega
    · split <;> omega
theorem v_lcmp_ne {a b : Int} {off : Int} {tgt : Nat} (hd0 : decode cc pc = .ok (.lcmp, 1)) (hd : decode cc (pc + 1) = .ok (.ifCond .ne off, 3)) (ht : (pc : Int) + 1 + off = (tgt : Int)) (hq : pc + 4 = q) (ha : R64 a) (hb : R64 b) (kt : ¬ a = b → V cc own nL ret R E tgt ls st mem) (kf : a = b → V cc own nL ret R E q ls st mem) : V cc own nL ret R E pc ls (aL b :: aL a :: st) mem := by
  intro p l e s m args below meth c G ad H locs la hC hP hS hl
  refine W.lcmp hC.1.1 hC.1.2.1 hd0 ?_
  rw [i64_cmp ha hb]
  have hz : R32 (if b < a then 1 else if a = b then 0 else -1) := by
    split
    · omega
    · split <;> omega
  refine v_if_ne (ls := ls) (st := st) (mem := mem) (q := q) (tgt := tgt) (a := if b < a then 1 else if a = b then 0 else -1) hd (by rw [← ht]; omega) (by omega) hz (fun h => kt ?_) (fun h => kf ?_) p l e s m args below meth c G ad H locs la hC hP hS hl
  · revert h
    split
    · omega
    · split <;> omega
  · revert h
    split
    · omega
    · split <;> omega
theorem v_lcmp_lt {a b : Int} {off : Int} {tgt : Nat} (hd0 : decode cc pc = .ok (.lcmp, 1)) (hd : decode cc (pc + 1) = .ok (.ifCond .lt off, 3)) (ht : (pc : Int) + 1 + off = (tgt : Int)) (hq : pc + 4 = q) (ha : R64 a) (hb : R64 b) (kt : a < b → V cc own nL ret R E tgt ls st mem) (kf : ¬ (a < b) → V cc own nL ret R E q ls st mem) : V cc own nL ret R E pc ls (aL b :: aL a :: st) mem := by
  intro p l e s m args below meth c G ad H locs la hC hP hS hl
  refine W.lcmp hC.1.1 hC.1.2.1 hd0 ?_
  rw [i64_cmp ha hb]
  have hz : R32 (if b < a then 1 else if a = b then 0 else -1) := by
    split
    · omega
    · split <;> omega
  refine v_if_lt (ls := ls) (st := st) (mem := mem) (q := q) (tgt := tgt) (a := if b < a then 1 else if a = b then 0 else -1) hd (by rw [← ht]; omega) (by omega) hz (fun h => kt ?_) (fun h => kf ?_) p l e s m args below meth c G ad H locs la hC hP hS hl
  · revert h
    split
    · omega
    · split <;> omega
  · revert h
    split
    · omega
    · split <;> omega
theorem v_lcmp_ge {a b : Int} {off : Int} {tgt : Nat} (hd0 : decode cc pc = .ok (.lcmp, 1)) (hd : decode cc (pc + 1) = .ok (.ifCond .ge off, 3)) (ht : (pc : Int) + 1 + off = (tgt : Int)) (hq : pc + 4 = q) (ha : R64 a) (hb : R64 b) (kt : b ≤ a → V cc own nL ret R E tgt ls st mem) (kf : ¬ (b ≤ a) → V cc own nL ret R E q ls st mem) : V cc own nL ret R E pc ls (aL b :: aL a :: st) mem := by
  intro p l e s m args below meth c G ad H locs la hC hP hS hl
  refine W.lcmp hC.1.1 hC.1.2.1 hd0 ?_
  rw [i64_cmp ha hb]
  have hz : R32 (if b < a then 1 else if a = b then 0 else -1) := by
    split
    · omega
    · split <;> omega
  refine v_if_ge (ls := ls) (st := st) (mem := mem) (q := q) (tgt := tgt) (a := if b < a then 1 else if a = b then 0 else -1) hd (by rw [← ht]; omega) (by omega) hz (fun h => kt ?_) (fun h => kf ?_) p l e s m args below meth c G ad H locs la hC hP hS hl
  · revert h
    split
    · omega
    · split <;> omega
  · revert h
    split
    · omega
    · split <;> omega
theorem v_lcmp_gt {a b : Int} {off : Int} {tgt : Nat} (hd0 : decode cc pc = .ok (.lcmp, 1)) (hd : decode cc (pc + 1) = .ok (.ifCond .gt off, 3)) (ht : (pc : Int) + 1 + off = (tgt : Int)) (hq : pc + 4 = q) (ha : R64 a) (hb : R64 b) (kt : b < a → V cc own nL ret R E tgt ls st mem) (kf : ¬ (b < a) → V cc own nL ret R E q ls st mem) : V cc own nL ret R E pc ls (aL b :: aL a :: st) mem := by
  intro p l e s m args below meth c G ad H locs la hC hP hS hl
  refine W.lcmp hC.1.1 hC.1.2.1 hd0 ?_
  rw [i64_cmp ha hb]
  have hz : R32 (if b < a then 1 else if a = b then 0 else -1) := by
    split
    · omega
    · split <;> omega
  refine v_if_gt (ls := ls) (st := st) (mem := mem) (q := q) (tgt := tgt) (a := if b < a then 1 else if a = b then 0 else -1) hd (by rw [← ht]; omega) (by omega) hz (fun h => kt ?_) (fun h => kf ?_) p l e s m args below meth c G ad H locs la hC hP hS hl
  · revert h
    split
    · omega
    · split <;> omega
  · revert h
    split
    · omega
    · split <;> omega
theorem v_lcmp_le {a b : Int} {off : Int} {tgt : Nat} (hd0 : decode cc pc = .ok (.lcmp, 1)) (hd : decode cc (pc + 1) = .ok (.ifCond .le off, 3)) (ht : (pc : Int) + 1 + off = (tgt : Int)) (hq : pc + 4 = q) (ha : R64 a) (hb : R64 b) (kt : a ≤ b → V cc own nL ret R E tgt ls st mem) (kf : ¬ (a ≤ b) → V cc own nL ret R E q ls st mem) : V cc own nL ret R E pc ls (aL b :: aL a :: st) mem := by
  intro p l e s m args below meth c G ad H locs la hC hP hS hl
  refine W.lcmp hC.1.1 hC.1.2.1 hd0 ?_
  rw [i64_cmp ha hb]
  have hz : R32 (if b < a then 1 else if a = b then 0 else -1) := by
    split
    · omega
    · split <;> omega
  refine v_if_le (ls := ls) (st := st) (mem := mem) (q := q) (tgt := tgt) (a := if b < a then 1 else if a = b then 0 else -1) hd (by rw [← ht]; omega) (by omega) hz (fun h => kt ?_) (fun h => kf ?_) p l e s m args below meth c G ad H locs la hC hP hS hl
  · revert h
    split
    · omega
    · split <;> omega
  · revert h
    split
    · omega
    · split <;> omega
theorem v_tableOut {a : Int} {dflt lo hi : Int} {offs : Array Int} {len tgt : Nat} (hd : decode cc pc = .ok (.tableswitch dflt lo hi offs, len)) (ha : R32 a) (h : a < lo ∨ hi < a) (ht : (pc : Int) + dflt = (tgt : Int)) (k : V cc own nL ret R E tgt ls st mem) : V cc own nL ret R E pc ls (aI a :: st) mem := by
  intro p l e s m args below meth c G ad H locs la hC hP hS hl
  exact lv_tableOut hC.1.1 hC.1.2.1 hd (by rw [i32 ha]; exact h) ht (k p l e s m args below meth c G ad H locs la hC hP hS hl)
theorem v_tableIn {a : Int} {dflt lo hi : Int} {offs : Array Int} {len tgt : Nat} {off : Int} (hd : decode cc pc = .ok (.tableswitch dflt lo hi offs, len)) (ha : R32 a) (h1 : lo ≤ a) (h2 : a ≤ hi) (ho : offs[(a - lo).toNat]? = some off) (ht : (pc : Int) + off = (tgt : Int)) (k : V cc own nL ret R E tgt ls st mem) : V cc own nL ret R E pc ls (aI a :: st) mem := by
  intro p l e s m args below meth c G ad H locs la hC hP hS hl
  exact lv_tableIn hC.1.1 hC.1.2.1 hd (by rw [i32 ha]; omega) (by rw [i32 ha]; omega) (by rw [i32 ha]; exact ho) ht (k p l e s m args below meth c G ad H locs la hC hP hS hl)
theorem v_lookup {a : Int} {dflt off : Int} {ps : Array (Int × Int)} {len tgt : Nat} (hd : decode cc pc = .ok (.lookupswitch dflt ps, len)) (ha : R32 a) (hp : (ps.toList.zip (ps.toList.drop 1)).all (fun (a, next) => a.1 < next.1) = true) (ho : Op.lookupswitch.offset ps.toList dflt a = off) (ht : (pc : Int) + off = (tgt : Int)) (k : V cc own nL ret R E tgt ls st mem) : V cc own nL ret R E pc ls (aI a :: st) mem := by
  intro p l e s m args below meth c G ad H locs la hC hP hS hl
  exact lv_lookup hC.1.1 hC.1.2.1 hd hp (by rw [i32 ha]; exact ho) ht (k p l e s m args below meth c G ad H locs la hC hP hS hl)
end Rows
