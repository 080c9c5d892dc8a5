/-! ===== new objects: a list of cells, laid one behind the other from a place on ===== -/
abbrev AC : Type := (Nat × List AV) ⊕ ((Nat × Nat × (Nat → Int)) ⊕ (Nat × Nat × (Nat → Option Nat)))
def cO (c : Nat) (fs : List AV) : AC := .inl (c, fs)
def cN (k n : Nat) (f : Nat → Int) : AC := .inr (.inl (k, n, f))
def cQ (k n : Nat) (f : Nat → Option Nat) : AC := .inr (.inr (k, n, f))
def cellA (G : WG) (ad : Nat → Nat) : AC → va_E
  | .inl q => .inr (q.1, q.2.map (cv ad))
  | .inr (.inl (0, n, f)) => .inl (G.2.1, n, .inl (fun k => Int32.ofInt (f k)))
  | .inr (.inl (1, n, f)) => .inl (G.2.2.1, n, .inr (.inl (fun k => Int64.ofInt (f k))))
  | .inr (.inl (_, n, f)) => .inl (G.2.2.2.1, n, .inl (fun k => Int32.ofInt (f k)))
  | .inr (.inr (3, n, f)) => .inl (G.2.2.2.2.1, n, .inr (.inr (.inr (.inr (fun k => (f k).map ad)))))
  | .inr (.inr (_, n, f)) => .inl (G.2.2.2.2.2, n, .inr (.inr (.inr (.inr (fun k => (f k).map ad)))))
def WA (G : WG) (ad : Nat → Nat) : Nat → List AC → va_W
  | _, [] => []
  | d, e :: es => (ad d, cellA G ad e) :: WA G ad (d + 1) es
theorem WA_len (G : WG) (ad : Nat → Nat) : ∀ (es : List AC) (d : Nat), (WA G ad d es).length = es.length
  | [], _ => rfl
  | _ :: es, d => congrArg (· + 1) (WA_len G ad es (d + 1))
theorem WA_get (G : WG) (ad : Nat → Nat) : ∀ (es : List AC) (d j : Nat), (WA G ad d es)[j]? = (es[j]?).map (fun e => (ad (d + j), cellA G ad e))
  | [], _, _ => rfl
  | e :: es, d, 0 => rfl
  | e :: es, d, j + 1 => by
    have h := WA_get G ad es (d + 1) j
    rw [show d + 1 + j = d + (j + 1) by omega] at h
    simpa [WA] using h
theorem WA_at {G : WG} {ad : Nat → Nat} {es : List AC} {d j : Nat} {e : AC} (h : es[j]? = some e) : (WA G ad d es)[j]? = some (ad (d + j), cellA G ad e) := by rw [WA_get, h]; rfl
theorem WA_of {G : WG} {ad : Nat → Nat} {es : List AC} {d j : Nat} {q : Nat × va_E} (h : (WA G ad d es)[j]? = some q) : ∃ e, es[j]? = some e ∧ q = (ad (d + j), cellA G ad e) := by
  rw [WA_get] at h
  cases he : es[j]? with
  | none => rw [he] at h; cases h
  | some e => rw [he] at h; exact ⟨e, rfl, (Option.some.inj h).symm⟩
theorem WA_app (G : WG) (ad : Nat → Nat) : ∀ (es fs : List AC) (d : Nat), WA G ad d (es ++ fs) = WA G ad d es ++ WA G ad (d + es.length) fs
  | [], _, _ => rfl
  | e :: es, fs, d => by
    have h := WA_app G ad es fs (d + 1)
    show (ad d, cellA G ad e) :: WA G ad (d + 1) (es ++ fs) = (ad d, cellA G ad e) :: (WA G ad (d + 1) es ++ WA G ad (d + (es.length + 1)) fs)
    rw [h, show d + 1 + es.length = d + (es.length + 1) by omega]
theorem WA_set (G : WG) (ad : Nat → Nat) (e : AC) : ∀ (es : List AC) (d j : Nat), (WA G ad d es).set j (ad (d + j), cellA G ad e) = WA G ad d (es.set j e)
  | [], _, _ => rfl
  | _ :: _, _, 0 => rfl
  | x :: es, d, j + 1 => by
    have h := WA_set G ad e es (d + 1) j
    rw [show d + 1 + j = d + (j + 1) by omega] at h
    show (ad d, cellA G ad x) :: (WA G ad (d + 1) es).set j _ = (ad d, cellA G ad x) :: WA G ad (d + 1) (es.set j e)
    rw [h]
def linA (ad : Nat → Nat) : Prop := ∀ p, p < 128 → ad p = ad 0 + p
theorem linA.add {ad : Nat → Nat} (h : linA ad) {d j : Nat} (hd : d + j < 128) : ad (d + j) = ad d + j := by rw [h (d + j) hd, h d (by omega)]; omega
theorem WA_D {G : WG} {ad : Nat → Nat} (h : linA ad) {d : Nat} {es : List AC} (hd : d + es.length ≤ 128) : va_D (fun q => ad d ≤ q) (WA G ad d es) := by
  refine ⟨fun i j p q hi hj hpq => ?_, fun k q hk => ?_⟩
  · obtain ⟨e1, h1, rfl⟩ := WA_of hi
    obtain ⟨e2, h2, rfl⟩ := WA_of hj
    have l1 := (List.getElem?_eq_some_iff.mp h1).1
    have l2 := (List.getElem?_eq_some_iff.mp h2).1
    have a1 := h.add (d := d) (j := i) (by omega)
    have a2 := h.add (d := d) (j := j) (by omega)
    have a3 : ad (d + i) = ad (d + j) := hpq
    omega
  · obtain ⟨e1, h1, rfl⟩ := WA_of hk
    have l1 := (List.getElem?_eq_some_iff.mp h1).1
    have a1 := h.add (d := d) (j := k) (by omega)
    show ad d ≤ ad (d + k)
    omega
def WNw (G : WG) (ad : Nat → Nat) (d : Nat) (es : List AC) (H : Heap) : Prop := va_P G.1 vwCl (WA G ad d es) H ∧ H.size = ad d + es.length ∧ d + es.length ≤ 128
/-- one cell more -/
theorem WNw.push {G : WG} {ad : Nat → Nat} {d : Nat} {es : List AC} {e : AC} {H H1 : Heap} (h : WNw G ad d es H) (hl : linA ad) (hd : d + es.length < 128) (z1 : H1.size = H.size + 1) (o1 : ∀ q, q < H.size → H1[q]? = H[q]?) (e1 : va_at G.1 vwCl (H.size, cellA G ad e) H1) : WNw G ad d (es ++ [e]) H1 ∧ ad (d + es.length) = H.size := by
  have ha := hl.add hd
  have hs : ad (d + es.length) = H.size := by rw [ha, h.2.1]
  refine ⟨⟨?_, by rw [z1, h.2.1, List.length_append]; rfl, by rw [List.length_append]; exact hd⟩, hs⟩
  rw [WA_app]
  refine (h.1.kept (fun k x hx => o1 x.1 ((h.1 k x hx).lt))).app (fun k x hx => ?_)
  have hz : k < 1 := (List.getElem?_eq_some_iff.mp hx).1
  rw [show k = 0 by omega] at hx
  have hx2 : x = (ad (d + es.length), cellA G ad e) := (Option.some.inj hx).symm
  rw [hx2, hs]
  exact e1
/-- words on arrays of references -/
def aoL (U : State) : Prop := (Cond.arrayOver (.array .long)).before #[] U = true
def aoOK (U : State) : Prop := va_AO "StackLab$Setup" U ∧ aoL U
theorem aoL.moved {u U : State} (hvm : u.vm.Alike U.vm) (h : aoL u) : aoL U := by
  have h1 : (Cond.arrayOver (.array .long)).before #[] (u.setVm U.vm) = true := by rw [Cond.arrayOver_setVmC hvm]; exact h
  exact h1
theorem aoOK.moved {u U : State} (hvm : u.vm.Alike U.vm) (h : aoOK u) : aoOK U := ⟨va_AO.moved hvm h.1, aoL.moved hvm h.2⟩
/-! The judgement VN -/
abbrev ND : Type := Nat × (List Frame → Array Value → State → WG → (Nat → Nat) → State → Prop) × (Array Value → State → WG → (Nat → Nat) → Method → Prop)
abbrev NM : Type := List AC × Nat × Nat
def Cn (cc : ByteArray) (own : String) (nL : Nat) (ret : Option FieldType) (E : ND) (p : Program) (s : State) (m : MethodId) (args : Array Value) (meth : Method) (c : Code) (G : WG) (ad : Nat → Nat) : Prop :=
  CallFix p m c cc nL s args gw own ∧ meth.locks = false ∧ meth.sig.returnType = ret ∧ va_K G.1 vwCl (tysW G) s ∧ nestOK s ∧ aoOK s ∧ linA ad ∧ ad E.1 ≤ s.heap.size ∧ E.2.2 args s G ad meth
def VN (cc : ByteArray) (own : String) (nL : Nat) (ret : Option FieldType) (R : Room) (E : ND) (pc : Nat) (ls st : List AV) (mem : NM) : Prop :=
  ∀ (p : Program) (l : Launch) (e : Env) (s : State) (m : MethodId) (args : Array Value) (below : List Frame) (meth : Method) (c : Code) (G : WG) (ad : Nat → Nat) (H : Heap) (locs : List Loc) (la : Array Slot),
    Cn cc own nL ret E p s m args meth c G ad → WNw G ad E.1 mem.1 H → va_S (fun q => ad E.1 ≤ q) s.heap H locs → lvh ad la nL ls →
    W p l e R s m args below meth c H locs mem.2.1 mem.2.2 (E.2.1 below args s G ad) (F0 m pc la (st.map (cv ad)))
section NewRows
variable {cc : ByteArray} {own : String} {nL : Nat} {ret : Option FieldType} {R : Room} {E : ND} {pc q : Nat} {ls st : List AV} {mem : NM}
theorem n_iconst {n : Int} (hd : decode cc pc = .ok (.iconst n, 1)) (hq : pc + 1 = q) (k : VN cc own nL ret R E q ls (aI n :: st) mem) : VN cc own nL ret R E pc ls st mem := by
  subst hq
  intro p l e s m args below meth c G ad H locs la hC hP hS hl
  exact lv_iconst hC.1.1 hC.1.2.1 hd rfl (k p l e s m args below meth c G ad H locs la hC hP hS hl)
theorem n_bipush {n : Int} (hn : -128 ≤ n ∧ n ≤ 127) (hd : decode cc pc = .ok (.bipush n, 2)) (hq : pc + 2 = q) (k : VN cc own nL ret R E q ls (aI n :: st) mem) : VN cc own nL ret R E pc ls st mem := by
  subst hq
  intro p l e s m args below meth c G ad H locs la hC hP hS hl
  refine lv_bipush hC.1.1 hC.1.2.1 hd (v := Int32.ofInt n) ?_ (k p l e s m args below meth c G ad H locs la hC hP hS hl)
  apply Int32.toInt_inj.mp
  rw [i32 (by omega), Int8.toInt_toInt32, Int8.toInt_ofInt_of_le (by omega) (by omega)]
theorem n_sipush {n : Int} (hn : -32768 ≤ n ∧ n ≤ 32767) (hd : decode cc pc = .ok (.sipush n, 3)) (hq : pc + 3 = q) (k : VN cc own nL ret R E q ls (aI n :: st) mem) : VN cc own nL ret R E pc ls st mem := by
  subst hq
  intro p l e s m args below meth c G ad H locs la hC hP hS hl
  refine lv_sipush hC.1.1 hC.1.2.1 hd (v := Int32.ofInt n) ?_ (k p l e s m args below meth c G ad H locs la hC hP hS hl)
  apply Int32.toInt_inj.mp
  rw [i32 (by omega), Int16.toInt_toInt32, Int16.toInt_ofInt_of_le (by omega) (by omega)]
theorem n_ldc2 {x : Nat} {n : Int} {v : Int64} (hw : Cond.constantLong own x v ∈ gw) (hv : v = Int64.ofInt n) (hd : decode cc pc = .ok (.ldc2_w x, 3)) (hq : pc + 3 = q) (k : VN cc own nL ret R E q ls (aL n :: st) mem) : VN cc own nL ret R E pc ls st mem := by
  subst hq
  intro p l e s m args below meth c G ad H locs la hC hP hS hl
  subst hv
  exact lv_ldc2 hC.1.1 hC.1.2.1 hC.1.2.2.2.1 (hC.1.2.2.2.2 _ hw) hd (k p l e s m args below meth c G ad H locs la hC hP hS hl)
theorem n_iload_n {j : Fin 4} {z : Int} (hl0 : ls[(j : Nat)]? = some (aI z)) (hd : decode cc pc = .ok (.iload_n j, 1)) (hq : pc + 1 = q) (k : VN cc own nL ret R E q ls (aI z :: st) mem) : VN cc own nL ret R E pc ls st mem := by
  subst hq
  intro p l e s m args below meth c G ad H locs la hC hP hS hl
  exact lv_iload_n hC.1.1 hC.1.2.1 hd rfl (hl.2.2 _ _ hl0 (by intro h; cases h)) (k p l e s m args below meth c G ad H locs la hC hP hS hl)
theorem n_aload_n {j : Fin 4} {z : Nat} (hl0 : ls[(j : Nat)]? = some (aR z)) (hd : decode cc pc = .ok (.aload_n j, 1)) (hq : pc + 1 = q) (k : VN cc own nL ret R E q ls (aR z :: st) mem) : VN cc own nL ret R E pc ls st mem := by
  subst hq
  intro p l e s m args below meth c G ad H locs la hC hP hS hl
  exact lv_aload_n hC.1.1 hC.1.2.1 hd rfl (hl.2.2 _ _ hl0 (by intro h; cases h)) (k p l e s m args below meth c G ad H locs la hC hP hS hl)
theorem n_istore_n {j : Fin 4} {z : Int} (hn : j < nL) (hp : ∀ w, 0 < (j : Nat) → ls[(j : Nat) - 1]? = some w → ctg w = 1) (hd : decode cc pc = .ok (.istore_n j, 1)) (hq : pc + 1 = q) (k : VN cc own nL ret R E q (ls.set j (aI z)) st mem) : VN cc own nL ret R E pc ls (aI z :: st) mem := by
  subst hq
  intro p l e s m args below meth c G ad H locs la hC hP hS hl
  exact lv_istore_n hC.1.1 hC.1.2.1 hd rfl hl.has hn rfl (fun la' hl' => k p l e s m args below meth c G ad H locs la' hC hP hS (lvh.set1 (x := aI z) hp hl'))
theorem n_astore_n {j : Fin 4} {z : Nat} (hn : j < nL) (hp : ∀ w, 0 < (j : Nat) → ls[(j : Nat) - 1]? = some w → ctg w = 1) (hd : decode cc pc = .ok (.astore_n j, 1)) (hq : pc + 1 = q) (k : VN cc own nL ret R E q (ls.set j (aR z)) st mem) : VN cc own nL ret R E pc ls (aR z :: st) mem := by
  subst hq
  intro p l e s m args below meth c G ad H locs la hC hP hS hl
  exact lv_astore_n hC.1.1 hC.1.2.1 hd rfl hl.has hn rfl (fun la' hl' => k p l e s m args below meth c G ad H locs la' hC hP hS (lvh.set1 (x := aR z) hp hl'))
theorem n_iinc {j : Nat} {z n : Int} (hn : j < nL) (hp : ∀ w, 0 < j → ls[j - 1]? = some w → ctg w = 1) (hl0 : ls[j]? = some (aI z)) (hd : decode cc pc = .ok (.iinc j n, 3)) (hq : pc + 3 = q) (k : VN cc own nL ret R E q (ls.set j (aI (z + n))) st mem) : VN cc own nL ret R E pc ls st mem := by
  subst hq
  intro p l e s m args below meth c G ad H locs la hC hP hS hl
  obtain ⟨i, hi⟩ := List.getElem?_of_mem (toL_in (ad := ad) ls 0 j (aI z) hl0 (by intro h; cases h))
  rw [Nat.zero_add] at hi
  refine lv_iinc hC.1.1 hC.1.2.1 hd hl.has (k := i) (x := Int32.ofInt z) hi rfl hn rfl (fun la' hl' => k p l e s m args below meth c G ad H locs la' hC hP hS (lvh.set1 (x := aI (z + n)) hp ?_))
  rw [← Int32.ofInt_add] at hl'
  exact hl'
theorem n_ist1 {a0 x : AV} {z : Int} (hc : ctg a0 = 1 := by rfl) (hd : decode cc pc = .ok (.istore_n 1, 1)) (hn : 1 < nL) (hq : pc + 1 = q) (k : VN cc own nL ret R E q (a0 :: aI z :: ls) st mem) : VN cc own nL ret R E pc (a0 :: x :: ls) (aI z :: st) mem :=
  n_istore_n (j := 1) hn (by intro w _ hw; cases hw; exact hc) hd hq k
theorem n_ast1 {a0 x : AV} {z : Nat} (hc : ctg a0 = 1 := by rfl) (hd : decode cc pc = .ok (.astore_n 1, 1)) (hn : 1 < nL) (hq : pc + 1 = q) (k : VN cc own nL ret R E q (a0 :: aR z :: ls) st mem) : VN cc own nL ret R E pc (a0 :: x :: ls) (aR z :: st) mem :=
  n_astore_n (j := 1) hn (by intro w _ hw; cases hw; exact hc) hd hq k
theorem n_iinc1 {a0 : AV} {z n : Int} (hc : ctg a0 = 1 := by rfl) (hd : decode cc pc = .ok (.iinc 1 n, 3)) (hn : 1 < nL) (hq : pc + 3 = q) (k : VN cc own nL ret R E q (a0 :: aI (z + n) :: ls) st mem) : VN cc own nL ret R E pc (a0 :: aI z :: ls) st mem :=
  n_iinc (j := 1) hn (by intro w _ hw; cases hw; exact hc) rfl hd hq k
theorem n_ast2 {a0 a1 x : AV} {z : Nat} (hc : ctg a1 = 1 := by rfl) (hd : decode cc pc = .ok (.astore_n 2, 1)) (hn : 2 < nL) (hq : pc + 1 = q) (k : VN cc own nL ret R E q (a0 :: a1 :: aR z :: ls) st mem) : VN cc own nL ret R E pc (a0 :: a1 :: x :: ls) (aR z :: st) mem :=
  n_astore_n (j := 2) hn (by intro w _ hw; cases hw; exact hc) hd hq k
theorem n_ist3 {a0 a1 a2 x : AV} {z : Int} (hc : ctg a2 = 1 := by rfl) (hd : decode cc pc = .ok (.istore_n 3, 1)) (hn : 3 < nL) (hq : pc + 1 = q) (k : VN cc own nL ret R E q (a0 :: a1 :: a2 :: aI z :: ls) st mem) : VN cc own nL ret R E pc (a0 :: a1 :: a2 :: x :: ls) (aI z :: st) mem :=
  n_istore_n (j := 3) hn (by intro w _ hw; cases hw; exact hc) hd hq k
theorem n_iadd {a b : Int} (hd : decode cc pc = .ok (.iadd, 1)) (hq : pc + 1 = q) (k : VN cc own nL ret R E q ls (aI (a + b) :: st) mem) : VN cc own nL ret R E pc ls (aI b :: aI a :: st) mem := by
  subst hq
  intro p l e s m args below meth c G ad H locs la hC hP hS hl
  refine lv_iadd hC.1.1 hC.1.2.1 hd ?_
  rw [← Int32.ofInt_add]
  exact k p l e s m args below meth c G ad H locs la hC hP hS hl
theorem n_imul {a b : Int} (hd : decode cc pc = .ok (.imul, 1)) (hq : pc + 1 = q) (k : VN cc own nL ret R E q ls (aI (a * b) :: st) mem) : VN cc own nL ret R E pc ls (aI b :: aI a :: st) mem := by
  subst hq
  intro p l e s m args below meth c G ad H locs la hC hP hS hl
  refine lv_imul hC.1.1 hC.1.2.1 hd ?_
  rw [← Int32.ofInt_mul]
  exact k p l e s m args below meth c G ad H locs la hC hP hS hl
theorem n_dup {v : AV} (hv : ctg v = 1) (hd : decode cc pc = .ok (.dup, 1)) (hq : pc + 1 = q) (k : VN cc own nL ret R E q ls (v :: v :: st) mem) : VN cc own nL ret R E pc ls (v :: st) mem := by
  subst hq
  intro p l e s m args below meth c G ad H locs la hC hP hS hl
  exact lv_dup hC.1.1 hC.1.2.1 hd (by rw [cv_ctg]; exact hv) (k p l e s m args below meth c G ad H locs la hC hP hS hl)
theorem n_goto {off : Int} (hd : decode cc pc = .ok (.goto off, 3)) (hq : (pc : Int) + off = (q : Int)) (k : VN cc own nL ret R E q ls st mem) : VN cc own nL ret R E pc ls st mem := by
  intro p l e s m args below meth c G ad H locs la hC hP hS hl
  exact lv_goto hC.1.1 hC.1.2.1 hd hq (k p l e s m args below meth c G ad H locs la hC hP hS hl)
theorem n_icmp_ge {a b : Int} {off : Int} {tgt : Nat} (hd : decode cc pc = .ok (.if_icmp .ge off, 3)) (ht : (pc : Int) + off = (tgt : Int)) (hq : pc + 3 = q) (ha : R32 a) (hb : R32 b) (kt : b ≤ a → VN cc own nL ret R E tgt ls st mem) (kf : ¬ (b ≤ a) → VN cc own nL ret R E q ls st mem) : VN cc own nL ret R E pc ls (aI b :: aI a :: st) mem := by
  subst hq
  intro p l e s m args below meth c G ad H locs la hC hP hS hl
  have hq2 := i32_eq ha hb
  have hc : _ ↔ (b ≤ a) := i32_le hb ha
  exact lv_icmp_ge hC.1.1 hC.1.2.1 hd ht (fun h => kt (hc.mp h) p l e s m args below meth c G ad H locs la hC hP hS hl) (fun h => kf (fun h2 => h (hc.mpr h2)) p l e s m args below meth c G ad H locs la hC hP hS hl)
theorem i32_len {n : Int} {N : Nat} (hn : n = N) (hN : N ≤ 100000) : ¬ Int32.ofInt n < 0 ∧ (Int32.ofInt n).toNatClampNeg = N := by
  subst hn
  refine ⟨?_, by rw [Int32.toNatClampNeg, i32 (by omega)]; simp⟩
  rw [i32_z, i32_lt (by omega) (by omega)]
  omega
theorem n_newI {n : Int} {N nc ns : Nat} {es : List AC} (hd : decode cc pc = .ok (.newarray .int, 2)) (hq : pc + 2 = q) (hn : n = N) (hN : N ≤ 100000) (hl0 : E.1 + es.length < 128) (hc : nc + 1 ≤ R.cells) (hs : ns + N ≤ R.slots) (k : VN cc own nL ret R E q ls (aR (E.1 + es.length) :: st) (es ++ [cN 0 N (fun _ => 0)], nc + 1, ns + N)) : VN cc own nL ret R E pc ls (aI n :: st) (es, nc, ns) := by
  subst hq
  intro p l e s m args below meth c G ad H locs la hC hP hS hl
  obtain ⟨g1, g2⟩ := i32_len hn hN
  refine va_newaK hC.1.1 hC.1.2.1 (atype := .int) (hC.1.2.2.2.2 _ (gw_in (w := .arrayClass .int) (by decide +kernel) rfl)) (g := F0 m pc la ((aI n :: st).map (cv ad))) rfl hd rfl g1 g2 (by show N * 4 ≤ _; omega) hc hs rfl fun H1 cA e1 z1 o1 hAr hNm => ?_
  have hG := (hC.2.2.2.1.2 0 (G.2.1, .int) rfl).2
  have ec : some cA = some G.2.1 := hNm.symm.trans hG
  cases ec
  obtain ⟨w1, w2⟩ := hP.push (e := cN 0 N (fun _ => 0)) (H1 := H1) hC.2.2.2.2.2.2.1 hl0 z1 o1 e1
  have k2 := k p l e s m args below meth c G ad H1 locs la hC w1 ⟨by have := hS.1; omega, fun x h1 h2 => (o1 x (Nat.lt_of_lt_of_le h1 hS.1)).trans (hS.2.1 x h1 h2), hS.2.2⟩ hl
  have k3 : cv ad (aR (E.1 + es.length)) = .ref H.size := by show Value.ref (ad (E.1 + es.length)) = _; rw [w2]
  simp only [List.map_cons, k3] at k2
  exact k2
theorem n_newL {n : Int} {N nc ns : Nat} {es : List AC} (hd : decode cc pc = .ok (.newarray .long, 2)) (hq : pc + 2 = q) (hn : n = N) (hN : N ≤ 100000) (hl0 : E.1 + es.length < 128) (hc : nc + 1 ≤ R.cells) (hs : ns + N ≤ R.slots) (k : VN cc own nL ret R E q ls (aR (E.1 + es.length) :: st) (es ++ [cN 1 N (fun _ => 0)], nc + 1, ns + N)) : VN cc own nL ret R E pc ls (aI n :: st) (es, nc, ns) := by
  subst hq
  intro p l e s m args below meth c G ad H locs la hC hP hS hl
  obtain ⟨g1, g2⟩ := i32_len hn hN
  refine va_newaK hC.1.1 hC.1.2.1 (atype := .long) (hC.1.2.2.2.2 _ (gw_in (w := .arrayClass .long) (by decide +kernel) rfl)) (g := F0 m pc la ((aI n :: st).map (cv ad))) rfl hd rfl g1 g2 (by show N * 8 ≤ _; omega) hc hs rfl fun H1 cA e1 z1 o1 hAr hNm => ?_
  have hG := (hC.2.2.2.1.2 1 (G.2.2.1, .long) rfl).2
  have ec : some cA = some G.2.2.1 := hNm.symm.trans hG
  cases ec
  obtain ⟨w1, w2⟩ := hP.push (e := cN 1 N (fun _ => 0)) (H1 := H1) hC.2.2.2.2.2.2.1 hl0 z1 o1 e1
  have k2 := k p l e s m args below meth c G ad H1 locs la hC w1 ⟨by have := hS.1; omega, fun x h1 h2 => (o1 x (Nat.lt_of_lt_of_le h1 hS.1)).trans (hS.2.1 x h1 h2), hS.2.2⟩ hl
  have k3 : cv ad (aR (E.1 + es.length)) = .ref H.size := by show Value.ref (ad (E.1 + es.length)) = _; rw [w2]
  simp only [List.map_cons, k3] at k2
  exact k2
theorem n_newZ {n : Int} {N nc ns : Nat} {es : List AC} (hd : decode cc pc = .ok (.newarray .boolean, 2)) (hq : pc + 2 = q) (hn : n = N) (hN : N ≤ 100000) (hl0 : E.1 + es.length < 128) (hc : nc + 1 ≤ R.cells) (hs : ns + N ≤ R.slots) (k : VN cc own nL ret R E q ls (aR (E.1 + es.length) :: st) (es ++ [cN 2 N (fun _ => 0)], nc + 1, ns + N)) : VN cc own nL ret R E pc ls (aI n :: st) (es, nc, ns) := by
  subst hq
  intro p l e s m args below meth c G ad H locs la hC hP hS hl
  obtain ⟨g1, g2⟩ := i32_len hn hN
  refine va_newaK hC.1.1 hC.1.2.1 (atype := .boolean) (hC.1.2.2.2.2 _ (gw_in (w := .arrayClass .boolean) (by decide +kernel) rfl)) (g := F0 m pc la ((aI n :: st).map (cv ad))) rfl hd rfl g1 g2 (by show N * 1 ≤ _; omega) hc hs rfl fun H1 cA e1 z1 o1 hAr hNm => ?_
  have hG := (hC.2.2.2.1.2 2 (G.2.2.2.1, .boolean) rfl).2
  have ec : some cA = some G.2.2.2.1 := hNm.symm.trans hG
  cases ec
  obtain ⟨w1, w2⟩ := hP.push (e := cN 2 N (fun _ => 0)) (H1 := H1) hC.2.2.2.2.2.2.1 hl0 z1 o1 e1
  have k2 := k p l e s m args below meth c G ad H1 locs la hC w1 ⟨by have := hS.1; omega, fun x h1 h2 => (o1 x (Nat.lt_of_lt_of_le h1 hS.1)).trans (hS.2.1 x h1 h2), hS.2.2⟩ hl
  have k3 : cv ad (aR (E.1 + es.length)) = .ref H.size := by show Value.ref (ad (E.1 + es.length)) = _; rw [w2]
  simp only [List.map_cons, k3] at k2
  exact k2
theorem n_newq {n : Int} {N nc ns x : Nat} {es : List AC} (hd : decode cc pc = .ok (.anewarray x, 3)) (hcl : Cond.classLink own x "StackLab$Setup" ∈ gw) (hq : pc + 3 = q) (hn : n = N) (hN : N ≤ 100000) (hl0 : E.1 + es.length < 128) (hc : nc + 1 ≤ R.cells) (hs : ns + N ≤ R.slots) (k : VN cc own nL ret R E q ls (aR (E.1 + es.length) :: st) (es ++ [cQ 4 N (fun _ => none)], nc + 1, ns + N)) : VN cc own nL ret R E pc ls (aI n :: st) (es, nc, ns) := by
  subst hq
  intro p l e s m args below meth c G ad H locs la hC hP hS hl
  obtain ⟨g1, g2⟩ := i32_len hn hN
  subst g2
  refine W.anew hC.1.1 hC.1.2.1 hC.1.2.2.2.1 (hC.1.2.2.2.2 _ hcl) (va_AO.use hC.2.2.2.2.2.1.1) (g := F0 m pc la ((aI n :: st).map (cv ad))) rfl hd rfl g1 (by omega) hc hs fun cA kA comp f1 f2 f3 f4 => ?_
  generalize hH1 : H.push ({ cls := cA, slots := Array.replicate (Int32.ofInt n).toNatClampNeg .null, vm := .none } : Cell) = H1
  have z1 : H1.size = H.size + 1 := by rw [← hH1, Array.size_push]
  have e1 : H1[H.size]? = some (arrV cA (Int32.ofInt n).toNatClampNeg (fun _ => .null)) := by rw [← hH1, Array.getElem?_push_size, ← arrV_new]
  have o1 : ∀ q : Nat, q < H.size → H1[q]? = H[q]? := fun q hq => by rw [← hH1, Array.getElem?_push, if_neg (Nat.ne_of_lt hq)]
  obtain ⟨kA2, comp2, -, -, -, hG⟩ := (hC.2.2.2.1.2 4 (G.2.2.2.2.2, .object "StackLab$Setup") rfl).2
  have ec : some cA = some G.2.2.2.2.2 := f1.symm.trans hG
  cases ec
  obtain ⟨w1, w2⟩ := hP.push (e := cQ 4 (Int32.ofInt n).toNatClampNeg (fun _ => none)) (H1 := H1) hC.2.2.2.2.2.2.1 hl0 z1 o1 e1
  have k2 := k p l e s m args below meth c G ad H1 locs la hC w1 ⟨by have := hS.1; omega, fun x h1 h2 => (o1 x (Nat.lt_of_lt_of_le h1 hS.1)).trans (hS.2.1 x h1 h2), hS.2.2⟩ hl
  have k3 : cv ad (aR (E.1 + es.length)) = .ref H.size := by show Value.ref (ad (E.1 + es.length)) = _; rw [w2]
  simp only [List.map_cons, k3] at k2
  exact k2
theorem n_new {ci N nc ns x : Nat} {C : String} {T : u_T} {fs : List AV} {es : List AC} (hd : decode cc pc = .ok (.new x, 3)) (hw : vwCl[ci]? = some (C, T, N)) (hcl : Cond.classLink own x C ∈ gw) (hin : Cond.instantiable C N ∈ gw) (hini : Cond.initialized C ∈ gw) (hfs : ∀ (ad : Nat → Nat) j, j < N → defaultValue (tyC ci j) = vp_V (fs.map (cv ad)) j) (hq : pc + 3 = q) (hl0 : E.1 + es.length < 128) (hc : nc + 1 ≤ R.cells) (hs : ns + N ≤ R.slots) (k : VN cc own nL ret R E q ls (aR (E.1 + es.length) :: st) (es ++ [cO ci fs], nc + 1, ns + N)) : VN cc own nL ret R E pc ls st (es, nc, ns) := by
  subst hq
  intro p l e s m args below meth c G ad H locs la hC hP hS hl
  have hKn := hC.2.2.2.1.1 ci _ hw
  refine W.newcK hC.1.1 hC.1.2.1 hC.1.2.2.2.1 (hC.1.2.2.2.2 _ hcl) (hC.1.2.2.2.2 _ hin) (hC.1.2.2.2.2 _ hini) (g := F0 m pc la (st.map (cv ad))) rfl hd hc hs hKn.2.1 rfl fun H1 kC hkC e1 z1 o1 => ?_
  have e2 : va_at G.1 vwCl (H.size, cellA G ad (cO ci fs)) H1 := ⟨_, hw, (u_born (tyC ci) hC.1.2.2.2.2 (inW hw) hKn hkC e1 (tyW hw)).to (hfs ad)⟩
  obtain ⟨w1, w2⟩ := hP.push (e := cO ci fs) (H1 := H1) hC.2.2.2.2.2.2.1 hl0 z1 o1 e2
  have k2 := k p l e s m args below meth c G ad H1 locs la hC w1 ⟨by have := hS.1; omega, fun x h1 h2 => (o1 x (Nat.lt_of_lt_of_le h1 hS.1)).trans (hS.2.1 x h1 h2), hS.2.2⟩ hl
  have k3 : cv ad (aR (E.1 + es.length)) = .ref H.size := by show Value.ref (ad (E.1 + es.length)) = _; rw [w2]
  simp only [List.map_cons, k3] at k2
  exact k2
theorem WNw.set {G : WG} {ad : Nat → Nat} {d jj : Nat} {es : List AC} {e0 e : AC} {H H1 : Heap} (h : WNw G ad d es H) (hl : linA ad) (he : es[jj]? = some e0) (e1 : va_at G.1 vwCl (ad (d + jj), cellA G ad e) H1) (z : H1.size = H.size) (o : ∀ q, q ≠ ad (d + jj) → H1[q]? = H[q]?) : WNw G ad d (es.set jj e) H1 := by
  refine ⟨?_, by rw [z, h.2.1, List.length_set], by rw [List.length_set]; exact h.2.2⟩
  rw [← WA_set]
  exact h.1.set (WA_D hl h.2.2) (WA_at he) e1 o
theorem n_put {x ci kl jj pl nc ns : Nat} {fs : List AV} {v : AV} {ty : FieldType} {es : List AC} (hd : decode cc pc = .ok (.putfield x, 3)) (hf : FL own x ci kl false) (hty : tyC ci kl = ty) (hv : ∀ ad : Nat → Nat, narrow ty (cv ad v) = cv ad v ∧ fits ty (cv ad v) = true) (hpl : E.1 + jj = pl) (he : es[jj]? = some (cO ci fs)) (hlen : kl < fs.length) (hq : pc + 3 = q) (k : VN cc own nL ret R E q ls st (es.set jj (cO ci (fs.set kl v)), nc, ns)) : VN cc own nL ret R E pc ls (v :: aR pl :: st) (es, nc, ns) := by
  subst hq; subst hpl; subst hty
  intro p l e s m args below meth c G ad H locs la hC hP hS hl
  obtain ⟨⟨C, T, N⟩, hw1, hw2, hw3, hw4⟩ := hf
  have hap := va_apart (own := own) hC.1.2.2.2.2 (inW hw1) (tyC ci) (tyW hw1) (nmW hw1) hC.2.2.2.1 hw1
  have hat := WA_at (G := G) (ad := ad) (d := E.1) he
  have hD : va_D (fun q => ad E.1 ≤ q) (WA G ad E.1 es) := WA_D hC.2.2.2.2.2.2.1 hP.2.2
  obtain ⟨r, h1, cell, q1, q2, q3, q4⟩ := hP.1 jj _ hat
  have hr : r = (C, T, N) := Option.some.inj (h1.symm.trans hw1)
  subst hr
  obtain ⟨hSs, hfc, kC, hkC, hkind⟩ := hC.2.2.2.1.1 ci _ hw1
  obtain ⟨cf, kf, fi, f, hi, hsl⟩ := hSs kl hw2
  have hlay := hC.1.2.2.2.2 _ (inW hw1 _ (u_in_lay hw2))
  unfold u_lay at hlay
  rw [if_neg (by rw [hw4]; decide)] at hlay
  have hst := (u_facts hfc hkC (u_lays hC.1.2.2.2.2 (inW hw1) hw2) hi).1
  have h6 := u_store hfc hkC hkind hlay hi (tyW hw1 kl hw2) (hv ad).1 (hv ad).2
  refine W.putK hC.1.1 hC.1.2.1 (f := f) ⟨hC.1.2.2.2.1, hC.1.2.2.2.2 _ hw3, ⟨_, _, _, hi⟩, hst⟩ (by rw [q2]; exact h6) q1 q3 (by rw [hsl]; exact k2_hasslot (q4 kl hw2)) (g := F0 m pc la ((v :: aR (E.1 + jj) :: st).map (cv ad))) rfl rfl hd fun H' e1 e2 e3 => ?_
  rw [hsl] at e1 ⊢
  refine k p l e s m args below meth c G ad H' _ la hC (hP.set hC.2.2.2.2.2.2.1 he ⟨_, hw1, t_OB.to (V := updV (vp_V (fs.map (cv ad))) kl (cv ad v)) ⟨_, e1, q2, q3, t_set q4 hap hw2 _⟩ (fun j _ => ?_)⟩ e2 e3) (hS.put e2 e3 (hD.2 jj _ hat)) hl
  show _ = vp_V ((fs.set kl v).map (cv ad)) j
  rw [List.map_set]
  exact vp_updV_set (by rw [List.length_map]; exact hlen) _ j
theorem n_putF (hE : ∀ args s G ad meth, E.2.2 args s G ad meth → meth.name = "<init>") {x ci kl jj pl nc ns : Nat} {fs : List AV} {v : AV} {ty : FieldType} {es : List AC} (hd : decode cc pc = .ok (.putfield x, 3)) (hf : FL own x ci kl true) (hdecl : ∀ w, vwCl[ci]? = some w → (w.2.1 kl).1 = own) (hty : tyC ci kl = ty) (hv : ∀ ad : Nat → Nat, narrow ty (cv ad v) = cv ad v ∧ fits ty (cv ad v) = true) (hpl : E.1 + jj = pl) (he : es[jj]? = some (cO ci fs)) (hlen : kl < fs.length) (hq : pc + 3 = q) (k : VN cc own nL ret R E q ls st (es.set jj (cO ci (fs.set kl v)), nc, ns)) : VN cc own nL ret R E pc ls (v :: aR pl :: st) (es, nc, ns) := by
  subst hq; subst hpl; subst hty
  intro p l e s m args below meth c G ad H locs la hC hP hS hl
  obtain ⟨⟨C, T, N⟩, hw1, hw2, hw3, hw4⟩ := hf
  have hap := va_apart (own := own) hC.1.2.2.2.2 (inW hw1) (tyC ci) (tyW hw1) (nmW hw1) hC.2.2.2.1 hw1
  have hat := WA_at (G := G) (ad := ad) (d := E.1) he
  have hD : va_D (fun q => ad E.1 ≤ q) (WA G ad E.1 es) := WA_D hC.2.2.2.2.2.2.1 hP.2.2
  obtain ⟨r, h1, cell, q1, q2, q3, q4⟩ := hP.1 jj _ hat
  have hr : r = (C, T, N) := Option.some.inj (h1.symm.trans hw1)
  subst hr
  obtain ⟨hSs, hfc, kC, hkC, hkind⟩ := hC.2.2.2.1.1 ci _ hw1
  obtain ⟨cf, kf, fi, f, hi, hsl⟩ := hSs kl hw2
  have hlay := hC.1.2.2.2.2 _ (inW hw1 _ (u_in_lay hw2))
  unfold u_lay at hlay
  rw [if_pos hw4] at hlay
  have hst := (u_facts hfc hkC (u_lays hC.1.2.2.2.2 (inW hw1) hw2) hi).1
  have hcf : m.cls = cf := by
    obtain ⟨_, _, c', _, _, _, -, -, hf', -, -, -, hown2, -⟩ := Cond.laysFinal_spec hlay
    have e1 : c' = cf := by have := hi.symm.trans hf'; simp at this; exact this.1.symm
    rw [hdecl _ hw1] at hown2
    rw [← e1]; exact Option.some.inj (hC.1.2.2.2.1.symm.trans hown2)
  have h6 := u_fits hfc hkC hkind (Or.inr hlay) hi (tyW hw1 kl hw2) (hv ad).1 (hv ad).2
  refine W.putFinK hC.1.1 hC.1.2.1 hC.1.2.2.2.1 (hC.1.2.2.2.2 _ hw3) hi hst hcf (hE _ _ _ _ _ hC.2.2.2.2.2.2.2.2) (by rw [q2]; exact h6) q1 q3 (by rw [hsl]; exact k2_hasslot (q4 kl hw2)) (g := F0 m pc la ((v :: aR (E.1 + jj) :: st).map (cv ad))) rfl rfl hd fun H' e1 e2 e3 => ?_
  rw [hsl] at e1 ⊢
  refine k p l e s m args below meth c G ad H' _ la hC (hP.set hC.2.2.2.2.2.2.1 he ⟨_, hw1, t_OB.to (V := updV (vp_V (fs.map (cv ad))) kl (cv ad v)) ⟨_, e1, q2, q3, t_set q4 hap hw2 _⟩ (fun j _ => ?_)⟩ e2 e3) (hS.put e2 e3 (hD.2 jj _ hat)) hl
  show _ = vp_V ((fs.set kl v).map (cv ad)) j
  rw [List.map_set]
  exact vp_updV_set (by rw [List.length_map]; exact hlen) _ j
theorem n_get {x ci kl jj pl nc ns : Nat} {fin : Bool} {fs : List AV} {v : AV} {es : List AC} (hd : decode cc pc = .ok (.getfield x, 3)) (hf : FL own x ci kl fin) (hpl : E.1 + jj = pl) (he : es[jj]? = some (cO ci fs)) (hv : fs[kl]? = some v) (hq : pc + 3 = q) (k : VN cc own nL ret R E q ls (v :: st) (es, nc, ns)) : VN cc own nL ret R E pc ls (aR pl :: st) (es, nc, ns) := by
  subst hq; subst hpl
  intro p l e s m args below meth c G ad H locs la hC hP hS hl
  obtain ⟨w, hw1, hw2, hw3, -⟩ := hf
  exact va_get hC.1.1 hC.1.2.1 hC.1.2.2.2.2 (inW hw1) hC.1.2.2.2.1 hC.2.2.2.1 hP.1 jj (WA_at he) hw1 kl hw2 (hC.1.2.2.2.2 _ hw3) (fun _ h => h) (v := cv ad v) (by rw [List.getElem?_map, hv]; rfl) hd (k p l e s m args below meth c G ad H locs la hC hP hS hl)
theorem n_obj {x pl : Nat} (hd : decode cc pc = .ok (.invokespecial x, 3)) (hl0 : Cond.methodLink own x Lib.objectInit ∈ gw) (hR : 1 ≤ R.frames ∧ 20 ≤ R.locals) (hq : pc + 3 = q) (k : VN cc own nL ret R E q ls [] mem) : VN cc own nL ret R E pc ls [aR pl] mem := by
  subst hq
  intro p l e s m args below meth c G ad H locs la hC hP hS hl
  refine W.objInit hC.1.1 hC.1.2.1 hC.1.2.2.2.1 (hC.1.2.2.2.2 _ hl0) (hC.1.2.2.2.2 _ (gw_in (w := .instanceMethod Lib.objectInit) (by decide +kernel) rfl)) (hC.1.2.2.2.2 _ (gw_in (w := .code Lib.objectInit ⟨#[0xb1]⟩ 1 none) (by decide +kernel) rfl)) (g := F0 m pc la ([aR pl].map (cv ad))) rfl (by rw [hC.1.2.2.1]; exact hl.1) rfl hd hR.1 ?_ (k p l e s m args below meth c G ad H locs la hC hP hS hl)
  have : (F0 m pc la ([aR pl].map (cv ad))).monitorRoom = 0 := rfl
  simp [this]
  omega
def uN (f : Nat → Int) (i : Nat) (z : Int) : Nat → Int := fun k => if k = i then z else f k
theorem n_iast {jj pl n i nc ns : Nat} {iz z : Int} {f : Nat → Int} {es : List AC} (hd : decode cc pc = .ok (.iastore, 1)) (hpl : E.1 + jj = pl) (he : es[jj]? = some (cN 0 n f)) (hi : iz = i) (h1 : i < n) (hn : n ≤ 100000) (hq : pc + 1 = q) (k : VN cc own nL ret R E q ls st (es.set jj (cN 0 n (uN f i z)), nc, ns)) : VN cc own nL ret R E pc ls (aI z :: aI iz :: aR pl :: st) (es, nc, ns) := by
  subst hq; subst hpl; subst hi
  intro p l e s m args below meth c G ad H locs la hC hP hS hl
  obtain ⟨g1, g2⟩ := i32_in (i := (i : Int)) (n := n) (by omega) (by omega) hn
  have hat := WA_at (G := G) (ad := ad) (d := E.1) he
  have hD : va_D (fun q => ad E.1 ≤ q) (WA G ad E.1 es) := WA_D hC.2.2.2.2.2.2.1 hP.2.2
  refine W.iast hC.1.1 hC.1.2.1 (hP.1 jj _ hat) ((hC.2.2.2.1.2 0 (G.2.1, .int) rfl).1 n (fun j => .int (Int32.ofInt (f j)))) (fun q => by cases q) (by show ¬ (_ < 0 ∨ (arrV _ _ _).slots.size ≤ _); rw [arrV_size]; exact g1) (g := F0 m pc la ((aI z :: aI (i : Int) :: aR (E.1 + jj) :: st).map (cv ad))) rfl rfl hd fun H1 e1 e2 e3 => ?_
  refine k p l e s m args below meth c G ad H1 _ la hC (hP.set hC.2.2.2.2.2.2.1 he ?_ e2 e3) (hS.put e2 e3 (hD.2 jj _ hat)) hl
  show H1[ad (E.1 + jj)]? = some (vp_cell _ _)
  rw [e1]
  show some ((arrV G.2.1 n (fun j => .int (Int32.ofInt (f j)))).setSlot _ _) = some (arrV G.2.1 n (fun j => .int (Int32.ofInt (uN f i z j))))
  rw [arrV_store, g2]
  congr 2
  funext q
  by_cases hq : q = i
  · subst hq
    simp [updV, uN]
  · simp [updV, uN, hq]
theorem n_aast {jj jk pl pv n i nc ns : Nat} {iz : Int} {f : Nat → Option Nat} {vs : List AV} {es : List AC} (hd : decode cc pc = .ok (.aastore, 1)) (hpl : E.1 + jj = pl) (hpv : E.1 + jk = pv) (he : es[jj]? = some (cQ 4 n f)) (hev : es[jk]? = some (cO 4 vs)) (hi : iz = i) (h1 : i < n) (hn : n ≤ 100000) (hq : pc + 1 = q) (k : VN cc own nL ret R E q ls st (es.set jj (cQ 4 n (va_up f i (some pv))), nc, ns)) : VN cc own nL ret R E pc ls (aR pv :: aI iz :: aR pl :: st) (es, nc, ns) := by
  subst hq; subst hpl; subst hpv; subst hi
  intro p l e s m args below meth c G ad H locs la hC hP hS hl
  obtain ⟨g1, g2⟩ := i32_in (i := (i : Int)) (n := n) (by omega) (by omega) hn
  have hat := WA_at (G := G) (ad := ad) (d := E.1) he
  have hatv := WA_at (G := G) (ad := ad) (d := E.1) hev
  have hD : va_D (fun q => ad E.1 ≤ q) (WA G ad E.1 es) := WA_D hC.2.2.2.2.2.2.1 hP.2.2
  have hw : vwCl[4]? = some (RX4, TX4, 6) := rfl
  obtain ⟨r', hr', cellV, v1, v2, v3, -⟩ := hP.1 jk _ hatv
  have hcls := (hC.2.2.2.1.1 4 _ hw).2
  obtain ⟨kA, comp, k1, k2, k3, -⟩ := (hC.2.2.2.1.2 4 (G.2.2.2.2.2, .object "StackLab$Setup") rfl).2
  have hcomp : comp = G.1.1 4 := Option.some.inj (k3.symm.trans hcls.1)
  subst hcomp
  obtain ⟨kC, hkC, -⟩ := hcls.2
  refine W.aast hC.1.1 hC.1.2.1 (hP.1 jj _ hat) (fun q h => by cases h) (fun h => by cases h) k1 k2 rfl hkC ⟨fun h => g1 (Or.inl h), by show _ < (arrV _ _ _).slots.size; rw [arrV_size, g2]; exact h1⟩ v1 (fun q h => by rw [v3] at h; cases h) (by rw [v2]; exact hkC) (by rw [v2]; exact va_assign hcls) (g := F0 m pc la ((aR (E.1 + jk) :: aI (i : Int) :: aR (E.1 + jj) :: st).map (cv ad))) rfl rfl hd fun H1 e1 e2 e3 => ?_
  refine k p l e s m args below meth c G ad H1 _ la hC (hP.set hC.2.2.2.2.2.2.1 he ?_ e2 e3) (hS.put e2 e3 (hD.2 jj _ hat)) hl
  show H1[ad (E.1 + jj)]? = some (vp_cell _ _)
  rw [e1]
  show some ((arrV G.2.2.2.2.2 n (fun j => va_rf ((f j).map ad))).setSlot _ _) = some (arrV G.2.2.2.2.2 n (fun j => va_rf ((va_up f i (some (E.1 + jk)) j).map ad)))
  rw [arrV_store, g2]
  congr 2
  funext q
  by_cases hq : q = i
  · subst hq
    simp [updV, va_up, va_rf]
  · simp [updV, va_up, hq]
theorem outerC_eq (c : ClassId) (N h0 : Nat) : ∀ i : Nat, Jvm.Free.Multi.outerC c N h0 i = arrV c N (fun j => va_rf (if j < i then some (h0 + 1 + j) else none))
  | 0 => by
    show ({ cls := c, slots := Array.replicate N .null, vm := .none } : Cell) = _
    rw [arrV_new]
    refine congrArg (arrV c N) (funext fun j => ?_)
    simp [va_rf]
  | i + 1 => by
    show (Jvm.Free.Multi.outerC c N h0 i).setSlot i (.ref (h0 + 1 + i)) = _
    rw [outerC_eq c N h0 i, arrV_store]
    refine congrArg (arrV c N) (funext fun j => ?_)
    by_cases e : j = i
    · subst e
      simp [updV, va_rf]
    · by_cases h : j < i
      · simp [updV, e, h, Nat.lt_succ_of_lt h]
      · simp [updV, e, h, show ¬ j < i + 1 by omega]
theorem arrV_same {c : ClassId} {N : Nat} {f g : Nat → Value} (h : ∀ j, j < N → f j = g j) : arrV c N f = arrV c N g := by
  unfold arrV
  congr 1
  apply Array.ext
  · simp
  · intro i h1 h2
    simp only [Array.getElem_ofFn]
    exact h i (by simpa using h1)
theorem n_mna {x N K nc ns : Nat} {n k9 : Int} {es : List AC} (hd : decode cc pc = .ok (.multianewarray x 2, 4)) (hcl : Cond.classLink own x "[[J" ∈ gw) (hn : n = N) (hk : k9 = K) (hN : N ≤ 1000) (hK : K ≤ 1000) (hl0 : E.1 + (es.length + (1 + N)) ≤ 128) (hc : nc + (1 + N) ≤ R.cells) (hs : ns + (N + N * K) ≤ R.slots) (hq : pc + 4 = q) (k : VN cc own nL ret R E q ls (aR (E.1 + es.length) :: st) (es ++ cQ 3 N (fun j => some (E.1 + es.length + 1 + j)) :: List.replicate N (cN 1 K (fun _ => 0)), nc + 1 + N, ns + N + N * K)) : VN cc own nL ret R E pc ls (aI k9 :: aI n :: st) (es, nc, ns) := by
  subst hq
  intro p l e s m args below meth c G ad H locs la hC hP hS hl
  obtain ⟨n1, n2⟩ := i32_len hn (by omega)
  obtain ⟨k1, k2⟩ := i32_len hk (by omega)
  intro T hT Xs
  obtain ⟨vm₁, cA, comp, -, fA, fC, -, -, X', step⟩ := Xs.multianewarray2F hC.1.1 hC.1.2.2.2.1 (ty := .long) (hC.1.2.2.2.2 _ hcl) (show (Cond.arrayOver (.array .long)).before args s = true from hC.2.2.2.2.2.1.2) (hC.1.2.2.2.2 _ (gw_in (w := .arrayClass .long) (by decide +kernel) rfl)) (g := F0 m pc la ((aI k9 :: aI n :: st).map (cv ad))) rfl (by rw [hC.1.2.1]; exact hd) rfl n1 k1 (by rw [n2]; omega) (by rw [k2]; show K * 8 ≤ _; omega) (by rw [k2]; omega) rfl rfl (by rw [n2]; exact hc) (by rw [n2, k2]; exact hs)
  rw [n2, k2] at X' step
  have ec : some comp = some G.2.2.1 := fC.symm.trans (hC.2.2.2.1.2 1 (G.2.2.1, .long) rfl).2
  cases ec
  have eA : some cA = some G.2.2.2.2.1 := fA.symm.trans (hC.2.2.2.1.2 3 (G.2.2.2.2.1, .array .long) rfl).2
  cases eA
  generalize hF : Jvm.Free.Multi.fill (T.setVm vm₁) G.2.2.2.2.1 G.2.2.1 N K (defaultValue .long) N = F at X' step
  have hTh : (T.setVm vm₁).heap = H := hT
  obtain ⟨f1, f2, -, -⟩ := Jvm.Free.Multi.fill_facts (T.setVm vm₁) G.2.2.2.2.1 G.2.2.1 N K (defaultValue .long) N
  rw [hF, hTh] at f1 f2
  have hold : ∀ x : Nat, x < H.size → F.heap[x]? = H[x]? := fun x hx => by
    have := Jvm.Free.Multi.fill_old (T.setVm vm₁) G.2.2.2.2.1 G.2.2.1 N K (defaultValue .long) (a := x) (by rw [hTh]; exact hx) N
    rw [hF, hTh] at this
    exact this
  have hrow : ∀ j : Nat, j < N → F.heap[H.size + 1 + j]? = some (arrV G.2.2.1 K (fun _ => .long 0)) := fun j hj => by
    have := Jvm.Free.Multi.fill_inner (T.setVm vm₁) G.2.2.2.2.1 G.2.2.1 N K (defaultValue .long) N j hj
    rw [hF, hTh] at this
    rw [this]
    show some ({ cls := G.2.2.1, slots := Array.replicate K _, vm := .none } : Cell) = _
    rw [arrV_new]
    rfl
  have hlin := hC.2.2.2.2.2.2.1
  have hz : H.size = ad E.1 + es.length := hP.2.1
  have hz9 : F.heap.size = H.size + 1 + N := by omega
  have hs0 : ad (E.1 + es.length) = H.size := by rw [hlin.add (by omega)]; omega
  have hWN : WNw G ad E.1 (es ++ cQ 3 N (fun j => some (E.1 + es.length + 1 + j)) :: List.replicate N (cN 1 K (fun _ => 0))) F.heap := by
    refine ⟨?_, by rw [List.length_append, List.length_cons, List.length_replicate]; omega, by rw [List.length_append, List.length_cons, List.length_replicate]; omega⟩
    rw [WA_app]
    refine (hP.1.kept (fun k x hx => hold x.1 ((hP.1 k x hx).lt))).app (fun j x hx => ?_)
    obtain ⟨e1, h1, rfl⟩ := WA_of hx
    cases j with
    | zero =>
      have he : e1 = cQ 3 N (fun j => some (E.1 + es.length + 1 + j)) := (Option.some.inj h1).symm
      subst he
      show F.heap[ad (E.1 + es.length + 0)]? = some (arrV G.2.2.2.2.1 N (fun j => va_rf ((some (E.1 + es.length + 1 + j)).map ad)))
      rw [Nat.add_zero, hs0, f2, outerC_eq]
      refine congrArg some (arrV_same (fun j hj => ?_))
      rw [if_pos hj]
      show Value.ref (H.size + 1 + j) = Value.ref (ad (E.1 + es.length + 1 + j))
      have := hlin.add (d := E.1 + es.length) (j := 1 + j) (by omega)
      rw [← Nat.add_assoc] at this
      rw [this, hs0, Nat.add_assoc]
    | succ j =>
      have h2 : (List.replicate N (cN 1 K (fun _ => 0)))[j]? = some e1 := by simpa using h1
      have hj : j < N := by
        have := (List.getElem?_eq_some_iff.mp h2).1
        simpa using this
      have he : e1 = cN 1 K (fun _ => 0) := List.eq_of_mem_replicate (List.mem_of_getElem? h2)
      subst he
      show F.heap[ad (E.1 + es.length + (j + 1))]? = some (arrV G.2.2.1 K (fun _ => .long (Int64.ofInt 0)))
      have := hlin.add (d := E.1 + es.length) (j := j + 1) (by omega)
      rw [this, hs0, show H.size + (j + 1) = H.size + 1 + j by omega, hrow j hj]
      rfl
  have kk := k p l e s m args below meth c G ad F.heap locs la hC hWN ⟨by have := hS.1; omega, fun x h1 h2 => (hold x (Nat.lt_of_lt_of_le h1 hS.1)).trans (hS.2.1 x h1 h2), hS.2.2⟩ hl
  have k3 : cv ad (aR (E.1 + es.length)) = .ref H.size := by show Value.ref (ad (E.1 + es.length)) = _; rw [hs0]
  simp only [List.map_cons, k3] at kk
  obtain ⟨t, a1, b1⟩ := kk F rfl X'
  refine ⟨t, step t ?_, b1⟩
  have hTz : T.heap.size = H.size := by rw [hT]
  rw [hTz]
  exact a1
/-! calls of constructors -/
def nQ (G : WG) (ad : Nat → Nat) (d : Nat) (fin : List AC) : Array Value → State → Outcome → State → Prop := va_Qv (fun _ : Unit => True) (fun _ t => WNw G ad d fin t.heap) (fun q => ad d ≤ q)
def nE (d : Nat) (fin : List AC) (mc ms : Nat) : ND := (d, fun below args s G ad => MQ below (nQ G ad d fin) args s mc ms (fun q => ad d ≤ q), fun _ _ _ _ meth => meth.name = "<init>")
theorem nE_i (d : Nat) (fin : List AC) (mc ms : Nat) : ∀ args s G ad meth, (nE d fin mc ms).2.2 args s G ad meth → meth.name = "<init>" := fun _ _ _ _ _ h => h
def cNw (G : WG) (ad : Nat → Nat) (d : Nat) (o : AC) (U : State) : Prop := WNw G ad d [o] U.heap ∧ va_K G.1 vwCl (tysW G) U ∧ nestOK U ∧ aoOK U
def rmN (f l mc ms : Nat) : Room := { frames := f, cells := mc, slots := ms, locals := l }
def CtrN (M : Mt) (mc ms d : Nat) (as : List AV) (o : AC) (fin : List AC) : Prop := ∀ (l : Launch) (G : WG) (ad : Nat → Nat), linA ad →
  Met l M.1 (mws M) (rmN M.2.2.2.2.1 M.2.2.2.2.2 mc ms) (va_Pc ((aR d :: as).map (cv ad)) (cNw G ad d o)) (nQ G ad d fin) mc ms (fun q => ad d ≤ q)
theorem cNw_blind (G : WG) (ad : Nat → Nat) (d : Nat) (o : AC) (as : List AV) : FrameBlind (va_Pc (as.map (cv ad)) (cNw G ad d o)) := by
  intro a U g mk q
  obtain ⟨q0, qP, qK, qN, qi⟩ := q
  exact ⟨q0, qP, va_K.moved (u := U) (U := U.calling g mk a) (Vm.Alike.refl U.vm) qK, nestOK.same (s := U) rfl qN, aoOK.moved (u := U) (U := U.calling g mk a) (Vm.Alike.refl U.vm) qi⟩
theorem CtrN.ofVN {y : MethodName} {cc : ByteArray} {nL f lo mc ms d : Nat} {as : List AV} {o : AC} {fin : List AC} {own : String} {ls : List AV} (ho : y.cls = own) (hni : y.name = "<init>") (hy : plainName y.cls = true)
    (hls : exL (aR d :: as) ++ List.replicate (nL - (exL (aR d :: as)).length) aU = ls) (hn : (exL (aR d :: as)).length ≤ nL) (k : VN cc own nL none (rmN f lo mc ms) (nE d fin mc ms) 0 ls [] ([o], 0, 0)) : CtrN (y, cc, nL, none, f, lo) mc ms d as o fin := by
  subst ho
  intro l G ad hlin
  refine Met.ofW (cc := cc) (maxL := nL) (ret := none) hy rfl ?_
  intro p e s m args below meth c s₁ B hml hv
  obtain ⟨rfl, hP, hK, hN, hi⟩ := hv
  have hts := atoms_spec (ws := mws (y, cc, nL, none, f, lo)) B.pre
  have hown : s.vm.findClass y.cls = some m.cls := findClass_of_methodNamed B.named
  have hin : meth.name = "<init>" := ((name_of_methodNamed B.named B.method).1).trans hni
  have hl := lv_entry ((aR d :: as).map (cv ad)) (n := nL) (by rw [exL_len]; exact hn)
  rw [lg_entry_eq]
  refine k p l e s m _ below meth c G ad s.heap [] _ ⟨⟨B.exec, B.bytes, hml, hown, fun w hw => hts w (List.mem_cons_of_mem _ hw)⟩, B.notSynchronized, B.returns, hK, hN, hi, hlin, by rw [hP.2.1]; exact Nat.le_add_right _ _, hin⟩ hP va_S.rf ⟨hl.1, hl.2.1, fun i v hiv hv => ?_⟩
  subst hls
  by_cases hlt : i < (exL (aR d :: as)).length
  · rw [List.getElem?_append_left hlt] at hiv
    have h1 := exL_args ad (aR d :: as) 0 i v hiv hv
    rw [Nat.zero_add] at h1
    exact hl.2.2 _ h1
  · rw [List.getElem?_append_right (by omega)] at hiv
    have h1 := List.mem_of_getElem? hiv
    exact absurd (List.eq_of_mem_replicate h1) hv
theorem n_ret {d mc ms : Nat} {fin : List AC} (hd : decode cc pc = .ok (.return_, 1)) : VN cc own nL none R (nE d fin mc ms) pc ls [] (fin, mc, ms) := by
  intro p l e s m args below meth c G ad H locs la hC hP hS hl
  exact W.vret hC.1.1 hC.1.2.1 hC.2.2.1 (fun t ht _ => ⟨⟨(), rfl, trivial, by show WNw G ad d fin t.heap; rw [ht]; exact hP⟩, hS.F ht⟩) hS.2.2 hd hC.2.1
def mdI (M : Mt) (n : Nat) : Prop := Cond.instanceMethod M.1 ∈ gw ∧ Cond.initialized M.1.cls ∈ gw ∧ Cond.code M.1 M.2.1 M.2.2.1 none ∈ gw ∧ M.2.2.2.1 = none ∧ M.1.name = "<init>" ∧ plainM M n
theorem n_after {M : Mt} {mc ms nc ns : Nat} {o : AC} {es0 fin : List AC} {g0 : List AV} {rest : List AV} {a : Array Value} {p : Program} {l : Launch} {e : Env} {s : State} {m : MethodId} {args : Array Value} {below : List Frame} {meth : Method} {c : Code} {G : WG} {ad : Nat → Nat} {H : Heap} {locs : List Loc} {la : Array Slot}
    (hC : Cn cc own nL ret E p s m args meth c G ad) (hP : WNw G ad E.1 (es0 ++ [o]) H) (hS : va_S (fun q => ad E.1 ≤ q) s.heap H locs) (hl : lvh ad la nL ls) (hlf : E.1 + (es0.length + fin.length) ≤ 128)
    (hr : va_Run p l e R s m args below meth c H locs nc ns mc ms (F0 m pc la (g0.map (cv ad))) (rest.map (cv ad)) (nQ G ad (E.1 + es0.length) fin a) (fun q => ad (E.1 + es0.length) ≤ q))
    (k : VN cc own nL ret R E (pc + 3) ls rest (es0 ++ fin, nc + mc, ns + ms)) : W p l e R s m args below meth c H locs nc ns (E.2.1 below args s G ad) (F0 m pc la (g0.map (cv ad))) := by
  have hz0 : E.1 + (es0 ++ [o]).length ≤ 128 := hP.2.2
  rw [List.length_append] at hz0
  have hz1 : [o].length = 1 := rfl
  have hle : ad E.1 ≤ ad (E.1 + es0.length) := by rw [hC.2.2.2.2.2.2.1.add (by omega)]; exact Nat.le_add_right _ _
  refine va_callv (A1 := fun q => ad (E.1 + es0.length) ≤ q) hr hS (fun q _ h => Nat.le_trans hle h) (fun q h => Nat.le_trans hle h) (fun u t H1 locs1 ht hvm hw hB hz hk hS1 => ?_)
  rw [ht] at hB
  refine k p l e s m args below meth c G ad H1 locs1 la hC ⟨?_, ?_, ?_⟩ hS1 hl
  · rw [WA_app]
    refine va_P.app (fun j x hx => ?_) hB.1
    obtain ⟨e1, h1, rfl⟩ := WA_of hx
    have l1 := (List.getElem?_eq_some_iff.mp h1).1
    have hat : (WA G ad E.1 (es0 ++ [o]))[j]? = some (ad (E.1 + j), cellA G ad e1) := WA_at (by rw [List.getElem?_append_left l1]; exact h1)
    have h2 := hP.1 j _ hat
    have a1 := hC.2.2.2.2.2.2.1.add (d := E.1) (j := j) (by omega)
    have a2 := hC.2.2.2.2.2.2.1.add (d := E.1) (j := es0.length) (by omega)
    exact h2.kept (hk _ h2.lt (by show ¬ (ad (E.1 + es0.length) ≤ ad (E.1 + j)); omega))
  · have h3 := hB.2.1
    have a2 := hC.2.2.2.2.2.2.1.add (d := E.1) (j := es0.length) (by omega)
    show H1.size = ad E.1 + (es0 ++ fin).length
    rw [List.length_append]
    omega
  · show E.1 + (es0 ++ fin).length ≤ 128
    rw [List.length_append]
    exact hlf
theorem WNw.last {G : WG} {ad : Nat → Nat} {d : Nat} {es0 : List AC} {o : AC} {H : Heap} (h : WNw G ad d (es0 ++ [o]) H) (hl : linA ad) : WNw G ad (d + es0.length) [o] H := by
  have hz := h.2.2
  rw [List.length_append] at hz
  have hz1 : [o].length = 1 := rfl
  have h2 := h.2.1
  rw [List.length_append] at h2
  have a2 := hl.add (d := d) (j := es0.length) (by omega)
  refine ⟨fun j x hx => ?_, by omega, by omega⟩
  obtain ⟨e1, h1, rfl⟩ := WA_of hx
  refine h.1 (es0.length + j) _ ?_
  rw [show d + es0.length + j = d + (es0.length + j) by omega]
  exact WA_at (by rw [List.getElem?_append_right (by omega), show es0.length + j - es0.length = j by omega]; exact h1)
theorem n_ctor {M : Mt} {x n mc ms nc ns pd : Nat} {as : List AV} {o : AC} {es0 fin : List AC} {st0 : List AV} (hd : decode cc pc = .ok (.invokespecial x, 3)) (hl0 : Cond.methodLink own x M.1 ∈ gw) (hm : mdI M n) (hR : M.2.2.2.2.1 + 1 ≤ R.frames ∧ 8 + (M.2.2.1 + 11) + M.2.2.2.2.2 ≤ R.locals) (hcs : nc + mc ≤ R.cells ∧ ns + ms ≤ R.slots) (hpd : E.1 + es0.length = pd) (hlf : E.1 + (es0.length + fin.length) ≤ 128) (hn : as.length = n) (hst : st0 = as.reverse ++ aR pd :: st) (hcat : (st.map ctg).sum ≤ 8) (hc : CtrN M mc ms pd as o fin) (hq : pc + 3 = q)
    (k : VN cc own nL ret R E q ls st (es0 ++ fin, nc + mc, ns + ms)) : VN cc own nL ret R E pc ls st0 (es0 ++ [o], nc, ns) := by
  subst hq; subst hpd
  intro p l e s m args below meth c G ad H locs la hC hP hS hl
  obtain ⟨y, cb, mL, rt, fr, lo⟩ := M
  obtain ⟨m1, m2, m3, m4, m5, m6⟩ := hm
  have m4 : rt = none := m4
  subst m4
  refine n_after (M := (y, cb, mL, none, fr, lo)) (a := (Value.ref (ad (E.1 + es0.length)) :: as.map (cv ad)).toArray) hC hP hS hl hlf ?_ k
  exact va_runI (b := ad (E.1 + es0.length)) (As := as.map (cv ad)) (rest := st.map (cv ad)) (ws := mws (y, cb, mL, none, fr, lo)) (n := n) hC.1 (hc l G ad hC.2.2.2.2.2.2.1) (cwI n hC.1.2.2.2.2 (mws_good m3) rfl rfl rfl (hC.1.2.2.2.2 _ m2) (hC.1.2.2.2.2 _ hl0) (hC.1.2.2.2.2 _ m1) m5 m6 hR) ⟨cNw_blind G ad _ o (aR (E.1 + es0.length) :: as), fun U hU hW => ⟨rfl, by rw [hU]; exact hP.last hC.2.2.2.2.2.2.1, va_K.moved hW.alike hC.2.2.2.1, hC.2.2.2.2.1.warm hW, aoOK.moved hW.alike hC.2.2.2.2.2.1⟩⟩ rfl (by rw [List.length_map]; exact hn) hl.1 (by rw [hst]; simp [F0, cv, aR]) (lv_room (cat_ok ad hcat)) hd hcs
theorem n_ctorN {host : String} {M : Mt} {x n mc ms nc ns pd : Nat} {as : List AV} {o : AC} {es0 fin : List AC} {st0 : List AV} (hd : decode cc pc = .ok (.invokespecial x, 3)) (hl0 : Cond.methodLinkNest own x M.1 host ∈ nestL) (hm : mdI M n) (hR : M.2.2.2.2.1 + 1 ≤ R.frames ∧ 8 + (M.2.2.1 + 11) + M.2.2.2.2.2 ≤ R.locals) (hcs : nc + mc ≤ R.cells ∧ ns + ms ≤ R.slots) (hpd : E.1 + es0.length = pd) (hlf : E.1 + (es0.length + fin.length) ≤ 128) (hn : as.length = n) (hst : st0 = as.reverse ++ aR pd :: st) (hcat : (st.map ctg).sum ≤ 8) (hc : CtrN M mc ms pd as o fin) (hq : pc + 3 = q)
    (k : VN cc own nL ret R E q ls st (es0 ++ fin, nc + mc, ns + ms)) : VN cc own nL ret R E pc ls st0 (es0 ++ [o], nc, ns) := by
  subst hq; subst hpd
  intro p l e s m args below meth c G ad H locs la hC hP hS hl
  obtain ⟨y, cb, mL, rt, fr, lo⟩ := M
  obtain ⟨m1, m2, m3, m4, m5, m6⟩ := hm
  have m4 : rt = none := m4
  subst m4
  refine n_after (M := (y, cb, mL, none, fr, lo)) (a := (Value.ref (ad (E.1 + es0.length)) :: as.map (cv ad)).toArray) hC hP hS hl hlf ?_ k
  exact va_runIN (b := ad (E.1 + es0.length)) (As := as.map (cv ad)) (rest := st.map (cv ad)) (ws := mws (y, cb, mL, none, fr, lo)) (n := n) hC.1 (hc l G ad hC.2.2.2.2.2.2.1) ⟨va_cnB n hC.1.2.2.2.2 (mws_good m3) rfl rfl rfl (hC.2.2.2.2.1 _ hl0) (hC.1.2.2.2.2 _ m2) m6 hR, m5, hC.1.2.2.2.2 _ m1⟩ ⟨cNw_blind G ad _ o (aR (E.1 + es0.length) :: as), fun U hU hW => ⟨rfl, by rw [hU]; exact hP.last hC.2.2.2.2.2.2.1, va_K.moved hW.alike hC.2.2.2.1, hC.2.2.2.2.1.warm hW, aoOK.moved hW.alike hC.2.2.2.2.2.1⟩⟩ rfl (by rw [List.length_map]; exact hn) hl.1 (by rw [hst]; simp [F0, cv, aR]) (lv_room (cat_ok ad hcat)) hd hcs
end NewRows
