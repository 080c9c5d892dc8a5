/-! THE CLAIM OUT OF ONE WALK OF THE LAW'S BODY. Your part is whole_start (and what it stands on); all else here is the same for every law, but numbers. -/
def R_law : String := "StackLabLaw"
def lw_P (b : Addr) (xs : List Int32) (args : Array Value) (s : State) : Prop := args = #[.ref b] ∧ s.IntsAt b xs ∧ xs.length ≤ 3072 ∧ (Jvm.Cond.and given_1 narrow_1).before args s = true
/-- what a walk over the start with the record d0 says of its end, said of the start itself -/
theorem lw_closed {s t : State} {o : Outcome} {d0 : Drawn} {L : List Loc} {k n : Nat} (hd0 : s.drawn.sameBut d0 lw_cs) (hv : ∃ v, o = .returned v) (hW : (s.setDrawn d0).WarmedH t.vm) (hs : (s.setDrawn d0).sameButNew ({ t with vm := s.vm } : State) L k n) : State.butDraws s t lw_cs (fun t1 => Framed s o t1 L k n) := by
  have h2 : t.drawn = d0 := congrArg State.drawn hs.1
  refine ⟨⟨hv, hW, State.sameButNew.setDrawn hs s.drawn⟩, ?_, by decide⟩
  rw [h2]
  exact hd0
def lw_Q (_ : Array Value) (s : State) (o : Outcome) (t : State) : Prop := o = .returned (some (.int 1)) ∧ State.butDraws s t lw_cs (fun t1 => Framed s o t1 [] 600000 7302250)
def lw_Z (below : List Frame) (a : Array Value) (s : State) : State → Prop := fun t => ∃ o, t.status = .running ∧ Ended t below o ∧ lw_Q a s o t
/-- the law's own end, with 1 on the stack, nothing written that was there before, its room as the claim has it; d0: the record of draws at this point (at the entry s.drawn: begin with 'refine W.base ?_' and 'have hd0 := Drawn.sameBut.refl s.drawn lw_cs') -/
theorem lw_ret {p : Program} {l : Launch} {e : Env} {s : State} {m : MethodId} {below : List Frame} {meth : Method} {c : Code} {b : Nat} {d0 : Drawn} (hd0 : s.drawn.sameBut d0 lw_cs) (hx : p.tables.exec = Jvm.exec) (hb : c.code = code) (hr : meth.sig.returnType = ret) (hlocks : meth.locks = false) {pc : Nat} {H : Heap} {ls : Array Slot} (hdg : decode code pc = .ok (.ireturn, 1)) : W p l e room_1 (s.setDrawn d0) m #[Value.ref b] below meth c H [] 600000 7302250 (lw_Z below #[Value.ref b] s) (F0 m pc ls [.int 1]) := by
  intro T hT X
  obtain ⟨fs, hret, hrun, hended, hW, hframe⟩ := X.leave (v := some (.int 1)) (hlocks := hlocks) (fun h => by rw [hr] at h; cases h)
  have hmeth' : T.vm.method? m = some meth := X.method'
  refine ⟨T.setFrames fs, ?_, .returned (some (.int 1)), hrun, hended, rfl, lw_closed hd0 ⟨_, rfl⟩ hW hframe⟩
  jvm_step X.here [X.here.top, hx, hb, hdg, hmeth', hr, ret, narrow_b1]
  (try refine ⟨rfl, ?_⟩); (try refine ⟨rfl, ?_⟩)
  first | (intro acts; rw [hret _ acts rfl rfl rfl]) | rw [hret _ _ rfl rfl rfl]
  exact Steps.refl _
/-- what holds at the law's entry: the machine, the code, the tables' words (any of lw_tbl by 'hts w (by decide +kernel)'), the script of L ints xs at the cell b, what the Statement gives of the start (any of its parts by flat_of_before) -/
def lw_At (p : Program) (s : State) (m : MethodId) (meth : Method) (c : Code) (b L : Nat) (xs : Nat → Int32) : Prop :=
  p.tables.exec = Jvm.exec ∧ c.code = code ∧ meth.sig.returnType = ret ∧ c.maxLocals = 8 ∧ s.vm.findClass R_law = some m.cls ∧ (∀ w ∈ lw_tbl, w.before #[Value.ref b] s = true) ∧ va_X b L xs s s.heap ∧ b < s.heap.size ∧ meth.locks = false ∧ (Jvm.Cond.and given_1 narrow_1).before #[Value.ref b] s = true
/-! ===== the judgement V over the law's own body ===== -/
def sx (xs : Nat → Int32) (i : Int) : Int := (xs i.toNat).toInt
theorem sx_R (xs : Nat → Int32) (i : Int) : R32 (sx xs i) := by
  have h1 := Int32.le_toInt (xs i.toNat)
  have h2 := Int32.toInt_le (xs i.toNat)
  have h3 : Int32.maxValue.toInt = 2147483647 := by decide
  have h4 : Int32.minValue.toInt = -2147483648 := by decide
  unfold sx
  omega
def lwE (L : Nat) (xs : Nat → Int32) (nc ns : Nat) : EQ := (fun s _ q => s.heap.size ≤ q, (nc, ns), fun below args s _ _ => lw_Z below args s, fun args s _ ad => args = #[Value.ref (ad 128)] ∧ va_X (ad 128) L xs s s.heap ∧ ad 128 < s.heap.size)
abbrev LV (L : Nat) (xs : Nat → Int32) (nc ns : Nat) : Nat → List AV → List AV → Mem → Prop := V cL_law RL 8 (some .boolean) room_1 (lwE L xs nc ns)
theorem v_slen {L : Nat} {xs : Nat → Int32} {nc ns pc q : Nat} {ls st : List AV} {mem : Mem} (hd : decode cL_law pc = .ok (.arraylength, 1)) (hq : pc + 1 = q) (K : LV L xs nc ns q ls (aI L :: st) mem) : LV L xs nc ns pc ls (aR 128 :: st) mem := by
  subst hq
  intro p l e s m args below meth c G ad H locs la hC hP hS hl
  obtain ⟨h1, h2, h3⟩ := hC.2.2.2.2.2.2.2
  exact va_slen hC.1.1 hC.1.2.1 h2 h3 (Nat.not_le.mpr h3) hS hd (K p l e s m args below meth c G ad H locs la hC hP hS hl)
theorem v_sld {L : Nat} {xs : Nat → Int32} {nc ns pc q : Nat} {ls st : List AV} {mem : Mem} (hL : L ≤ 3072) {i : Int} (hd : decode cL_law pc = .ok (.iaload, 1)) (h0 : 0 ≤ i) (h1 : i < L) (hq : pc + 1 = q) (K : LV L xs nc ns q ls (aI (sx xs i) :: st) mem) : LV L xs nc ns pc ls (aI i :: aR 128 :: st) mem := by
  subst hq
  intro p l e s m args below meth c G ad H locs la hC hP hS hl
  obtain ⟨g1, g2, g3⟩ := hC.2.2.2.2.2.2.2
  obtain ⟨e1, e2⟩ := i32_in h0 h1 (by omega)
  refine va_sld hC.1.1 hC.1.2.1 g2 g3 (Nat.not_le.mpr g3) hS e1 hd ?_
  rw [e2]
  have k2 := K p l e s m args below meth c G ad H locs la hC hP hS hl
  have e3 : cv ad (aI (sx xs i)) = .int (xs i.toNat) := by
    show Value.int (Int32.ofInt (xs i.toNat).toInt) = _
    rw [Int32.ofInt_toInt]
  simp only [List.map_cons, e3] at k2
  exact k2
theorem v_icmp_same {cc : ByteArray} {own : String} {nL : Nat} {ret : Option FieldType} {R : Room} {E : EQ} {pc : Nat} {ls st : List AV} {mem : Mem} {a off : Int} {tgt : Nat} (hd : decode cc pc = .ok (.if_icmp .eq off, 3)) (ht : (pc : Int) + off = (tgt : Int)) (kt : V cc own nL ret R E tgt ls st mem) : V cc own nL ret R E pc ls (aI a :: aI a :: st) mem := by
  intro p l e s m args below meth c G ad H locs la hC hP hS hl
  exact lv_icmp_eq hC.1.1 hC.1.2.1 hd ht (fun _ => kt p l e s m args below meth c G ad H locs la hC hP hS hl) (fun h => absurd rfl h)
theorem and31 (a : Int) : ∃ z : Int, 0 ≤ z ∧ z ≤ 31 ∧ Int32.ofInt a &&& Int32.ofInt 31 = Int32.ofInt z := by
  refine ⟨(Int32.ofInt a &&& Int32.ofInt 31).toInt, ?_, ?_, (Int32.ofInt_toInt _).symm⟩
  all_goals
    have e : (Int32.ofInt a &&& Int32.ofInt 31).toBitVec = (Int32.ofInt a).toBitVec &&& (Int32.ofInt 31).toBitVec := rfl
    have e2 : (Int32.ofInt a &&& Int32.ofInt 31).toBitVec.toNat = (Int32.ofInt a).toBitVec.toNat &&& 31 := by rw [e, BitVec.toNat_and]; rfl
    have e3 : (Int32.ofInt a &&& Int32.ofInt 31).toBitVec.toNat ≤ 31 := by rw [e2]; exact Nat.and_le_right
    have e4 : (Int32.ofInt a &&& Int32.ofInt 31).toInt = ((Int32.ofInt a &&& Int32.ofInt 31).toBitVec.toNat : Int) := by
      show BitVec.toInt _ = _
      rw [BitVec.toInt_eq_toNat_cond, if_pos (by omega)]
    omega
theorem lw_end {L : Nat} {xs : Nat → Int32} {nc ns : Nat} {ls : List AV} {mem : Mem} (hnc : nc ≤ 600000) (hns : ns ≤ 7302250) : LV L xs nc ns 1033 ls [] mem := by
  refine v_iconst (q := 1034) dL_law_1033 rfl ?_
  intro p l e s m args below meth c G ad H locs la hC hP hS hl
  obtain ⟨g1, g2, g3⟩ := hC.2.2.2.2.2.2.2
  subst g1
  refine va_forget (fun q hq => hS.2.2 q hq) ?_
  refine W.widen (k := 600000) (n := 7302250) hnc hns ?_
  refine W.base ?_
  exact lw_ret (Drawn.sameBut.refl s.drawn lw_cs) hC.1.1 hC.1.2.1 hC.2.2.1 hC.2.1 dL_law_1034
