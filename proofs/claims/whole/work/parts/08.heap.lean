theorem kd_lt {p a n : Nat} (h : kd p = (a, n)) (ha : a ≠ 6) : p < NP := by
  rcases Nat.lt_or_ge p NP with h1 | h1
  · exact h1
  · exfalso
    unfold kd at h
    rw [List.getD_eq_getElem?_getD, List.getElem?_eq_none (show kdL.length ≤ p from h1)] at h
    exact ha (congrArg Prod.fst h).symm
set_option maxRecDepth 20000 in
theorem kd_small (p : Nat) : (kd p).2 ≤ 100000 := by
  have h : ∀ x ∈ kdL, x.2 ≤ 100000 := by decide +kernel
  unfold kd
  rw [List.getD_eq_getElem?_getD]
  cases hx : kdL[p]? with
  | none => simp
  | some x => exact h x (List.mem_of_getElem? hx)
theorem kd_sm {p a n : Nat} (h : kd p = (a, n)) : n ≤ 100000 := by
  have h1 := kd_small p
  rw [h] at h1
  exact h1
theorem cell_0 (G : WG) (ad : Nat → Nat) (mem : Mem) {p n : Nat} (h : kd p = (0, n)) : cellOf G ad mem p = .inl (G.2.1, n, .inl (fun k => Int32.ofInt (mem p k))) := by unfold cellOf; rw [h]; rfl
theorem cell_1 (G : WG) (ad : Nat → Nat) (mem : Mem) {p n : Nat} (h : kd p = (1, n)) : cellOf G ad mem p = .inl (G.2.2.1, n, .inr (.inl (fun k => Int64.ofInt (mem p k)))) := by unfold cellOf; rw [h]; rfl
theorem cell_2 (G : WG) (ad : Nat → Nat) (mem : Mem) {p n : Nat} (h : kd p = (2, n)) : cellOf G ad mem p = .inl (G.2.2.2.1, n, .inl (fun k => Int32.ofInt (mem p k))) := by unfold cellOf; rw [h]; rfl
theorem cell_3 (G : WG) (ad : Nat → Nat) (mem : Mem) {p n : Nat} (h : kd p = (3, n)) : cellOf G ad mem p = .inl (G.2.2.2.2.1, n, .inr (.inr (.inr (.inr (fun k => some (ad (rf p k))))))) := by unfold cellOf; rw [h]; rfl
theorem cell_4 (G : WG) (ad : Nat → Nat) (mem : Mem) {p n : Nat} (h : kd p = (4, n)) : cellOf G ad mem p = .inl (G.2.2.2.2.2, n, .inr (.inr (.inr (.inr (fun k => some (ad (mem p k).toNat)))))) := by unfold cellOf; rw [h]; rfl
theorem cell_5 (G : WG) (ad : Nat → Nat) (mem : Mem) {p c : Nat} (h : kd p = (5, c)) : cellOf G ad mem p = .inr (c, (List.range (nf c)).map (fv ad mem p c)) := by unfold cellOf; rw [h]; rfl
theorem WS_0 (G : WG) (ad : Nat → Nat) (mem : Mem) {p n : Nat} (h : kd p = (0, n)) : (WS G ad mem)[p]? = some (ad p, .inl (G.2.1, n, .inl (fun k => Int32.ofInt (mem p k)))) := by rw [WS_at _ _ _ (kd_lt h (by decide)), cell_0 _ _ _ h]
theorem WS_1 (G : WG) (ad : Nat → Nat) (mem : Mem) {p n : Nat} (h : kd p = (1, n)) : (WS G ad mem)[p]? = some (ad p, .inl (G.2.2.1, n, .inr (.inl (fun k => Int64.ofInt (mem p k))))) := by rw [WS_at _ _ _ (kd_lt h (by decide)), cell_1 _ _ _ h]
theorem WS_2 (G : WG) (ad : Nat → Nat) (mem : Mem) {p n : Nat} (h : kd p = (2, n)) : (WS G ad mem)[p]? = some (ad p, .inl (G.2.2.2.1, n, .inl (fun k => Int32.ofInt (mem p k)))) := by rw [WS_at _ _ _ (kd_lt h (by decide)), cell_2 _ _ _ h]
theorem WS_3 (G : WG) (ad : Nat → Nat) (mem : Mem) {p n : Nat} (h : kd p = (3, n)) : (WS G ad mem)[p]? = some (ad p, .inl (G.2.2.2.2.1, n, .inr (.inr (.inr (.inr (fun k => some (ad (rf p k)))))))) := by rw [WS_at _ _ _ (kd_lt h (by decide)), cell_3 _ _ _ h]
theorem WS_4 (G : WG) (ad : Nat → Nat) (mem : Mem) {p n : Nat} (h : kd p = (4, n)) : (WS G ad mem)[p]? = some (ad p, .inl (G.2.2.2.2.2, n, .inr (.inr (.inr (.inr (fun k => some (ad (mem p k).toNat))))))) := by rw [WS_at _ _ _ (kd_lt h (by decide)), cell_4 _ _ _ h]
theorem WS_5 (G : WG) (ad : Nat → Nat) (mem : Mem) {p c : Nat} (h : kd p = (5, c)) : (WS G ad mem)[p]? = some (ad p, .inr (c, (List.range (nf c)).map (fv ad mem p c))) := by rw [WS_at _ _ _ (kd_lt h (by decide)), cell_5 _ _ _ h]
theorem WS_D {G : WG} {ad : Nat → Nat} {mem : Mem} {A : Nat → Prop} (hi : injA ad) (hA : ∀ i, i < NP → A (ad i)) : va_D A (WS G ad mem) := by
  refine ⟨fun i j x y hx hy hxy => ?_, fun k x hx => ?_⟩
  · obtain ⟨h1, rfl⟩ := WS_of hx
    obtain ⟨h2, rfl⟩ := WS_of hy
    exact hi i j h1 h2 hxy
  · obtain ⟨h1, rfl⟩ := WS_of hx
    exact hA k h1
theorem um_other {mem : Mem} {p : Nat} {i z : Int} : ∀ q, q ≠ p → um mem p i z q = mem q := fun _ h => um_ne mem i z h
/-- a field's entry: own's constant x is the field k of the class c -/
def FL (own : String) (x c k : Nat) (fin : Bool) : Prop := ∃ q : vw_C, vwCl[c]? = some q ∧ k < q.2.2 ∧ Cond.fieldLink own x (q.2.1 k).1 (q.2.1 k).2.1 (q.2.1 k).2.2.1 ∈ gw ∧ (q.2.1 k).2.2.2 = fin
theorem fs_at (ad : Nat → Nat) (mem : Mem) {p c k N : Nat} (hn : nf c = N) (hk : k < N) : ((List.range (nf c)).map (fv ad mem p c))[k]? = some (fv ad mem p c k) := by
  rw [List.getElem?_map, List.getElem?_range (by omega)]
  rfl
theorem fs_set (ad : Nat → Nat) (mem : Mem) {p c k N : Nat} {z : Int} {v : Value} (hn : nf c = N) (hk : k < N) (hv : fv ad (um mem p k z) p c k = v) : ((List.range (nf c)).map (fv ad mem p c)).set k v = (List.range (nf c)).map (fv ad (um mem p k z) p c) := by
  apply List.ext_getElem?
  intro i
  by_cases hi : i < N
  · by_cases hik : i = k
    · subst hik
      rw [List.getElem?_set_self (by simp; omega), fs_at _ _ hn hi, hv]
    · rw [List.getElem?_set_ne (Ne.symm hik), fs_at _ _ hn hi, fs_at _ _ hn hi]
      unfold fv
      rw [um_same, ui_ne _ _ (fun h => hik (by omega))]
  · rw [List.getElem?_eq_none (by simp; omega), List.getElem?_eq_none (by simp; omega)]
/-- a call's entry: of a method of an object, of a class, of a nest mate -/
abbrev Mt : Type := MethodName × ByteArray × Nat × Option FieldType × Nat × Nat
def rmk (f l : Nat) : Room := { frames := f, cells := 0, slots := 0, locals := l }
def plainM (M : Mt) (n : Nat) : Prop := M.1.cls ≠ "java/lang/invoke/MethodHandle" ∧ M.1.cls ≠ "java/lang/invoke/VarHandle" ∧ (parseMethodDescriptor M.1.desc).map (fun d => d.parameters.length) = some n
def mdV (M : Mt) (n : Nat) : Prop := Cond.instanceMethod M.1 ∈ gw ∧ Cond.selects M.1.cls M.1 M.1 ∈ gw ∧ Cond.initialized M.1.cls ∈ gw ∧ Cond.code M.1 M.2.1 M.2.2.1 M.2.2.2.1 ∈ gw ∧ plainM M n
def mdS (M : Mt) (n : Nat) : Prop := Cond.static M.1 ∈ gw ∧ Cond.initialized M.1.cls ∈ gw ∧ Cond.code M.1 M.2.1 M.2.2.1 M.2.2.2.1 ∈ gw ∧ plainM M n
def mws (M : Mt) : List Cond := Cond.code M.1 M.2.1 M.2.2.1 M.2.2.2.1 :: gw
/-- what a method answers, and the world behind it -/
def mQ (G : WG) (ad : Nat → Nat) (Post : AV → Mem → Prop) : Array Value → State → Outcome → State → Prop := fun _ st oc t =>
  (∃ (r : AV) (mem' : Mem), oc = .returned (rv ad r) ∧ Post r mem' ∧ va_P G.1 vwCl (WS G ad mem') t.heap) ∧ va_F (rngA ad) st t
def mE (Post : AV → Mem → Prop) : EQ := (fun _ ad => rngA ad, (0, 0), fun below args s G ad => MQ below (mQ G ad Post) args s 0 0 (rngA ad), fun _ _ _ _ => True)
def cW (G : WG) (ad : Nat → Nat) (mem : Mem) (U : State) : Prop := va_P G.1 vwCl (WS G ad mem) U.heap ∧ va_K G.1 vwCl (tysW G) U ∧ nestOK U ∧ injA ad
/-- a method's contract: from this memory, with these arguments, it comes to its end, with Post -/
def Ctr (M : Mt) (as : List AV) (mem : Mem) (Post : AV → Mem → Prop) : Prop := ∀ (l : Launch) (G : WG) (ad : Nat → Nat),
  Met l M.1 (mws M) (rmk M.2.2.2.2.1 M.2.2.2.2.2) (va_Pc (as.map (cv ad)) (cW G ad mem)) (mQ G ad Post) 0 0 (rngA ad)
def CtrI (M : Mt) (as : List AV) (mem : Mem) (Post : Int → Mem → Prop) : Prop := Ctr M as mem (fun r m => ∃ z, r = aI z ∧ Post z m)
def CtrL (M : Mt) (as : List AV) (mem : Mem) (Post : Int → Mem → Prop) : Prop := Ctr M as mem (fun r m => ∃ z, r = aL z ∧ Post z m)
def CtrF (M : Mt) (as : List AV) (mem : Mem) (Post : UInt32 → Mem → Prop) : Prop := Ctr M as mem (fun r m => ∃ z, r = aF z ∧ Post z m)
def CtrV (M : Mt) (as : List AV) (mem : Mem) (Post : Mem → Prop) : Prop := Ctr M as mem (fun r m => r = aU ∧ Post m)
theorem cW_blind (G : WG) (ad : Nat → Nat) (mem : Mem) (as : List AV) : FrameBlind (va_Pc (as.map (cv ad)) (cW G ad mem)) := by
  intro a U g mk q
  obtain ⟨q0, qP, qK, qN, qi⟩ := q
  exact ⟨q0, qP, va_K.moved (u := U) (U := U.calling g mk a) (Vm.Alike.refl U.vm) qK, nestOK.same (s := U) rfl qN, qi⟩
theorem mws_good {M : Mt} (h : Cond.code M.1 M.2.1 M.2.2.1 M.2.2.2.1 ∈ gw) : GoodIn gw (mws M) := gw_good (fun w hw => (List.mem_cons.mp hw).elim (fun e => e ▸ h) id)
/-- the arguments as locals -/
def exL : List AV → List AV
  | [] => []
  | v :: vs => if ctg v = 2 then v :: aU :: exL vs else v :: exL vs
theorem exL_args (ad : Nat → Nat) : ∀ (as : List AV) (i j : Nat) (v : AV), (exL as)[j]? = some v → v ≠ aU → (i + j, cv ad v) ∈ lv_args i (as.map (cv ad))
  | [], _, _, _, h, _ => by simp [exL] at h
  | w :: ws, i, j, v, h, hv => by
    unfold exL at h
    show _ ∈ (i, cv ad w) :: lv_args (if (cv ad w).category = 2 then i + 2 else i + 1) (ws.map (cv ad))
    rw [cv_ctg]
    by_cases hc : ctg w = 2
    · rw [if_pos hc] at h ⊢
      match j, h with
      | 0, h =>
        have e : w = v := by simpa using h
        subst e
        exact List.mem_cons_self
      | 1, h => exact absurd (by simpa using h.symm) hv
      | j + 2, h =>
        have h1 := exL_args ad ws (i + 2) j v (by simpa using h) hv
        rw [show i + (j + 2) = i + 2 + j by omega]
        exact List.mem_cons_of_mem _ h1
    · rw [if_neg hc] at h ⊢
      match j, h with
      | 0, h =>
        have e : w = v := by simpa using h
        subst e
        exact List.mem_cons_self
      | j + 1, h =>
        have h1 := exL_args ad ws (i + 1) j v (by simpa using h) hv
        rw [show i + (j + 1) = i + 1 + j by omega]
        exact List.mem_cons_of_mem _ h1
theorem exL_len (ad : Nat → Nat) : ∀ as : List AV, (lg_sl (as.map (cv ad))).length = (exL as).length
  | [] => rfl
  | w :: ws => by
    have ih := exL_len ad ws
    unfold lg_sl at ih ⊢
    unfold exL
    rw [List.map_cons, List.flatMap_cons, List.length_append, ih, cv_ctg]
    by_cases hc : ctg w = 2
    · rw [if_pos hc, if_pos hc]; simp; omega
    · rw [if_neg hc, if_neg hc]; simp; omega
theorem Ctr.ofV {y : MethodName} {cc : ByteArray} {nL f lo : Nat} {ret : Option FieldType} {as : List AV} {mem : Mem} {Post : AV → Mem → Prop} {own : String} {ls : List AV} (ho : y.cls = own) (hy : plainName y.cls = true)
    (hls : exL as ++ List.replicate (nL - (exL as).length) aU = ls) (hn : (exL as).length ≤ nL) (k : V cc own nL ret (rmk f lo) (mE Post) 0 ls [] mem) : Ctr (y, cc, nL, ret, f, lo) as mem Post := by
  subst ho
  intro l G ad
  refine Met.ofW (cc := cc) (maxL := nL) (ret := ret) hy rfl ?_
  intro p e s m args below meth c s₁ B hml hv
  obtain ⟨rfl, hP, hK, hN, hi⟩ := hv
  have hts := atoms_spec (ws := mws (y, cc, nL, ret, f, lo)) B.pre
  have hown : s.vm.findClass y.cls = some m.cls := findClass_of_methodNamed B.named
  have hl := lv_entry (as.map (cv ad)) (n := nL) (by rw [exL_len]; exact hn)
  rw [lg_entry_eq]
  refine k p l e s m _ below meth c G ad s.heap [] _ ⟨⟨B.exec, B.bytes, hml, hown, fun w hw => hts w (List.mem_cons_of_mem _ hw)⟩, B.notSynchronized, B.returns, hK, hN, hi, fun i hi => ⟨i, hi, rfl⟩, trivial⟩ hP va_S.rf ⟨hl.1, hl.2.1, fun i v hiv hv => ?_⟩
  subst hls
  by_cases hlt : i < (exL as).length
  · rw [List.getElem?_append_left hlt] at hiv
    have h1 := exL_args ad as 0 i v hiv hv
    rw [Nat.zero_add] at h1
    exact hl.2.2 _ h1
  · rw [List.getElem?_append_right (by omega)] at hiv
    have h1 := List.mem_of_getElem? hiv
    exact absurd (List.eq_of_mem_replicate h1) hv
section HeapRows
variable {cc : ByteArray} {own : String} {nL : Nat} {ret : Option FieldType} {R : Room} {E : EQ} {pc q : Nat} {ls st : List AV} {mem : Mem}

theorem v_getI {pl x cl kl : Nat} {fin : Bool} {j : Int} (hd : decode cc pc = .ok (.getfield x, 3)) (hf : FL own x cl kl fin) (hk : kd pl = (5, cl)) (ht : fk (tyC cl kl) = 0) (hj : (kl : Int) = j) (hq : pc + 3 = q) (K : V cc own nL ret R E q ls (aI (mem pl j) :: st) mem) : V cc own nL ret R E pc ls (aR pl :: st) mem := by
  subst hq; subst hj
  intro p l e s m args below meth c G ad H locs la hC hP hS hl
  obtain ⟨w, hw1, hw2, hw3, -⟩ := hf
  have hv : fv ad mem pl cl kl = cv ad (aI (mem pl kl)) := by unfold fv; rw [ht]; rfl
  refine va_get hC.1.1 hC.1.2.1 hC.1.2.2.2.2 (inW hw1) hC.1.2.2.2.1 hC.2.2.2.1 hP pl (fs := (List.range (nf cl)).map (fv ad mem pl cl)) ?_ hw1 kl hw2 (hC.1.2.2.2.2 _ hw3) (fun _ h => h) (v := cv ad (aI (mem pl kl))) ?_ hd (K p l e s m args below meth c G ad H locs la hC hP hS hl)
  · rw [WS_at _ _ _ (kd_lt hk (by decide)), cell_5 _ _ _ hk]
  · rw [fs_at _ _ (nfW hw1) hw2, hv]
theorem v_getL {pl x cl kl : Nat} {fin : Bool} {j : Int} (hd : decode cc pc = .ok (.getfield x, 3)) (hf : FL own x cl kl fin) (hk : kd pl = (5, cl)) (ht : fk (tyC cl kl) = 1) (hj : (kl : Int) = j) (hq : pc + 3 = q) (K : V cc own nL ret R E q ls (aL (mem pl j) :: st) mem) : V cc own nL ret R E pc ls (aR pl :: st) mem := by
  subst hq; subst hj
  intro p l e s m args below meth c G ad H locs la hC hP hS hl
  obtain ⟨w, hw1, hw2, hw3, -⟩ := hf
  have hv : fv ad mem pl cl kl = cv ad (aL (mem pl kl)) := by unfold fv; rw [ht]; rfl
  refine va_get hC.1.1 hC.1.2.1 hC.1.2.2.2.2 (inW hw1) hC.1.2.2.2.1 hC.2.2.2.1 hP pl (fs := (List.range (nf cl)).map (fv ad mem pl cl)) ?_ hw1 kl hw2 (hC.1.2.2.2.2 _ hw3) (fun _ h => h) (v := cv ad (aL (mem pl kl))) ?_ hd (K p l e s m args below meth c G ad H locs la hC hP hS hl)
  · rw [WS_at _ _ _ (kd_lt hk (by decide)), cell_5 _ _ _ hk]
  · rw [fs_at _ _ (nfW hw1) hw2, hv]
theorem v_getR {pl x cl kl p' : Nat} {fin : Bool} (hd : decode cc pc = .ok (.getfield x, 3)) (hf : FL own x cl kl fin) (hk : kd pl = (5, cl)) (ht : fk (tyC cl kl) = 2) (hr : rf pl kl = p') (hq : pc + 3 = q) (K : V cc own nL ret R E q ls (aR p' :: st) mem) : V cc own nL ret R E pc ls (aR pl :: st) mem := by
  subst hq; subst hr
  intro p l e s m args below meth c G ad H locs la hC hP hS hl
  obtain ⟨w, hw1, hw2, hw3, -⟩ := hf
  have hv : fv ad mem pl cl kl = cv ad (aR (rf pl kl)) := by unfold fv; rw [ht]; rfl
  refine va_get hC.1.1 hC.1.2.1 hC.1.2.2.2.2 (inW hw1) hC.1.2.2.2.1 hC.2.2.2.1 hP pl (fs := (List.range (nf cl)).map (fv ad mem pl cl)) ?_ hw1 kl hw2 (hC.1.2.2.2.2 _ hw3) (fun _ h => h) (v := cv ad (aR (rf pl kl))) ?_ hd (K p l e s m args below meth c G ad H locs la hC hP hS hl)
  · rw [WS_at _ _ _ (kd_lt hk (by decide)), cell_5 _ _ _ hk]
  · rw [fs_at _ _ (nfW hw1) hw2, hv]
theorem v_putI {pl x cl kl : Nat} {j z : Int} (hd : decode cc pc = .ok (.putfield x, 3)) (hf : FL own x cl kl false) (hk : kd pl = (5, cl)) (ht : tyC cl kl = .int) (hj : (kl : Int) = j) (hq : pc + 3 = q) (K : V cc own nL ret R E q ls st (um mem pl j z)) : V cc own nL ret R E pc ls (aI z :: aR pl :: st) mem := by
  subst hq; subst hj
  intro p l e s m args below meth c G ad H locs la hC hP hS hl
  obtain ⟨w, hw1, hw2, hw3, hw4⟩ := hf
  have hlt := kd_lt hk (by decide)
  have hv : fv ad (um mem pl kl z) pl cl kl = .int (Int32.ofInt z) := by
    unfold fv
    rw [ht, um_same, ui_same]
    rfl
  have hw : (WS G ad mem)[pl]? = some (ad pl, .inr (cl, (List.range (nf cl)).map (fv ad mem pl cl))) := by rw [WS_at _ _ _ hlt, cell_5 _ _ _ hk]
  refine va_put hC.1.1 hC.1.2.1 hC.1.2.2.2.2 (inW hw1) (tyC cl) (tyW hw1) (nmW hw1) hC.1.2.2.2.1 hC.2.2.2.1 hP (WS_D hC.2.2.2.2.2.1 hC.2.2.2.2.2.2.1) hS pl hw hw1 kl hw2 (hC.1.2.2.2.2 _ hw3) (fun _ h => h) hw4 (ty := .int) (v := .int (Int32.ofInt z)) (by rw [← ht]; exact tyW hw1 kl hw2) rfl (by rfl) (by rw [List.length_map, List.length_range, nfW hw1]; exact hw2) hd (fun H1 locs1 hP1 hD1 hS1 => ?_)
  have e1 : (WS G ad mem).set pl (ad pl, .inr (cl, ((List.range (nf cl)).map (fv ad mem pl cl)).set kl (.int (Int32.ofInt z)))) = WS G ad (um mem pl kl z) :=
    WS_set hlt (by rw [cell_5 _ _ _ hk, fs_set ad mem (nfW hw1) hw2 hv]) um_other
  exact K p l e s m args below meth c G ad H1 locs1 la hC (e1 ▸ hP1) hS1 hl
theorem v_putZ {pl x cl kl : Nat} {j z : Int} (hz : z = 0 ∨ z = 1) (hd : decode cc pc = .ok (.putfield x, 3)) (hf : FL own x cl kl false) (hk : kd pl = (5, cl)) (ht : tyC cl kl = .boolean) (hj : (kl : Int) = j) (hq : pc + 3 = q) (K : V cc own nL ret R E q ls st (um mem pl j z)) : V cc own nL ret R E pc ls (aI z :: aR pl :: st) mem := by
  subst hq; subst hj
  intro p l e s m args below meth c G ad H locs la hC hP hS hl
  obtain ⟨w, hw1, hw2, hw3, hw4⟩ := hf
  have hlt := kd_lt hk (by decide)
  have hv : fv ad (um mem pl kl z) pl cl kl = .int (Int32.ofInt z) := by
    unfold fv
    rw [ht, um_same, ui_same]
    rfl
  have hw : (WS G ad mem)[pl]? = some (ad pl, .inr (cl, (List.range (nf cl)).map (fv ad mem pl cl))) := by rw [WS_at _ _ _ hlt, cell_5 _ _ _ hk]
  refine va_put hC.1.1 hC.1.2.1 hC.1.2.2.2.2 (inW hw1) (tyC cl) (tyW hw1) (nmW hw1) hC.1.2.2.2.1 hC.2.2.2.1 hP (WS_D hC.2.2.2.2.2.1 hC.2.2.2.2.2.2.1) hS pl hw hw1 kl hw2 (hC.1.2.2.2.2 _ hw3) (fun _ h => h) hw4 (ty := .boolean) (v := .int (Int32.ofInt z)) (by rw [← ht]; exact tyW hw1 kl hw2) (by rcases hz with rfl | rfl <;> rfl) (by rcases hz with rfl | rfl <;> rfl) (by rw [List.length_map, List.length_range, nfW hw1]; exact hw2) hd (fun H1 locs1 hP1 hD1 hS1 => ?_)
  have e1 : (WS G ad mem).set pl (ad pl, .inr (cl, ((List.range (nf cl)).map (fv ad mem pl cl)).set kl (.int (Int32.ofInt z)))) = WS G ad (um mem pl kl z) :=
    WS_set hlt (by rw [cell_5 _ _ _ hk, fs_set ad mem (nfW hw1) hw2 hv]) um_other
  exact K p l e s m args below meth c G ad H1 locs1 la hC (e1 ▸ hP1) hS1 hl
theorem v_putL {pl x cl kl : Nat} {j z : Int} (hd : decode cc pc = .ok (.putfield x, 3)) (hf : FL own x cl kl false) (hk : kd pl = (5, cl)) (ht : tyC cl kl = .long) (hj : (kl : Int) = j) (hq : pc + 3 = q) (K : V cc own nL ret R E q ls st (um mem pl j z)) : V cc own nL ret R E pc ls (aL z :: aR pl :: st) mem := by
  subst hq; subst hj
  intro p l e s m args below meth c G ad H locs la hC hP hS hl
  obtain ⟨w, hw1, hw2, hw3, hw4⟩ := hf
  have hlt := kd_lt hk (by decide)
  have hv : fv ad (um mem pl kl z) pl cl kl = .long (Int64.ofInt z) := by
    unfold fv
    rw [ht, um_same, ui_same]
    rfl
  have hw : (WS G ad mem)[pl]? = some (ad pl, .inr (cl, (List.range (nf cl)).map (fv ad mem pl cl))) := by rw [WS_at _ _ _ hlt, cell_5 _ _ _ hk]
  refine va_put hC.1.1 hC.1.2.1 hC.1.2.2.2.2 (inW hw1) (tyC cl) (tyW hw1) (nmW hw1) hC.1.2.2.2.1 hC.2.2.2.1 hP (WS_D hC.2.2.2.2.2.1 hC.2.2.2.2.2.2.1) hS pl hw hw1 kl hw2 (hC.1.2.2.2.2 _ hw3) (fun _ h => h) hw4 (ty := .long) (v := .long (Int64.ofInt z)) (by rw [← ht]; exact tyW hw1 kl hw2) rfl (by rfl) (by rw [List.length_map, List.length_range, nfW hw1]; exact hw2) hd (fun H1 locs1 hP1 hD1 hS1 => ?_)
  have e1 : (WS G ad mem).set pl (ad pl, .inr (cl, ((List.range (nf cl)).map (fv ad mem pl cl)).set kl (.long (Int64.ofInt z)))) = WS G ad (um mem pl kl z) :=
    WS_set hlt (by rw [cell_5 _ _ _ hk, fs_set ad mem (nfW hw1) hw2 hv]) um_other
  exact K p l e s m args below meth c G ad H1 locs1 la hC (e1 ▸ hP1) hS1 hl
theorem v_iald {pl n : Nat} {i : Int} (hd : decode cc pc = .ok (.iaload, 1)) (hk : kd pl = (0, n)) (h0 : 0 ≤ i) (h1 : i < n) (hq : pc + 1 = q) (K : V cc own nL ret R E q ls (aI (mem pl i) :: st) mem) : V cc own nL ret R E pc ls (aI i :: aR pl :: st) mem := by
  subst hq
  intro p l e s m args below meth c G ad H locs la hC hP hS hl
  obtain ⟨g1, g2⟩ := i32_in h0 h1 (kd_sm hk)
  have hw := WS_0 G ad mem hk
  refine va_iald hC.1.1 hC.1.2.1 hC.2.2.2.1 hP pl 0 hw rfl g1 hd ?_
  rw [g2, Int.toNat_of_nonneg h0]
  exact K p l e s m args below meth c G ad H locs la hC hP hS hl
theorem v_zald {pl n : Nat} {i : Int} (hd : decode cc pc = .ok (.baload, 1)) (hk : kd pl = (2, n)) (h0 : 0 ≤ i) (h1 : i < n) (hq : pc + 1 = q) (K : V cc own nL ret R E q ls (aI (mem pl i) :: st) mem) : V cc own nL ret R E pc ls (aI i :: aR pl :: st) mem := by
  subst hq
  intro p l e s m args below meth c G ad H locs la hC hP hS hl
  obtain ⟨g1, g2⟩ := i32_in h0 h1 (kd_sm hk)
  have hw := WS_2 G ad mem hk
  refine va_zald hC.1.1 hC.1.2.1 hC.2.2.2.1 hP pl 2 hw rfl g1 hd ?_
  rw [g2, Int.toNat_of_nonneg h0]
  exact K p l e s m args below meth c G ad H locs la hC hP hS hl
theorem v_lald {pl n : Nat} {i : Int} (hd : decode cc pc = .ok (.laload, 1)) (hk : kd pl = (1, n)) (h0 : 0 ≤ i) (h1 : i < n) (hq : pc + 1 = q) (K : V cc own nL ret R E q ls (aL (mem pl i) :: st) mem) : V cc own nL ret R E pc ls (aI i :: aR pl :: st) mem := by
  subst hq
  intro p l e s m args below meth c G ad H locs la hC hP hS hl
  obtain ⟨g1, g2⟩ := i32_in h0 h1 (kd_sm hk)
  have hw := WS_1 G ad mem hk
  refine va_lald hC.1.1 hC.1.2.1 hC.2.2.2.1 hP pl 1 hw rfl g1 hd ?_
  rw [g2, Int.toNat_of_nonneg h0]
  exact K p l e s m args below meth c G ad H locs la hC hP hS hl
theorem v_iast {pl n : Nat} {i z : Int} (hd : decode cc pc = .ok (.iastore, 1)) (hk : kd pl = (0, n)) (h0 : 0 ≤ i) (h1 : i < n) (hq : pc + 1 = q) (K : V cc own nL ret R E q ls st (um mem pl i z)) : V cc own nL ret R E pc ls (aI z :: aI i :: aR pl :: st) mem := by
  subst hq
  intro p l e s m args below meth c G ad H locs la hC hP hS hl
  obtain ⟨g1, g2⟩ := i32_in h0 h1 (kd_sm hk)
  have hlt := kd_lt hk (by decide)
  have hw := WS_0 G ad mem hk
  refine va_iast hC.1.1 hC.1.2.1 hC.2.2.2.1 hP (WS_D hC.2.2.2.2.2.1 hC.2.2.2.2.2.2.1) hS pl 0 hw rfl g1 hd (fun H1 locs1 hP1 hD1 hS1 => ?_)
  refine K p l e s m args below meth c G ad H1 locs1 la hC ?_ hS1 hl
  rw [← WS_set (mem := mem) hlt ?_ um_other]
  · exact hP1
  · rw [cell_0 _ _ _ hk, g2]
    congr 4
    funext k
    rw [um_same]
    unfold upd ui
    by_cases hki : k = i.toNat
    · rw [if_pos hki, if_pos (by omega)]
    · rw [if_neg hki, if_neg (by omega)]
theorem v_zast {pl n : Nat} {i z : Int} (hz : z = 0 ∨ z = 1) (hd : decode cc pc = .ok (.bastore, 1)) (hk : kd pl = (2, n)) (h0 : 0 ≤ i) (h1 : i < n) (hq : pc + 1 = q) (K : V cc own nL ret R E q ls st (um mem pl i z)) : V cc own nL ret R E pc ls (aI z :: aI i :: aR pl :: st) mem := by
  subst hq
  intro p l e s m args below meth c G ad H locs la hC hP hS hl
  obtain ⟨g1, g2⟩ := i32_in h0 h1 (kd_sm hk)
  have hlt := kd_lt hk (by decide)
  have hw := WS_2 G ad mem hk
  refine va_zast hC.1.1 hC.1.2.1 hC.2.2.2.1 hP (WS_D hC.2.2.2.2.2.1 hC.2.2.2.2.2.2.1) hS pl 2 hw rfl g1 hd (fun H1 locs1 hP1 hD1 hS1 => ?_)
  refine K p l e s m args below meth c G ad H1 locs1 la hC ?_ hS1 hl
  rw [← WS_set (mem := mem) hlt ?_ um_other]
  · exact hP1
  · rw [cell_2 _ _ _ hk, g2]
    have hz2 : vp_nar .boolean (Int32.ofInt z) = Int32.ofInt z := by rcases hz with rfl | rfl <;> rfl
    rw [hz2]
    congr 4
    funext k
    rw [um_same]
    unfold upd ui
    by_cases hki : k = i.toNat
    · rw [if_pos hki, if_pos (by omega)]
    · rw [if_neg hki, if_neg (by omega)]
theorem v_last {pl n : Nat} {i z : Int} (hd : decode cc pc = .ok (.lastore, 1)) (hk : kd pl = (1, n)) (h0 : 0 ≤ i) (h1 : i < n) (hq : pc + 1 = q) (K : V cc own nL ret R E q ls st (um mem pl i z)) : V cc own nL ret R E pc ls (aL z :: aI i :: aR pl :: st) mem := by
  subst hq
  intro p l e s m args below meth c G ad H locs la hC hP hS hl
  obtain ⟨g1, g2⟩ := i32_in h0 h1 (kd_sm hk)
  have hlt := kd_lt hk (by decide)
  have hw := WS_1 G ad mem hk
  refine va_last hC.1.1 hC.1.2.1 hC.2.2.2.1 hP (WS_D hC.2.2.2.2.2.1 hC.2.2.2.2.2.2.1) hS pl 1 hw rfl g1 hd (fun H1 locs1 hP1 hD1 hS1 => ?_)
  refine K p l e s m args below meth c G ad H1 locs1 la hC ?_ hS1 hl
  rw [← WS_set (mem := mem) hlt ?_ um_other]
  · exact hP1
  · rw [cell_1 _ _ _ hk, g2]
    congr 5
    funext k
    rw [um_same]
    unfold vp_updL ui
    by_cases hki : k = i.toNat
    · rw [if_pos hki, if_pos (by omega)]
    · rw [if_neg hki, if_neg (by omega)]
theorem v_aaldL {pl n : Nat} {i : Int} (hd : decode cc pc = .ok (.aaload, 1)) (hk : kd pl = (3, n)) (h0 : 0 ≤ i) (h1 : i < n) (hq : pc + 1 = q) (K : V cc own nL ret R E q ls (aR (pl + 1 + i.toNat) :: st) mem) : V cc own nL ret R E pc ls (aI i :: aR pl :: st) mem := by
  subst hq
  intro p l e s m args below meth c G ad H locs la hC hP hS hl
  obtain ⟨g1, g2⟩ := i32_in h0 h1 (kd_sm hk)
  have hlt : (Int32.ofInt i).toNatClampNeg < n := Nat.not_le.mp fun q => g1 (Or.inr q)
  have hw := WS_3 G ad mem hk
  have hr : rf pl i.toNat = pl + 1 + i.toNat := by unfold rf; rw [hk]; rfl
  have hv : (.ref (ad (pl + 1 + i.toNat)) : Value) = va_rf (some (ad (rf pl (Int32.ofInt i).toNatClampNeg))) := by rw [g2, hr]; rfl
  refine W.aald (v := .ref (ad (pl + 1 + i.toNat))) (ty := .array .long) hC.1.1 hC.1.2.1 (hP pl _ hw) ((hC.2.2.2.1.2 3 _ rfl).1 n (fun j => va_rf (some (ad (rf pl j))))) rfl (fun q => by cases q) (by show ¬ (_ < 0 ∨ (arrV _ _ _).slots.size ≤ _); rw [arrV_size]; exact g1) (by show (arrV _ _ _).slots[_]? = _; rw [arrV_read _ _ hlt, hv]) rfl rfl hd (K p l e s m args below meth c G ad H locs la hC hP hS hl)
theorem v_aaldS {pl n : Nat} {i : Int} (hd : decode cc pc = .ok (.aaload, 1)) (hk : kd pl = (4, n)) (h0 : 0 ≤ i) (h1 : i < n) (hq : pc + 1 = q) (K : V cc own nL ret R E q ls (aR (mem pl i).toNat :: st) mem) : V cc own nL ret R E pc ls (aI i :: aR pl :: st) mem := by
  subst hq
  intro p l e s m args below meth c G ad H locs la hC hP hS hl
  obtain ⟨g1, g2⟩ := i32_in h0 h1 (kd_sm hk)
  have hw := WS_4 G ad mem hk
  refine va_aldq hC.1.1 hC.1.2.1 hC.2.2.2.1 hP pl 4 hw rfl g1 hd ?_
  rw [g2, Int.toNat_of_nonneg h0]
  exact K p l e s m args below meth c G ad H locs la hC hP hS hl
theorem v_aastS {pl w n : Nat} {i : Int} (hd : decode cc pc = .ok (.aastore, 1)) (hk : kd pl = (4, n)) (hv : kd w = (5, 4)) (h0 : 0 ≤ i) (h1 : i < n) (hq : pc + 1 = q) (K : V cc own nL ret R E q ls st (um mem pl i w)) : V cc own nL ret R E pc ls (aR w :: aI i :: aR pl :: st) mem := by
  subst hq
  intro p l e s m args below meth c G ad H locs la hC hP hS hl
  obtain ⟨g1, g2⟩ := i32_in h0 h1 (kd_sm hk)
  have hlt := kd_lt hk (by decide)
  have hw := WS_4 G ad mem hk
  have hw2 := WS_5 G ad mem hv
  refine va_astq hC.1.1 hC.1.2.1 hC.2.2.2.1 hP (WS_D hC.2.2.2.2.2.1 hC.2.2.2.2.2.2.1) hS pl 4 w 4 (r := (RX4, TX4, 6)) hw rfl hw2 rfl g1 hd (fun H1 locs1 hP1 hD1 hS1 => ?_)
  refine K p l e s m args below meth c G ad H1 locs1 la hC ?_ hS1 hl
  rw [← WS_set (mem := mem) hlt ?_ um_other]
  · exact hP1
  · rw [cell_4 _ _ _ hk, g2]
    congr 7
    funext k
    rw [um_same]
    unfold va_up ui
    by_cases hki : k = i.toNat
    · rw [if_pos hki, if_pos (by omega)]; simp
    · rw [if_neg hki, if_neg (by omega)]
theorem v_alen0 {pl n : Nat} (hd : decode cc pc = .ok (.arraylength, 1)) (hk : kd pl = (0, n)) (hq : pc + 1 = q) (K : V cc own nL ret R E q ls (aI n :: st) mem) : V cc own nL ret R E pc ls (aR pl :: st) mem := by
  subst hq
  intro p l e s m args below meth c G ad H locs la hC hP hS hl
  have hw := WS_0 G ad mem hk
  exact va_alen hC.1.1 hC.1.2.1 hC.2.2.2.1 hP pl 0 hw rfl (v := Int32.ofInt n) rfl hd (K p l e s m args below meth c G ad H locs la hC hP hS hl)
theorem v_alen1 {pl n : Nat} (hd : decode cc pc = .ok (.arraylength, 1)) (hk : kd pl = (1, n)) (hq : pc + 1 = q) (K : V cc own nL ret R E q ls (aI n :: st) mem) : V cc own nL ret R E pc ls (aR pl :: st) mem := by
  subst hq
  intro p l e s m args below meth c G ad H locs la hC hP hS hl
  have hw := WS_1 G ad mem hk
  exact va_alen hC.1.1 hC.1.2.1 hC.2.2.2.1 hP pl 1 hw rfl (v := Int32.ofInt n) rfl hd (K p l e s m args below meth c G ad H locs la hC hP hS hl)
theorem v_iret {Post : AV → Mem → Prop} {z : Int} (hd : decode cc pc = .ok (.ireturn, 1)) (h : Post (aI z) mem) : V cc own nL (some .int) R (mE Post) pc ls [(aI z)] mem := by
  intro p l e s m args below meth c G ad H locs la hC hP hS hl
  exact W.iret hC.1.1 hC.1.2.1 hC.2.2.1 (fun t ht _ => ⟨⟨_, mem, rfl, h, by rw [ht]; exact hP⟩, hS.F ht⟩) hS.2.2 hd hC.2.1
theorem v_zret {Post : AV → Mem → Prop} {z : Int} (hz : z = 0 ∨ z = 1) (hd : decode cc pc = .ok (.ireturn, 1)) (h : Post (aI z) mem) : V cc own nL (some .boolean) R (mE Post) pc ls [aI z] mem := by
  intro p l e s m args below meth c G ad H locs la hC hP hS hl
  exact W.zret hC.1.1 hC.1.2.1 hC.2.2.1 (by rcases hz with rfl | rfl <;> rfl) (fun t ht _ => ⟨⟨_, mem, rfl, h, by rw [ht]; exact hP⟩, hS.F ht⟩) hS.2.2 hd hC.2.1
theorem v_lret {Post : AV → Mem → Prop} {z : Int} (hd : decode cc pc = .ok (.lreturn, 1)) (h : Post (aL z) mem) : V cc own nL (some .long) R (mE Post) pc ls [(aL z)] mem := by
  intro p l e s m args below meth c G ad H locs la hC hP hS hl
  exact W.lret hC.1.1 hC.1.2.1 hC.2.2.1 (fun t ht _ => ⟨⟨_, mem, rfl, h, by rw [ht]; exact hP⟩, hS.F ht⟩) hS.2.2 hd hC.2.1
theorem v_fret {Post : AV → Mem → Prop} {z : UInt32} (hd : decode cc pc = .ok (.freturn, 1)) (h : Post (aF z) mem) : V cc own nL (some .float) R (mE Post) pc ls [(aF z)] mem := by
  intro p l e s m args below meth c G ad H locs la hC hP hS hl
  exact W.fret hC.1.1 hC.1.2.1 hC.2.2.1 (fun t ht _ => ⟨⟨_, mem, rfl, h, by rw [ht]; exact hP⟩, hS.F ht⟩) hS.2.2 hd hC.2.1
theorem v_vret {Post : AV → Mem → Prop}  (hd : decode cc pc = .ok (.return_, 1)) (h : Post aU mem) : V cc own nL none R (mE Post) pc ls [] mem := by
  intro p l e s m args below meth c G ad H locs la hC hP hS hl
  exact W.vret hC.1.1 hC.1.2.1 hC.2.2.1 (fun t ht _ => ⟨⟨_, mem, rfl, h, by rw [ht]; exact hP⟩, hS.F ht⟩) hS.2.2 hd hC.2.1
theorem cat_ok (ad : Nat → Nat) {st : List AV} (h : (st.map ctg).sum ≤ 8) : ((st.map (cv ad)).map fun v => v.category).sum ≤ 8 := by
  have e : (st.map (cv ad)).map (fun v => v.category) = st.map ctg := by
    rw [List.map_map]
    apply List.map_congr_left
    intro v _
    exact cv_ctg ad v
  rw [e]
  exact h
/-- what follows a call, once it is run -/
theorem v_after {Post : AV → Mem → Prop} {g0 : List AV} {rest : List AV} {a : Array Value} {p : Program} {l : Launch} {e : Env} {s : State} {m : MethodId} {args : Array Value} {below : List Frame} {meth : Method} {c : Code} {G : WG} {ad : Nat → Nat} {H : Heap} {locs : List Loc} {la : Array Slot}
    (hC : Cx cc own nL ret E p s m args meth c G ad) (hS : va_S (E.1 s ad) s.heap H locs) (hl : lvh ad la nL ls)
    (hr : va_Run p l e R s m args below meth c H locs E.2.1.1 E.2.1.2 0 0 (F0 m pc la (g0.map (cv ad))) (rest.map (cv ad)) (mQ G ad Post a) (rngA ad))
    (k : ∀ r mem', Post r mem' → V cc own nL ret R E (pc + 3) ls ((if r = aU then [] else [r]) ++ rest) mem') : W p l e R s m args below meth c H locs E.2.1.1 E.2.1.2 (E.2.2.1 below args s G ad) (F0 m pc la (g0.map (cv ad))) := by
  intro T hT X
  obtain ⟨v, st₀, t, T', L, h0, X', hL, e1, e2, ⟨⟨r, mem', hv, hp, hb⟩, hz, hk⟩, st⟩ := hr T hT X
  rw [h0] at hz hk
  have hA : ∀ x, rngA ad x → E.1 s ad x := fun x hx => by
    obtain ⟨i, hi, rfl⟩ := hx
    exact hC.2.2.2.2.2.2.1 i hi
  have hS2 : va_S (E.1 s ad) s.heap t.heap (locs ++ L) := ⟨Nat.le_trans hS.1 hz, fun x h1 h2 => by rw [hk x (Nat.lt_of_lt_of_le h1 hS.1) (fun z => h2 (hA x z))]; exact hS.2.1 x h1 h2, fun x hx => by
      rcases List.mem_append.mp hx with h | h
      · exact hS.2.2 x h
      · exact hA _ (hL x h)⟩
  have hk2 := k r mem' hp p l e s m args below meth c G ad t.heap (locs ++ L) la hC hb hS2 hl
  have hv2 : v.toList ++ rest.map (cv ad) = ((if r = aU then [] else [r]) ++ rest).map (cv ad) := by
    have hv3 : v = rv ad r := Outcome.returned.inj hv
    rw [hv3]
    rcases r with z | z | z | z | z | z
    · rw [if_neg (by intro h; cases h)]; rfl
    · rw [if_neg (by intro h; cases h)]; rfl
    · rw [if_neg (by intro h; cases h)]; rfl
    · rw [if_neg (by intro h; cases h)]; rfl
    · rw [if_neg (by intro h; cases h)]; rfl
    · rw [if_pos (by cases z; rfl)]; rfl
  rw [← hv2] at hk2
  obtain ⟨t2, a1, b1⟩ := hk2 T' e1 (by simpa using X')
  exact ⟨t2, st t2 a1, b1⟩
theorem v_callV {M : Mt} {x n : Nat} {as : List AV} {pr cl : Nat} {w : vw_C} {Post : AV → Mem → Prop} {st0 : List AV} (hd : decode cc pc = .ok (.invokevirtual x, 3)) (hl0 : Cond.methodLink own x M.1 ∈ gw) (hm : mdV M n) (hR : M.2.2.2.2.1 + 1 ≤ R.frames ∧ 8 + (M.2.2.1 + 11) + M.2.2.2.2.2 ≤ R.locals) (hk : kd pr = (5, cl)) (hw : vwCl[cl]? = some w) (hwc : w.1 = M.1.cls) (hcs : E.2.1.1 ≤ R.cells ∧ E.2.1.2 ≤ R.slots) (hn : as.length = n) (hst : st0 = as.reverse ++ aR pr :: st) (hcat : (st.map ctg).sum ≤ 8) (hc : Ctr M (aR pr :: as) mem Post)
    (k : ∀ r mem', Post r mem' → V cc own nL ret R E (pc + 3) ls ((if r = aU then [] else [r]) ++ st) mem') : V cc own nL ret R E pc ls st0 mem := by
  intro p l e s m args below meth c G ad H locs la hC hP hS hl
  refine v_after (Post := Post) (g0 := st0) (rest := st) (a := (Value.ref (ad pr) :: as.map (cv ad)).toArray) hC hS hl ?_ k
  have hrec : ∃ cell : Cell, H[ad pr]? = some cell ∧ cell.vm.isStatics = false ∧ s.vm.findClass M.1.cls = some cell.cls := by
    rw [← hwc]
    exact va_recv hC.2.2.2.1 hP hw (q0 := pr) (by rw [WS_at _ _ _ (kd_lt hk (by decide)), cell_5 _ _ _ hk])
  refine va_runV (C := M.1.cls) (b := ad pr) (As := as.map (cv ad)) (rest := st.map (cv ad)) (ws := mws M) (n := n) hC.1 (hc l G ad) ⟨(callB_of n hC.1.2.2.2.2 (mws_good hm.2.2.2.1) rfl rfl rfl (hC.1.2.2.2.2 _ hm.2.2.1) (hC.1.2.2.2.2 _ hl0) hm.2.2.2.2 hR), hC.1.2.2.2.2 _ hm.1, hC.1.2.2.2.2 _ hm.2.1⟩ ⟨cW_blind G ad mem (aR pr :: as), hrec, fun U hU hW => ⟨rfl, by rw [hU]; exact hP, va_K.moved hW.alike hC.2.2.2.1, hC.2.2.2.2.1.warm hW, hC.2.2.2.2.2.1⟩⟩ rfl (by rw [List.length_map]; exact hn) hl.1 (by rw [hst]; simp [F0, cv, aR]) (lv_room (cat_ok ad hcat)) hd (by simpa using hcs)
theorem v_callS {M : Mt} {x n : Nat} {as : List AV} {Post : AV → Mem → Prop} {st0 : List AV} (hd : decode cc pc = .ok (.invokestatic x, 3)) (hl0 : Cond.methodLink own x M.1 ∈ gw) (hm : mdS M n) (hR : M.2.2.2.2.1 + 1 ≤ R.frames ∧ 8 + (M.2.2.1 + 11) + M.2.2.2.2.2 ≤ R.locals) (hcs : E.2.1.1 ≤ R.cells ∧ E.2.1.2 ≤ R.slots) (hn : as.length = n) (hst : st0 = as.reverse ++ st) (hcat : (st.map ctg).sum ≤ 8) (hc : Ctr M as mem Post)
    (k : ∀ r mem', Post r mem' → V cc own nL ret R E (pc + 3) ls ((if r = aU then [] else [r]) ++ st) mem') : V cc own nL ret R E pc ls st0 mem := by
  intro p l e s m args below meth c G ad H locs la hC hP hS hl
  refine v_after (Post := Post) (g0 := st0) (rest := st) (a := (as.map (cv ad)).toArray) hC hS hl ?_ k
  refine va_runS (As := as.map (cv ad)) (rest := st.map (cv ad)) (ws := mws M) (n := n) hC.1 (hc l G ad) ⟨(callB_of n hC.1.2.2.2.2 (mws_good hm.2.2.1) rfl rfl rfl (hC.1.2.2.2.2 _ hm.2.1) (hC.1.2.2.2.2 _ hl0) hm.2.2.2 hR), hC.1.2.2.2.2 _ hm.1⟩ ⟨cW_blind G ad mem as, fun U hU hW => ⟨rfl, by rw [hU]; exact hP, va_K.moved hW.alike hC.2.2.2.1, hC.2.2.2.2.1.warm hW, hC.2.2.2.2.2.1⟩⟩ rfl (by rw [List.length_map]; exact hn) hl.1 (by rw [hst]; simp [F0]) (lv_room (cat_ok ad hcat)) hd (by simpa using hcs)
theorem v_callVN {M : Mt} {x n : Nat} {as : List AV} {pr cl : Nat} {w : vw_C} {Post : AV → Mem → Prop} {st0 : List AV} (hd : decode cc pc = .ok (.invokevirtual x, 3)) {host : String} (hl0 : Cond.methodLinkNest own x M.1 host ∈ nestL) (hm : mdV M n) (hR : M.2.2.2.2.1 + 1 ≤ R.frames ∧ 8 + (M.2.2.1 + 11) + M.2.2.2.2.2 ≤ R.locals) (hk : kd pr = (5, cl)) (hw : vwCl[cl]? = some w) (hwc : w.1 = M.1.cls) (hcs : E.2.1.1 ≤ R.cells ∧ E.2.1.2 ≤ R.slots) (hn : as.length = n) (hst : st0 = as.reverse ++ aR pr :: st) (hcat : (st.map ctg).sum ≤ 8) (hc : Ctr M (aR pr :: as) mem Post)
    (k : ∀ r mem', Post r mem' → V cc own nL ret R E (pc + 3) ls ((if r = aU then [] else [r]) ++ st) mem') : V cc own nL ret R E pc ls st0 mem := by
  intro p l e s m args below meth c G ad H locs la hC hP hS hl
  refine v_after (Post := Post) (g0 := st0) (rest := st) (a := (Value.ref (ad pr) :: as.map (cv ad)).toArray) hC hS hl ?_ k
  have hrec : ∃ cell : Cell, H[ad pr]? = some cell ∧ cell.vm.isStatics = false ∧ s.vm.findClass M.1.cls = some cell.cls := by
    rw [← hwc]
    exact va_recv hC.2.2.2.1 hP hw (q0 := pr) (by rw [WS_at _ _ _ (kd_lt hk (by decide)), cell_5 _ _ _ hk])
  refine va_runVN (C := M.1.cls) (b := ad pr) (As := as.map (cv ad)) (rest := st.map (cv ad)) (ws := mws M) (n := n) hC.1 (hc l G ad) ⟨(va_cnB n hC.1.2.2.2.2 (mws_good hm.2.2.2.1) rfl rfl rfl (hC.2.2.2.2.1 _ hl0) (hC.1.2.2.2.2 _ hm.2.2.1) hm.2.2.2.2 hR), hC.1.2.2.2.2 _ hm.1, hC.1.2.2.2.2 _ hm.2.1⟩ ⟨cW_blind G ad mem (aR pr :: as), hrec, fun U hU hW => ⟨rfl, by rw [hU]; exact hP, va_K.moved hW.alike hC.2.2.2.1, hC.2.2.2.2.1.warm hW, hC.2.2.2.2.2.1⟩⟩ rfl (by rw [List.length_map]; exact hn) hl.1 (by rw [hst]; simp [F0, cv, aR]) (lv_room (cat_ok ad hcat)) hd (by simpa using hcs)
theorem v_callSN {M : Mt} {x n : Nat} {as : List AV} {Post : AV → Mem → Prop} {st0 : List AV} (hd : decode cc pc = .ok (.invokestatic x, 3)) {host : String} (hl0 : Cond.methodLinkNest own x M.1 host ∈ nestL) (hm : mdS M n) (hR : M.2.2.2.2.1 + 1 ≤ R.frames ∧ 8 + (M.2.2.1 + 11) + M.2.2.2.2.2 ≤ R.locals) (hcs : E.2.1.1 ≤ R.cells ∧ E.2.1.2 ≤ R.slots) (hn : as.length = n) (hst : st0 = as.reverse ++ st) (hcat : (st.map ctg).sum ≤ 8) (hc : Ctr M as mem Post)
    (k : ∀ r mem', Post r mem' → V cc own nL ret R E (pc + 3) ls ((if r = aU then [] else [r]) ++ st) mem') : V cc own nL ret R E pc ls st0 mem := by
  intro p l e s m args below meth c G ad H locs la hC hP hS hl
  refine v_after (Post := Post) (g0 := st0) (rest := st) (a := (as.map (cv ad)).toArray) hC hS hl ?_ k
  refine va_runSN (As := as.map (cv ad)) (rest := st.map (cv ad)) (ws := mws M) (n := n) hC.1 (hc l G ad) ⟨(va_cnB n hC.1.2.2.2.2 (mws_good hm.2.2.1) rfl rfl rfl (hC.2.2.2.2.1 _ hl0) (hC.1.2.2.2.2 _ hm.2.1) hm.2.2.2 hR), hC.1.2.2.2.2 _ hm.1, trivial⟩ ⟨cW_blind G ad mem as, fun U hU hW => ⟨rfl, by rw [hU]; exact hP, va_K.moved hW.alike hC.2.2.2.1, hC.2.2.2.2.1.warm hW, hC.2.2.2.2.2.1⟩⟩ rfl (by rw [List.length_map]; exact hn) hl.1 (by rw [hst]; simp [F0]) (lv_room (cat_ok ad hcat)) hd (by simpa using hcs)
theorem v_cVI0 {M : Mt} {x : Nat} {pr cl : Nat} {w : vw_C} {Post : Int → Mem → Prop} (hd : decode cc pc = .ok (.invokevirtual x, 3)) (hl0 : Cond.methodLink own x M.1 ∈ gw) (hm : mdV M 0) (hR : M.2.2.2.2.1 + 1 ≤ R.frames ∧ 8 + (M.2.2.1 + 11) + M.2.2.2.2.2 ≤ R.locals) (hk : kd pr = (5, cl)) (hw : vwCl[cl]? = some w) (hwc : w.1 = M.1.cls) (hcs : E.2.1.1 ≤ R.cells ∧ E.2.1.2 ≤ R.slots) (hcat : (st.map ctg).sum ≤ 8) (hq : pc + 3 = q) (hc : CtrI M (aR pr :: []) mem Post) (k : ∀ z m1, Post z m1 → V cc own nL ret R E q ls (aI z :: st) m1) : V cc own nL ret R E pc ls (aR pr :: st) mem :=
  v_callV (as := []) hd hl0 hm hR hk hw hwc hcs rfl rfl hcat hc (fun r m1 hp => by obtain ⟨z, rfl, hp⟩ := hp; rw [hq, if_neg (by intro h; cases h)]; exact k z m1 hp)
theorem v_cVL0 {M : Mt} {x : Nat} {pr cl : Nat} {w : vw_C} {Post : Int → Mem → Prop} (hd : decode cc pc = .ok (.invokevirtual x, 3)) (hl0 : Cond.methodLink own x M.1 ∈ gw) (hm : mdV M 0) (hR : M.2.2.2.2.1 + 1 ≤ R.frames ∧ 8 + (M.2.2.1 + 11) + M.2.2.2.2.2 ≤ R.locals) (hk : kd pr = (5, cl)) (hw : vwCl[cl]? = some w) (hwc : w.1 = M.1.cls) (hcs : E.2.1.1 ≤ R.cells ∧ E.2.1.2 ≤ R.slots) (hcat : (st.map ctg).sum ≤ 8) (hq : pc + 3 = q) (hc : CtrL M (aR pr :: []) mem Post) (k : ∀ z m1, Post z m1 → V cc own nL ret R E q ls (aL z :: st) m1) : V cc own nL ret R E pc ls (aR pr :: st) mem :=
  v_callV (as := []) hd hl0 hm hR hk hw hwc hcs rfl rfl hcat hc (fun r m1 hp => by obtain ⟨z, rfl, hp⟩ := hp; rw [hq, if_neg (by intro h; cases h)]; exact k z m1 hp)
theorem v_cVV0 {M : Mt} {x : Nat} {pr cl : Nat} {w : vw_C} {Post : Mem → Prop} (hd : decode cc pc = .ok (.invokevirtual x, 3)) (hl0 : Cond.methodLink own x M.1 ∈ gw) (hm : mdV M 0) (hR : M.2.2.2.2.1 + 1 ≤ R.frames ∧ 8 + (M.2.2.1 + 11) + M.2.2.2.2.2 ≤ R.locals) (hk : kd pr = (5, cl)) (hw : vwCl[cl]? = some w) (hwc : w.1 = M.1.cls) (hcs : E.2.1.1 ≤ R.cells ∧ E.2.1.2 ≤ R.slots) (hcat : (st.map ctg).sum ≤ 8) (hq : pc + 3 = q) (hc : CtrV M (aR pr :: []) mem Post) (k : ∀ m1, Post m1 → V cc own nL ret R E q ls st m1) : V cc own nL ret R E pc ls (aR pr :: st) mem :=
  v_callV (as := []) hd hl0 hm hR hk hw hwc hcs rfl rfl hcat hc (fun r m1 hp => by obtain ⟨rfl, hp⟩ := hp; rw [hq]; exact k m1 hp)
theorem v_cVI1 {M : Mt} {x : Nat} {b0 : AV} {pr cl : Nat} {w : vw_C} {Post : Int → Mem → Prop} (hd : decode cc pc = .ok (.invokevirtual x, 3)) (hl0 : Cond.methodLink own x M.1 ∈ gw) (hm : mdV M 1) (hR : M.2.2.2.2.1 + 1 ≤ R.frames ∧ 8 + (M.2.2.1 + 11) + M.2.2.2.2.2 ≤ R.locals) (hk : kd pr = (5, cl)) (hw : vwCl[cl]? = some w) (hwc : w.1 = M.1.cls) (hcs : E.2.1.1 ≤ R.cells ∧ E.2.1.2 ≤ R.slots) (hcat : (st.map ctg).sum ≤ 8) (hq : pc + 3 = q) (hc : CtrI M (aR pr :: [b0]) mem Post) (k : ∀ z m1, Post z m1 → V cc own nL ret R E q ls (aI z :: st) m1) : V cc own nL ret R E pc ls (b0 :: aR pr :: st) mem :=
  v_callV (as := [b0]) hd hl0 hm hR hk hw hwc hcs rfl rfl hcat hc (fun r m1 hp => by obtain ⟨z, rfl, hp⟩ := hp; rw [hq, if_neg (by intro h; cases h)]; exact k z m1 hp)
theorem v_cVL1 {M : Mt} {x : Nat} {b0 : AV} {pr cl : Nat} {w : vw_C} {Post : Int → Mem → Prop} (hd : decode cc pc = .ok (.invokevirtual x, 3)) (hl0 : Cond.methodLink own x M.1 ∈ gw) (hm : mdV M 1) (hR : M.2.2.2.2.1 + 1 ≤ R.frames ∧ 8 + (M.2.2.1 + 11) + M.2.2.2.2.2 ≤ R.locals) (hk : kd pr = (5, cl)) (hw : vwCl[cl]? = some w) (hwc : w.1 = M.1.cls) (hcs : E.2.1.1 ≤ R.cells ∧ E.2.1.2 ≤ R.slots) (hcat : (st.map ctg).sum ≤ 8) (hq : pc + 3 = q) (hc : CtrL M (aR pr :: [b0]) mem Post) (k : ∀ z m1, Post z m1 → V cc own nL ret R E q ls (aL z :: st) m1) : V cc own nL ret R E pc ls (b0 :: aR pr :: st) mem :=
  v_callV (as := [b0]) hd hl0 hm hR hk hw hwc hcs rfl rfl hcat hc (fun r m1 hp => by obtain ⟨z, rfl, hp⟩ := hp; rw [hq, if_neg (by intro h; cases h)]; exact k z m1 hp)
theorem v_cVV1 {M : Mt} {x : Nat} {b0 : AV} {pr cl : Nat} {w : vw_C} {Post : Mem → Prop} (hd : decode cc pc = .ok (.invokevirtual x, 3)) (hl0 : Cond.methodLink own x M.1 ∈ gw) (hm : mdV M 1) (hR : M.2.2.2.2.1 + 1 ≤ R.frames ∧ 8 + (M.2.2.1 + 11) + M.2.2.2.2.2 ≤ R.locals) (hk : kd pr = (5, cl)) (hw : vwCl[cl]? = some w) (hwc : w.1 = M.1.cls) (hcs : E.2.1.1 ≤ R.cells ∧ E.2.1.2 ≤ R.slots) (hcat : (st.map ctg).sum ≤ 8) (hq : pc + 3 = q) (hc : CtrV M (aR pr :: [b0]) mem Post) (k : ∀ m1, Post m1 → V cc own nL ret R E q ls st m1) : V cc own nL ret R E pc ls (b0 :: aR pr :: st) mem :=
  v_callV (as := [b0]) hd hl0 hm hR hk hw hwc hcs rfl rfl hcat hc (fun r m1 hp => by obtain ⟨rfl, hp⟩ := hp; rw [hq]; exact k m1 hp)
theorem v_cVI2 {M : Mt} {x : Nat} {b0 b1 : AV} {pr cl : Nat} {w : vw_C} {Post : Int → Mem → Prop} (hd : decode cc pc = .ok (.invokevirtual x, 3)) (hl0 : Cond.methodLink own x M.1 ∈ gw) (hm : mdV M 2) (hR : M.2.2.2.2.1 + 1 ≤ R.frames ∧ 8 + (M.2.2.1 + 11) + M.2.2.2.2.2 ≤ R.locals) (hk : kd pr = (5, cl)) (hw : vwCl[cl]? = some w) (hwc : w.1 = M.1.cls) (hcs : E.2.1.1 ≤ R.cells ∧ E.2.1.2 ≤ R.slots) (hcat : (st.map ctg).sum ≤ 8) (hq : pc + 3 = q) (hc : CtrI M (aR pr :: [b0, b1]) mem Post) (k : ∀ z m1, Post z m1 → V cc own nL ret R E q ls (aI z :: st) m1) : V cc own nL ret R E pc ls (b1 :: b0 :: aR pr :: st) mem :=
  v_callV (as := [b0, b1]) hd hl0 hm hR hk hw hwc hcs rfl rfl hcat hc (fun r m1 hp => by obtain ⟨z, rfl, hp⟩ := hp; rw [hq, if_neg (by intro h; cases h)]; exact k z m1 hp)
theorem v_cVL2 {M : Mt} {x : Nat} {b0 b1 : AV} {pr cl : Nat} {w : vw_C} {Post : Int → Mem → Prop} (hd : decode cc pc = .ok (.invokevirtual x, 3)) (hl0 : Cond.methodLink own x M.1 ∈ gw) (hm : mdV M 2) (hR : M.2.2.2.2.1 + 1 ≤ R.frames ∧ 8 + (M.2.2.1 + 11) + M.2.2.2.2.2 ≤ R.locals) (hk : kd pr = (5, cl)) (hw : vwCl[cl]? = some w) (hwc : w.1 = M.1.cls) (hcs : E.2.1.1 ≤ R.cells ∧ E.2.1.2 ≤ R.slots) (hcat : (st.map ctg).sum ≤ 8) (hq : pc + 3 = q) (hc : CtrL M (aR pr :: [b0, b1]) mem Post) (k : ∀ z m1, Post z m1 → V cc own nL ret R E q ls (aL z :: st) m1) : V cc own nL ret R E pc ls (b1 :: b0 :: aR pr :: st) mem :=
  v_callV (as := [b0, b1]) hd hl0 hm hR hk hw hwc hcs rfl rfl hcat hc (fun r m1 hp => by obtain ⟨z, rfl, hp⟩ := hp; rw [hq, if_neg (by intro h; cases h)]; exact k z m1 hp)
theorem v_cVF2 {M : Mt} {x : Nat} {b0 b1 : AV} {pr cl : Nat} {w : vw_C} {Post : UInt32 → Mem → Prop} (hd : decode cc pc = .ok (.invokevirtual x, 3)) (hl0 : Cond.methodLink own x M.1 ∈ gw) (hm : mdV M 2) (hR : M.2.2.2.2.1 + 1 ≤ R.frames ∧ 8 + (M.2.2.1 + 11) + M.2.2.2.2.2 ≤ R.locals) (hk : kd pr = (5, cl)) (hw : vwCl[cl]? = some w) (hwc : w.1 = M.1.cls) (hcs : E.2.1.1 ≤ R.cells ∧ E.2.1.2 ≤ R.slots) (hcat : (st.map ctg).sum ≤ 8) (hq : pc + 3 = q) (hc : CtrF M (aR pr :: [b0, b1]) mem Post) (k : ∀ z m1, Post z m1 → V cc own nL ret R E q ls (aF z :: st) m1) : V cc own nL ret R E pc ls (b1 :: b0 :: aR pr :: st) mem :=
  v_callV (as := [b0, b1]) hd hl0 hm hR hk hw hwc hcs rfl rfl hcat hc (fun r m1 hp => by obtain ⟨z, rfl, hp⟩ := hp; rw [hq, if_neg (by intro h; cases h)]; exact k z m1 hp)
theorem v_cVV2 {M : Mt} {x : Nat} {b0 b1 : AV} {pr cl : Nat} {w : vw_C} {Post : Mem → Prop} (hd : decode cc pc = .ok (.invokevirtual x, 3)) (hl0 : Cond.methodLink own x M.1 ∈ gw) (hm : mdV M 2) (hR : M.2.2.2.2.1 + 1 ≤ R.frames ∧ 8 + (M.2.2.1 + 11) + M.2.2.2.2.2 ≤ R.locals) (hk : kd pr = (5, cl)) (hw : vwCl[cl]? = some w) (hwc : w.1 = M.1.cls) (hcs : E.2.1.1 ≤ R.cells ∧ E.2.1.2 ≤ R.slots) (hcat : (st.map ctg).sum ≤ 8) (hq : pc + 3 = q) (hc : CtrV M (aR pr :: [b0, b1]) mem Post) (k : ∀ m1, Post m1 → V cc own nL ret R E q ls st m1) : V cc own nL ret R E pc ls (b1 :: b0 :: aR pr :: st) mem :=
  v_callV (as := [b0, b1]) hd hl0 hm hR hk hw hwc hcs rfl rfl hcat hc (fun r m1 hp => by obtain ⟨rfl, hp⟩ := hp; rw [hq]; exact k m1 hp)
theorem v_cVI3 {M : Mt} {x : Nat} {b0 b1 b2 : AV} {pr cl : Nat} {w : vw_C} {Post : Int → Mem → Prop} (hd : decode cc pc = .ok (.invokevirtual x, 3)) (hl0 : Cond.methodLink own x M.1 ∈ gw) (hm : mdV M 3) (hR : M.2.2.2.2.1 + 1 ≤ R.frames ∧ 8 + (M.2.2.1 + 11) + M.2.2.2.2.2 ≤ R.locals) (hk : kd pr = (5, cl)) (hw : vwCl[cl]? = some w) (hwc : w.1 = M.1.cls) (hcs : E.2.1.1 ≤ R.cells ∧ E.2.1.2 ≤ R.slots) (hcat : (st.map ctg).sum ≤ 8) (hq : pc + 3 = q) (hc : CtrI M (aR pr :: [b0, b1, b2]) mem Post) (k : ∀ z m1, Post z m1 → V cc own nL ret R E q ls (aI z :: st) m1) : V cc own nL ret R E pc ls (b2 :: b1 :: b0 :: aR pr :: st) mem :=
  v_callV (as := [b0, b1, b2]) hd hl0 hm hR hk hw hwc hcs rfl rfl hcat hc (fun r m1 hp => by obtain ⟨z, rfl, hp⟩ := hp; rw [hq, if_neg (by intro h; cases h)]; exact k z m1 hp)
theorem v_cVL3 {M : Mt} {x : Nat} {b0 b1 b2 : AV} {pr cl : Nat} {w : vw_C} {Post : Int → Mem → Prop} (hd : decode cc pc = .ok (.invokevirtual x, 3)) (hl0 : Cond.methodLink own x M.1 ∈ gw) (hm : mdV M 3) (hR : M.2.2.2.2.1 + 1 ≤ R.frames ∧ 8 + (M.2.2.1 + 11) + M.2.2.2.2.2 ≤ R.locals) (hk : kd pr = (5, cl)) (hw : vwCl[cl]? = some w) (hwc : w.1 = M.1.cls) (hcs : E.2.1.1 ≤ R.cells ∧ E.2.1.2 ≤ R.slots) (hcat : (st.map ctg).sum ≤ 8) (hq : pc + 3 = q) (hc : CtrL M (aR pr :: [b0, b1, b2]) mem Post) (k : ∀ z m1, Post z m1 → V cc own nL ret R E q ls (aL z :: st) m1) : V cc own nL ret R E pc ls (b2 :: b1 :: b0 :: aR pr :: st) mem :=
  v_callV (as := [b0, b1, b2]) hd hl0 hm hR hk hw hwc hcs rfl rfl hcat hc (fun r m1 hp => by obtain ⟨z, rfl, hp⟩ := hp; rw [hq, if_neg (by intro h; cases h)]; exact k z m1 hp)
theorem v_cVV3 {M : Mt} {x : Nat} {b0 b1 b2 : AV} {pr cl : Nat} {w : vw_C} {Post : Mem → Prop} (hd : decode cc pc = .ok (.invokevirtual x, 3)) (hl0 : Cond.methodLink own x M.1 ∈ gw) (hm : mdV M 3) (hR : M.2.2.2.2.1 + 1 ≤ R.frames ∧ 8 + (M.2.2.1 + 11) + M.2.2.2.2.2 ≤ R.locals) (hk : kd pr = (5, cl)) (hw : vwCl[cl]? = some w) (hwc : w.1 = M.1.cls) (hcs : E.2.1.1 ≤ R.cells ∧ E.2.1.2 ≤ R.slots) (hcat : (st.map ctg).sum ≤ 8) (hq : pc + 3 = q) (hc : CtrV M (aR pr :: [b0, b1, b2]) mem Post) (k : ∀ m1, Post m1 → V cc own nL ret R E q ls st m1) : V cc own nL ret R E pc ls (b2 :: b1 :: b0 :: aR pr :: st) mem :=
  v_callV (as := [b0, b1, b2]) hd hl0 hm hR hk hw hwc hcs rfl rfl hcat hc (fun r m1 hp => by obtain ⟨rfl, hp⟩ := hp; rw [hq]; exact k m1 hp)
theorem v_cVI4 {M : Mt} {x : Nat} {b0 b1 b2 b3 : AV} {pr cl : Nat} {w : vw_C} {Post : Int → Mem → Prop} (hd : decode cc pc = .ok (.invokevirtual x, 3)) (hl0 : Cond.methodLink own x M.1 ∈ gw) (hm : mdV M 4) (hR : M.2.2.2.2.1 + 1 ≤ R.frames ∧ 8 + (M.2.2.1 + 11) + M.2.2.2.2.2 ≤ R.locals) (hk : kd pr = (5, cl)) (hw : vwCl[cl]? = some w) (hwc : w.1 = M.1.cls) (hcs : E.2.1.1 ≤ R.cells ∧ E.2.1.2 ≤ R.slots) (hcat : (st.map ctg).sum ≤ 8) (hq : pc + 3 = q) (hc : CtrI M (aR pr :: [b0, b1, b2, b3]) mem Post) (k : ∀ z m1, Post z m1 → V cc own nL ret R E q ls (aI z :: st) m1) : V cc own nL ret R E pc ls (b3 :: b2 :: b1 :: b0 :: aR pr :: st) mem :=
  v_callV (as := [b0, b1, b2, b3]) hd hl0 hm hR hk hw hwc hcs rfl rfl hcat hc (fun r m1 hp => by obtain ⟨z, rfl, hp⟩ := hp; rw [hq, if_neg (by intro h; cases h)]; exact k z m1 hp)
theorem v_cVL4 {M : Mt} {x : Nat} {b0 b1 b2 b3 : AV} {pr cl : Nat} {w : vw_C} {Post : Int → Mem → Prop} (hd : decode cc pc = .ok (.invokevirtual x, 3)) (hl0 : Cond.methodLink own x M.1 ∈ gw) (hm : mdV M 4) (hR : M.2.2.2.2.1 + 1 ≤ R.frames ∧ 8 + (M.2.2.1 + 11) + M.2.2.2.2.2 ≤ R.locals) (hk : kd pr = (5, cl)) (hw : vwCl[cl]? = some w) (hwc : w.1 = M.1.cls) (hcs : E.2.1.1 ≤ R.cells ∧ E.2.1.2 ≤ R.slots) (hcat : (st.map ctg).sum ≤ 8) (hq : pc + 3 = q) (hc : CtrL M (aR pr :: [b0, b1, b2, b3]) mem Post) (k : ∀ z m1, Post z m1 → V cc own nL ret R E q ls (aL z :: st) m1) : V cc own nL ret R E pc ls (b3 :: b2 :: b1 :: b0 :: aR pr :: st) mem :=
  v_callV (as := [b0, b1, b2, b3]) hd hl0 hm hR hk hw hwc hcs rfl rfl hcat hc (fun r m1 hp => by obtain ⟨z, rfl, hp⟩ := hp; rw [hq, if_neg (by intro h; cases h)]; exact k z m1 hp)
theorem v_cVV4 {M : Mt} {x : Nat} {b0 b1 b2 b3 : AV} {pr cl : Nat} {w : vw_C} {Post : Mem → Prop} (hd : decode cc pc = .ok (.invokevirtual x, 3)) (hl0 : Cond.methodLink own x M.1 ∈ gw) (hm : mdV M 4) (hR : M.2.2.2.2.1 + 1 ≤ R.frames ∧ 8 + (M.2.2.1 + 11) + M.2.2.2.2.2 ≤ R.locals) (hk : kd pr = (5, cl)) (hw : vwCl[cl]? = some w) (hwc : w.1 = M.1.cls) (hcs : E.2.1.1 ≤ R.cells ∧ E.2.1.2 ≤ R.slots) (hcat : (st.map ctg).sum ≤ 8) (hq : pc + 3 = q) (hc : CtrV M (aR pr :: [b0, b1, b2, b3]) mem Post) (k : ∀ m1, Post m1 → V cc own nL ret R E q ls st m1) : V cc own nL ret R E pc ls (b3 :: b2 :: b1 :: b0 :: aR pr :: st) mem :=
  v_callV (as := [b0, b1, b2, b3]) hd hl0 hm hR hk hw hwc hcs rfl rfl hcat hc (fun r m1 hp => by obtain ⟨rfl, hp⟩ := hp; rw [hq]; exact k m1 hp)
theorem v_cVI5 {M : Mt} {x : Nat} {b0 b1 b2 b3 b4 : AV} {pr cl : Nat} {w : vw_C} {Post : Int → Mem → Prop} (hd : decode cc pc = .ok (.invokevirtual x, 3)) (hl0 : Cond.methodLink own x M.1 ∈ gw) (hm : mdV M 5) (hR : M.2.2.2.2.1 + 1 ≤ R.frames ∧ 8 + (M.2.2.1 + 11) + M.2.2.2.2.2 ≤ R.locals) (hk : kd pr = (5, cl)) (hw : vwCl[cl]? = some w) (hwc : w.1 = M.1.cls) (hcs : E.2.1.1 ≤ R.cells ∧ E.2.1.2 ≤ R.slots) (hcat : (st.map ctg).sum ≤ 8) (hq : pc + 3 = q) (hc : CtrI M (aR pr :: [b0, b1, b2, b3, b4]) mem Post) (k : ∀ z m1, Post z m1 → V cc own nL ret R E q ls (aI z :: st) m1) : V cc own nL ret R E pc ls (b4 :: b3 :: b2 :: b1 :: b0 :: aR pr :: st) mem :=
  v_callV (as := [b0, b1, b2, b3, b4]) hd hl0 hm hR hk hw hwc hcs rfl rfl hcat hc (fun r m1 hp => by obtain ⟨z, rfl, hp⟩ := hp; rw [hq, if_neg (by intro h; cases h)]; exact k z m1 hp)
theorem v_cVL5 {M : Mt} {x : Nat} {b0 b1 b2 b3 b4 : AV} {pr cl : Nat} {w : vw_C} {Post : Int → Mem → Prop} (hd : decode cc pc = .ok (.invokevirtual x, 3)) (hl0 : Cond.methodLink own x M.1 ∈ gw) (hm : mdV M 5) (hR : M.2.2.2.2.1 + 1 ≤ R.frames ∧ 8 + (M.2.2.1 + 11) + M.2.2.2.2.2 ≤ R.locals) (hk : kd pr = (5, cl)) (hw : vwCl[cl]? = some w) (hwc : w.1 = M.1.cls) (hcs : E.2.1.1 ≤ R.cells ∧ E.2.1.2 ≤ R.slots) (hcat : (st.map ctg).sum ≤ 8) (hq : pc + 3 = q) (hc : CtrL M (aR pr :: [b0, b1, b2, b3, b4]) mem Post) (k : ∀ z m1, Post z m1 → V cc own nL ret R E q ls (aL z :: st) m1) : V cc own nL ret R E pc ls (b4 :: b3 :: b2 :: b1 :: b0 :: aR pr :: st) mem :=
  v_callV (as := [b0, b1, b2, b3, b4]) hd hl0 hm hR hk hw hwc hcs rfl rfl hcat hc (fun r m1 hp => by obtain ⟨z, rfl, hp⟩ := hp; rw [hq, if_neg (by intro h; cases h)]; exact k z m1 hp)
theorem v_cVV5 {M : Mt} {x : Nat} {b0 b1 b2 b3 b4 : AV} {pr cl : Nat} {w : vw_C} {Post : Mem → Prop} (hd : decode cc pc = .ok (.invokevirtual x, 3)) (hl0 : Cond.methodLink own x M.1 ∈ gw) (hm : mdV M 5) (hR : M.2.2.2.2.1 + 1 ≤ R.frames ∧ 8 + (M.2.2.1 + 11) + M.2.2.2.2.2 ≤ R.locals) (hk : kd pr = (5, cl)) (hw : vwCl[cl]? = some w) (hwc : w.1 = M.1.cls) (hcs : E.2.1.1 ≤ R.cells ∧ E.2.1.2 ≤ R.slots) (hcat : (st.map ctg).sum ≤ 8) (hq : pc + 3 = q) (hc : CtrV M (aR pr :: [b0, b1, b2, b3, b4]) mem Post) (k : ∀ m1, Post m1 → V cc own nL ret R E q ls st m1) : V cc own nL ret R E pc ls (b4 :: b3 :: b2 :: b1 :: b0 :: aR pr :: st) mem :=
  v_callV (as := [b0, b1, b2, b3, b4]) hd hl0 hm hR hk hw hwc hcs rfl rfl hcat hc (fun r m1 hp => by obtain ⟨rfl, hp⟩ := hp; rw [hq]; exact k m1 hp)
theorem v_cVI6 {M : Mt} {x : Nat} {b0 b1 b2 b3 b4 b5 : AV} {pr cl : Nat} {w : vw_C} {Post : Int → Mem → Prop} (hd : decode cc pc = .ok (.invokevirtual x, 3)) (hl0 : Cond.methodLink own x M.1 ∈ gw) (hm : mdV M 6) (hR : M.2.2.2.2.1 + 1 ≤ R.frames ∧ 8 + (M.2.2.1 + 11) + M.2.2.2.2.2 ≤ R.locals) (hk : kd pr = (5, cl)) (hw : vwCl[cl]? = some w) (hwc : w.1 = M.1.cls) (hcs : E.2.1.1 ≤ R.cells ∧ E.2.1.2 ≤ R.slots) (hcat : (st.map ctg).sum ≤ 8) (hq : pc + 3 = q) (hc : CtrI M (aR pr :: [b0, b1, b2, b3, b4, b5]) mem Post) (k : ∀ z m1, Post z m1 → V cc own nL ret R E q ls (aI z :: st) m1) : V cc own nL ret R E pc ls (b5 :: b4 :: b3 :: b2 :: b1 :: b0 :: aR pr :: st) mem :=
  v_callV (as := [b0, b1, b2, b3, b4, b5]) hd hl0 hm hR hk hw hwc hcs rfl rfl hcat hc (fun r m1 hp => by obtain ⟨z, rfl, hp⟩ := hp; rw [hq, if_neg (by intro h; cases h)]; exact k z m1 hp)
theorem v_cVL6 {M : Mt} {x : Nat} {b0 b1 b2 b3 b4 b5 : AV} {pr cl : Nat} {w : vw_C} {Post : Int → Mem → Prop} (hd : decode cc pc = .ok (.invokevirtual x, 3)) (hl0 : Cond.methodLink own x M.1 ∈ gw) (hm : mdV M 6) (hR : M.2.2.2.2.1 + 1 ≤ R.frames ∧ 8 + (M.2.2.1 + 11) + M.2.2.2.2.2 ≤ R.locals) (hk : kd pr = (5, cl)) (hw : vwCl[cl]? = some w) (hwc : w.1 = M.1.cls) (hcs : E.2.1.1 ≤ R.cells ∧ E.2.1.2 ≤ R.slots) (hcat : (st.map ctg).sum ≤ 8) (hq : pc + 3 = q) (hc : CtrL M (aR pr :: [b0, b1, b2, b3, b4, b5]) mem Post) (k : ∀ z m1, Post z m1 → V cc own nL ret R E q ls (aL z :: st) m1) : V cc own nL ret R E pc ls (b5 :: b4 :: b3 :: b2 :: b1 :: b0 :: aR pr :: st) mem :=
  v_callV (as := [b0, b1, b2, b3, b4, b5]) hd hl0 hm hR hk hw hwc hcs rfl rfl hcat hc (fun r m1 hp => by obtain ⟨z, rfl, hp⟩ := hp; rw [hq, if_neg (by intro h; cases h)]; exact k z m1 hp)
theorem v_cVV6 {M : Mt} {x : Nat} {b0 b1 b2 b3 b4 b5 : AV} {pr cl : Nat} {w : vw_C} {Post : Mem → Prop} (hd : decode cc pc = .ok (.invokevirtual x, 3)) (hl0 : Cond.methodLink own x M.1 ∈ gw) (hm : mdV M 6) (hR : M.2.2.2.2.1 + 1 ≤ R.frames ∧ 8 + (M.2.2.1 + 11) + M.2.2.2.2.2 ≤ R.locals) (hk : kd pr = (5, cl)) (hw : vwCl[cl]? = some w) (hwc : w.1 = M.1.cls) (hcs : E.2.1.1 ≤ R.cells ∧ E.2.1.2 ≤ R.slots) (hcat : (st.map ctg).sum ≤ 8) (hq : pc + 3 = q) (hc : CtrV M (aR pr :: [b0, b1, b2, b3, b4, b5]) mem Post) (k : ∀ m1, Post m1 → V cc own nL ret R E q ls st m1) : V cc own nL ret R E pc ls (b5 :: b4 :: b3 :: b2 :: b1 :: b0 :: aR pr :: st) mem :=
  v_callV (as := [b0, b1, b2, b3, b4, b5]) hd hl0 hm hR hk hw hwc hcs rfl rfl hcat hc (fun r m1 hp => by obtain ⟨rfl, hp⟩ := hp; rw [hq]; exact k m1 hp)
theorem v_cSI1 {M : Mt} {x : Nat} {b0 : AV} {Post : Int → Mem → Prop} (hd : decode cc pc = .ok (.invokestatic x, 3)) (hl0 : Cond.methodLink own x M.1 ∈ gw) (hm : mdS M 1) (hR : M.2.2.2.2.1 + 1 ≤ R.frames ∧ 8 + (M.2.2.1 + 11) + M.2.2.2.2.2 ≤ R.locals) (hcs : E.2.1.1 ≤ R.cells ∧ E.2.1.2 ≤ R.slots) (hcat : (st.map ctg).sum ≤ 8) (hq : pc + 3 = q) (hc : CtrI M [b0] mem Post) (k : ∀ z m1, Post z m1 → V cc own nL ret R E q ls (aI z :: st) m1) : V cc own nL ret R E pc ls (b0 :: st) mem :=
  v_callS (as := [b0]) hd hl0 hm hR hcs rfl rfl hcat hc (fun r m1 hp => by obtain ⟨z, rfl, hp⟩ := hp; rw [hq, if_neg (by intro h; cases h)]; exact k z m1 hp)
theorem v_cSL1 {M : Mt} {x : Nat} {b0 : AV} {Post : Int → Mem → Prop} (hd : decode cc pc = .ok (.invokestatic x, 3)) (hl0 : Cond.methodLink own x M.1 ∈ gw) (hm : mdS M 1) (hR : M.2.2.2.2.1 + 1 ≤ R.frames ∧ 8 + (M.2.2.1 + 11) + M.2.2.2.2.2 ≤ R.locals) (hcs : E.2.1.1 ≤ R.cells ∧ E.2.1.2 ≤ R.slots) (hcat : (st.map ctg).sum ≤ 8) (hq : pc + 3 = q) (hc : CtrL M [b0] mem Post) (k : ∀ z m1, Post z m1 → V cc own nL ret R E q ls (aL z :: st) m1) : V cc own nL ret R E pc ls (b0 :: st) mem :=
  v_callS (as := [b0]) hd hl0 hm hR hcs rfl rfl hcat hc (fun r m1 hp => by obtain ⟨z, rfl, hp⟩ := hp; rw [hq, if_neg (by intro h; cases h)]; exact k z m1 hp)
theorem v_cSV1 {M : Mt} {x : Nat} {b0 : AV} {Post : Mem → Prop} (hd : decode cc pc = .ok (.invokestatic x, 3)) (hl0 : Cond.methodLink own x M.1 ∈ gw) (hm : mdS M 1) (hR : M.2.2.2.2.1 + 1 ≤ R.frames ∧ 8 + (M.2.2.1 + 11) + M.2.2.2.2.2 ≤ R.locals) (hcs : E.2.1.1 ≤ R.cells ∧ E.2.1.2 ≤ R.slots) (hcat : (st.map ctg).sum ≤ 8) (hq : pc + 3 = q) (hc : CtrV M [b0] mem Post) (k : ∀ m1, Post m1 → V cc own nL ret R E q ls st m1) : V cc own nL ret R E pc ls (b0 :: st) mem :=
  v_callS (as := [b0]) hd hl0 hm hR hcs rfl rfl hcat hc (fun r m1 hp => by obtain ⟨rfl, hp⟩ := hp; rw [hq]; exact k m1 hp)
theorem v_cSI2 {M : Mt} {x : Nat} {b0 b1 : AV} {Post : Int → Mem → Prop} (hd : decode cc pc = .ok (.invokestatic x, 3)) (hl0 : Cond.methodLink own x M.1 ∈ gw) (hm : mdS M 2) (hR : M.2.2.2.2.1 + 1 ≤ R.frames ∧ 8 + (M.2.2.1 + 11) + M.2.2.2.2.2 ≤ R.locals) (hcs : E.2.1.1 ≤ R.cells ∧ E.2.1.2 ≤ R.slots) (hcat : (st.map ctg).sum ≤ 8) (hq : pc + 3 = q) (hc : CtrI M [b0, b1] mem Post) (k : ∀ z m1, Post z m1 → V cc own nL ret R E q ls (aI z :: st) m1) : V cc own nL ret R E pc ls (b1 :: b0 :: st) mem :=
  v_callS (as := [b0, b1]) hd hl0 hm hR hcs rfl rfl hcat hc (fun r m1 hp => by obtain ⟨z, rfl, hp⟩ := hp; rw [hq, if_neg (by intro h; cases h)]; exact k z m1 hp)
theorem v_cSL2 {M : Mt} {x : Nat} {b0 b1 : AV} {Post : Int → Mem → Prop} (hd : decode cc pc = .ok (.invokestatic x, 3)) (hl0 : Cond.methodLink own x M.1 ∈ gw) (hm : mdS M 2) (hR : M.2.2.2.2.1 + 1 ≤ R.frames ∧ 8 + (M.2.2.1 + 11) + M.2.2.2.2.2 ≤ R.locals) (hcs : E.2.1.1 ≤ R.cells ∧ E.2.1.2 ≤ R.slots) (hcat : (st.map ctg).sum ≤ 8) (hq : pc + 3 = q) (hc : CtrL M [b0, b1] mem Post) (k : ∀ z m1, Post z m1 → V cc own nL ret R E q ls (aL z :: st) m1) : V cc own nL ret R E pc ls (b1 :: b0 :: st) mem :=
  v_callS (as := [b0, b1]) hd hl0 hm hR hcs rfl rfl hcat hc (fun r m1 hp => by obtain ⟨z, rfl, hp⟩ := hp; rw [hq, if_neg (by intro h; cases h)]; exact k z m1 hp)
theorem v_cSV2 {M : Mt} {x : Nat} {b0 b1 : AV} {Post : Mem → Prop} (hd : decode cc pc = .ok (.invokestatic x, 3)) (hl0 : Cond.methodLink own x M.1 ∈ gw) (hm : mdS M 2) (hR : M.2.2.2.2.1 + 1 ≤ R.frames ∧ 8 + (M.2.2.1 + 11) + M.2.2.2.2.2 ≤ R.locals) (hcs : E.2.1.1 ≤ R.cells ∧ E.2.1.2 ≤ R.slots) (hcat : (st.map ctg).sum ≤ 8) (hq : pc + 3 = q) (hc : CtrV M [b0, b1] mem Post) (k : ∀ m1, Post m1 → V cc own nL ret R E q ls st m1) : V cc own nL ret R E pc ls (b1 :: b0 :: st) mem :=
  v_callS (as := [b0, b1]) hd hl0 hm hR hcs rfl rfl hcat hc (fun r m1 hp => by obtain ⟨rfl, hp⟩ := hp; rw [hq]; exact k m1 hp)
theorem v_cSI3 {M : Mt} {x : Nat} {b0 b1 b2 : AV} {Post : Int → Mem → Prop} (hd : decode cc pc = .ok (.invokestatic x, 3)) (hl0 : Cond.methodLink own x M.1 ∈ gw) (hm : mdS M 3) (hR : M.2.2.2.2.1 + 1 ≤ R.frames ∧ 8 + (M.2.2.1 + 11) + M.2.2.2.2.2 ≤ R.locals) (hcs : E.2.1.1 ≤ R.cells ∧ E.2.1.2 ≤ R.slots) (hcat : (st.map ctg).sum ≤ 8) (hq : pc + 3 = q) (hc : CtrI M [b0, b1, b2] mem Post) (k : ∀ z m1, Post z m1 → V cc own nL ret R E q ls (aI z :: st) m1) : V cc own nL ret R E pc ls (b2 :: b1 :: b0 :: st) mem :=
  v_callS (as := [b0, b1, b2]) hd hl0 hm hR hcs rfl rfl hcat hc (fun r m1 hp => by obtain ⟨z, rfl, hp⟩ := hp; rw [hq, if_neg (by intro h; cases h)]; exact k z m1 hp)
theorem v_cSL3 {M : Mt} {x : Nat} {b0 b1 b2 : AV} {Post : Int → Mem → Prop} (hd : decode cc pc = .ok (.invokestatic x, 3)) (hl0 : Cond.methodLink own x M.1 ∈ gw) (hm : mdS M 3) (hR : M.2.2.2.2.1 + 1 ≤ R.frames ∧ 8 + (M.2.2.1 + 11) + M.2.2.2.2.2 ≤ R.locals) (hcs : E.2.1.1 ≤ R.cells ∧ E.2.1.2 ≤ R.slots) (hcat : (st.map ctg).sum ≤ 8) (hq : pc + 3 = q) (hc : CtrL M [b0, b1, b2] mem Post) (k : ∀ z m1, Post z m1 → V cc own nL ret R E q ls (aL z :: st) m1) : V cc own nL ret R E pc ls (b2 :: b1 :: b0 :: st) mem :=
  v_callS (as := [b0, b1, b2]) hd hl0 hm hR hcs rfl rfl hcat hc (fun r m1 hp => by obtain ⟨z, rfl, hp⟩ := hp; rw [hq, if_neg (by intro h; cases h)]; exact k z m1 hp)
theorem v_cSV3 {M : Mt} {x : Nat} {b0 b1 b2 : AV} {Post : Mem → Prop} (hd : decode cc pc = .ok (.invokestatic x, 3)) (hl0 : Cond.methodLink own x M.1 ∈ gw) (hm : mdS M 3) (hR : M.2.2.2.2.1 + 1 ≤ R.frames ∧ 8 + (M.2.2.1 + 11) + M.2.2.2.2.2 ≤ R.locals) (hcs : E.2.1.1 ≤ R.cells ∧ E.2.1.2 ≤ R.slots) (hcat : (st.map ctg).sum ≤ 8) (hq : pc + 3 = q) (hc : CtrV M [b0, b1, b2] mem Post) (k : ∀ m1, Post m1 → V cc own nL ret R E q ls st m1) : V cc own nL ret R E pc ls (b2 :: b1 :: b0 :: st) mem :=
  v_callS (as := [b0, b1, b2]) hd hl0 hm hR hcs rfl rfl hcat hc (fun r m1 hp => by obtain ⟨rfl, hp⟩ := hp; rw [hq]; exact k m1 hp)
theorem v_cSI4 {M : Mt} {x : Nat} {b0 b1 b2 b3 : AV} {Post : Int → Mem → Prop} (hd : decode cc pc = .ok (.invokestatic x, 3)) (hl0 : Cond.methodLink own x M.1 ∈ gw) (hm : mdS M 4) (hR : M.2.2.2.2.1 + 1 ≤ R.frames ∧ 8 + (M.2.2.1 + 11) + M.2.2.2.2.2 ≤ R.locals) (hcs : E.2.1.1 ≤ R.cells ∧ E.2.1.2 ≤ R.slots) (hcat : (st.map ctg).sum ≤ 8) (hq : pc + 3 = q) (hc : CtrI M [b0, b1, b2, b3] mem Post) (k : ∀ z m1, Post z m1 → V cc own nL ret R E q ls (aI z :: st) m1) : V cc own nL ret R E pc ls (b3 :: b2 :: b1 :: b0 :: st) mem :=
  v_callS (as := [b0, b1, b2, b3]) hd hl0 hm hR hcs rfl rfl hcat hc (fun r m1 hp => by obtain ⟨z, rfl, hp⟩ := hp; rw [hq, if_neg (by intro h; cases h)]; exact k z m1 hp)
theorem v_cSL4 {M : Mt} {x : Nat} {b0 b1 b2 b3 : AV} {Post : Int → Mem → Prop} (hd : decode cc pc = .ok (.invokestatic x, 3)) (hl0 : Cond.methodLink own x M.1 ∈ gw) (hm : mdS M 4) (hR : M.2.2.2.2.1 + 1 ≤ R.frames ∧ 8 + (M.2.2.1 + 11) + M.2.2.2.2.2 ≤ R.locals) (hcs : E.2.1.1 ≤ R.cells ∧ E.2.1.2 ≤ R.slots) (hcat : (st.map ctg).sum ≤ 8) (hq : pc + 3 = q) (hc : CtrL M [b0, b1, b2, b3] mem Post) (k : ∀ z m1, Post z m1 → V cc own nL ret R E q ls (aL z :: st) m1) : V cc own nL ret R E pc ls (b3 :: b2 :: b1 :: b0 :: st) mem :=
  v_callS (as := [b0, b1, b2, b3]) hd hl0 hm hR hcs rfl rfl hcat hc (fun r m1 hp => by obtain ⟨z, rfl, hp⟩ := hp; rw [hq, if_neg (by intro h; cases h)]; exact k z m1 hp)
theorem v_cSV4 {M : Mt} {x : Nat} {b0 b1 b2 b3 : AV} {Post : Mem → Prop} (hd : decode cc pc = .ok (.invokestatic x, 3)) (hl0 : Cond.methodLink own x M.1 ∈ gw) (hm : mdS M 4) (hR : M.2.2.2.2.1 + 1 ≤ R.frames ∧ 8 + (M.2.2.1 + 11) + M.2.2.2.2.2 ≤ R.locals) (hcs : E.2.1.1 ≤ R.cells ∧ E.2.1.2 ≤ R.slots) (hcat : (st.map ctg).sum ≤ 8) (hq : pc + 3 = q) (hc : CtrV M [b0, b1, b2, b3] mem Post) (k : ∀ m1, Post m1 → V cc own nL ret R E q ls st m1) : V cc own nL ret R E pc ls (b3 :: b2 :: b1 :: b0 :: st) mem :=
  v_callS (as := [b0, b1, b2, b3]) hd hl0 hm hR hcs rfl rfl hcat hc (fun r m1 hp => by obtain ⟨rfl, hp⟩ := hp; rw [hq]; exact k m1 hp)
theorem v_cSI5 {M : Mt} {x : Nat} {b0 b1 b2 b3 b4 : AV} {Post : Int → Mem → Prop} (hd : decode cc pc = .ok (.invokestatic x, 3)) (hl0 : Cond.methodLink own x M.1 ∈ gw) (hm : mdS M 5) (hR : M.2.2.2.2.1 + 1 ≤ R.frames ∧ 8 + (M.2.2.1 + 11) + M.2.2.2.2.2 ≤ R.locals) (hcs : E.2.1.1 ≤ R.cells ∧ E.2.1.2 ≤ R.slots) (hcat : (st.map ctg).sum ≤ 8) (hq : pc + 3 = q) (hc : CtrI M [b0, b1, b2, b3, b4] mem Post) (k : ∀ z m1, Post z m1 → V cc own nL ret R E q ls (aI z :: st) m1) : V cc own nL ret R E pc ls (b4 :: b3 :: b2 :: b1 :: b0 :: st) mem :=
  v_callS (as := [b0, b1, b2, b3, b4]) hd hl0 hm hR hcs rfl rfl hcat hc (fun r m1 hp => by obtain ⟨z, rfl, hp⟩ := hp; rw [hq, if_neg (by intro h; cases h)]; exact k z m1 hp)
theorem v_cSL5 {M : Mt} {x : Nat} {b0 b1 b2 b3 b4 : AV} {Post : Int → Mem → Prop} (hd : decode cc pc = .ok (.invokestatic x, 3)) (hl0 : Cond.methodLink own x M.1 ∈ gw) (hm : mdS M 5) (hR : M.2.2.2.2.1 + 1 ≤ R.frames ∧ 8 + (M.2.2.1 + 11) + M.2.2.2.2.2 ≤ R.locals) (hcs : E.2.1.1 ≤ R.cells ∧ E.2.1.2 ≤ R.slots) (hcat : (st.map ctg).sum ≤ 8) (hq : pc + 3 = q) (hc : CtrL M [b0, b1, b2, b3, b4] mem Post) (k : ∀ z m1, Post z m1 → V cc own nL ret R E q ls (aL z :: st) m1) : V cc own nL ret R E pc ls (b4 :: b3 :: b2 :: b1 :: b0 :: st) mem :=
  v_callS (as := [b0, b1, b2, b3, b4]) hd hl0 hm hR hcs rfl rfl hcat hc (fun r m1 hp => by obtain ⟨z, rfl, hp⟩ := hp; rw [hq, if_neg (by intro h; cases h)]; exact k z m1 hp)
theorem v_cSV5 {M : Mt} {x : Nat} {b0 b1 b2 b3 b4 : AV} {Post : Mem → Prop} (hd : decode cc pc = .ok (.invokestatic x, 3)) (hl0 : Cond.methodLink own x M.1 ∈ gw) (hm : mdS M 5) (hR : M.2.2.2.2.1 + 1 ≤ R.frames ∧ 8 + (M.2.2.1 + 11) + M.2.2.2.2.2 ≤ R.locals) (hcs : E.2.1.1 ≤ R.cells ∧ E.2.1.2 ≤ R.slots) (hcat : (st.map ctg).sum ≤ 8) (hq : pc + 3 = q) (hc : CtrV M [b0, b1, b2, b3, b4] mem Post) (k : ∀ m1, Post m1 → V cc own nL ret R E q ls st m1) : V cc own nL ret R E pc ls (b4 :: b3 :: b2 :: b1 :: b0 :: st) mem :=
  v_callS (as := [b0, b1, b2, b3, b4]) hd hl0 hm hR hcs rfl rfl hcat hc (fun r m1 hp => by obtain ⟨rfl, hp⟩ := hp; rw [hq]; exact k m1 hp)
theorem v_cSI6 {M : Mt} {x : Nat} {b0 b1 b2 b3 b4 b5 : AV} {Post : Int → Mem → Prop} (hd : decode cc pc = .ok (.invokestatic x, 3)) (hl0 : Cond.methodLink own x M.1 ∈ gw) (hm : mdS M 6) (hR : M.2.2.2.2.1 + 1 ≤ R.frames ∧ 8 + (M.2.2.1 + 11) + M.2.2.2.2.2 ≤ R.locals) (hcs : E.2.1.1 ≤ R.cells ∧ E.2.1.2 ≤ R.slots) (hcat : (st.map ctg).sum ≤ 8) (hq : pc + 3 = q) (hc : CtrI M [b0, b1, b2, b3, b4, b5] mem Post) (k : ∀ z m1, Post z m1 → V cc own nL ret R E q ls (aI z :: st) m1) : V cc own nL ret R E pc ls (b5 :: b4 :: b3 :: b2 :: b1 :: b0 :: st) mem :=
  v_callS (as := [b0, b1, b2, b3, b4, b5]) hd hl0 hm hR hcs rfl rfl hcat hc (fun r m1 hp => by obtain ⟨z, rfl, hp⟩ := hp; rw [hq, if_neg (by intro h; cases h)]; exact k z m1 hp)
theorem v_cSL6 {M : Mt} {x : Nat} {b0 b1 b2 b3 b4 b5 : AV} {Post : Int → Mem → Prop} (hd : decode cc pc = .ok (.invokestatic x, 3)) (hl0 : Cond.methodLink own x M.1 ∈ gw) (hm : mdS M 6) (hR : M.2.2.2.2.1 + 1 ≤ R.frames ∧ 8 + (M.2.2.1 + 11) + M.2.2.2.2.2 ≤ R.locals) (hcs : E.2.1.1 ≤ R.cells ∧ E.2.1.2 ≤ R.slots) (hcat : (st.map ctg).sum ≤ 8) (hq : pc + 3 = q) (hc : CtrL M [b0, b1, b2, b3, b4, b5] mem Post) (k : ∀ z m1, Post z m1 → V cc own nL ret R E q ls (aL z :: st) m1) : V cc own nL ret R E pc ls (b5 :: b4 :: b3 :: b2 :: b1 :: b0 :: st) mem :=
  v_callS (as := [b0, b1, b2, b3, b4, b5]) hd hl0 hm hR hcs rfl rfl hcat hc (fun r m1 hp => by obtain ⟨z, rfl, hp⟩ := hp; rw [hq, if_neg (by intro h; cases h)]; exact k z m1 hp)
theorem v_cSV6 {M : Mt} {x : Nat} {b0 b1 b2 b3 b4 b5 : AV} {Post : Mem → Prop} (hd : decode cc pc = .ok (.invokestatic x, 3)) (hl0 : Cond.methodLink own x M.1 ∈ gw) (hm : mdS M 6) (hR : M.2.2.2.2.1 + 1 ≤ R.frames ∧ 8 + (M.2.2.1 + 11) + M.2.2.2.2.2 ≤ R.locals) (hcs : E.2.1.1 ≤ R.cells ∧ E.2.1.2 ≤ R.slots) (hcat : (st.map ctg).sum ≤ 8) (hq : pc + 3 = q) (hc : CtrV M [b0, b1, b2, b3, b4, b5] mem Post) (k : ∀ m1, Post m1 → V cc own nL ret R E q ls st m1) : V cc own nL ret R E pc ls (b5 :: b4 :: b3 :: b2 :: b1 :: b0 :: st) mem :=
  v_callS (as := [b0, b1, b2, b3, b4, b5]) hd hl0 hm hR hcs rfl rfl hcat hc (fun r m1 hp => by obtain ⟨rfl, hp⟩ := hp; rw [hq]; exact k m1 hp)
theorem v_cVNI0 {M : Mt} {x : Nat} {pr cl : Nat} {w : vw_C} {Post : Int → Mem → Prop} (hd : decode cc pc = .ok (.invokevirtual x, 3)) {host : String} (hl0 : Cond.methodLinkNest own x M.1 host ∈ nestL) (hm : mdV M 0) (hR : M.2.2.2.2.1 + 1 ≤ R.frames ∧ 8 + (M.2.2.1 + 11) + M.2.2.2.2.2 ≤ R.locals) (hk : kd pr = (5, cl)) (hw : vwCl[cl]? = some w) (hwc : w.1 = M.1.cls) (hcs : E.2.1.1 ≤ R.cells ∧ E.2.1.2 ≤ R.slots) (hcat : (st.map ctg).sum ≤ 8) (hq : pc + 3 = q) (hc : CtrI M (aR pr :: []) mem Post) (k : ∀ z m1, Post z m1 → V cc own nL ret R E q ls (aI z :: st) m1) : V cc own nL ret R E pc ls (aR pr :: st) mem :=
  v_callVN (as := []) hd hl0 hm hR hk hw hwc hcs rfl rfl hcat hc (fun r m1 hp => by obtain ⟨z, rfl, hp⟩ := hp; rw [hq, if_neg (by intro h; cases h)]; exact k z m1 hp)
theorem v_cVNL0 {M : Mt} {x : Nat} {pr cl : Nat} {w : vw_C} {Post : Int → Mem → Prop} (hd : decode cc pc = .ok (.invokevirtual x, 3)) {host : String} (hl0 : Cond.methodLinkNest own x M.1 host ∈ nestL) (hm : mdV M 0) (hR : M.2.2.2.2.1 + 1 ≤ R.frames ∧ 8 + (M.2.2.1 + 11) + M.2.2.2.2.2 ≤ R.locals) (hk : kd pr = (5, cl)) (hw : vwCl[cl]? = some w) (hwc : w.1 = M.1.cls) (hcs : E.2.1.1 ≤ R.cells ∧ E.2.1.2 ≤ R.slots) (hcat : (st.map ctg).sum ≤ 8) (hq : pc + 3 = q) (hc : CtrL M (aR pr :: []) mem Post) (k : ∀ z m1, Post z m1 → V cc own nL ret R E q ls (aL z :: st) m1) : V cc own nL ret R E pc ls (aR pr :: st) mem :=
  v_callVN (as := []) hd hl0 hm hR hk hw hwc hcs rfl rfl hcat hc (fun r m1 hp => by obtain ⟨z, rfl, hp⟩ := hp; rw [hq, if_neg (by intro h; cases h)]; exact k z m1 hp)
theorem v_cVNV0 {M : Mt} {x : Nat} {pr cl : Nat} {w : vw_C} {Post : Mem → Prop} (hd : decode cc pc = .ok (.invokevirtual x, 3)) {host : String} (hl0 : Cond.methodLinkNest own x M.1 host ∈ nestL) (hm : mdV M 0) (hR : M.2.2.2.2.1 + 1 ≤ R.frames ∧ 8 + (M.2.2.1 + 11) + M.2.2.2.2.2 ≤ R.locals) (hk : kd pr = (5, cl)) (hw : vwCl[cl]? = some w) (hwc : w.1 = M.1.cls) (hcs : E.2.1.1 ≤ R.cells ∧ E.2.1.2 ≤ R.slots) (hcat : (st.map ctg).sum ≤ 8) (hq : pc + 3 = q) (hc : CtrV M (aR pr :: []) mem Post) (k : ∀ m1, Post m1 → V cc own nL ret R E q ls st m1) : V cc own nL ret R E pc ls (aR pr :: st) mem :=
  v_callVN (as := []) hd hl0 hm hR hk hw hwc hcs rfl rfl hcat hc (fun r m1 hp => by obtain ⟨rfl, hp⟩ := hp; rw [hq]; exact k m1 hp)
theorem v_cVNI1 {M : Mt} {x : Nat} {b0 : AV} {pr cl : Nat} {w : vw_C} {Post : Int → Mem → Prop} (hd : decode cc pc = .ok (.invokevirtual x, 3)) {host : String} (hl0 : Cond.methodLinkNest own x M.1 host ∈ nestL) (hm : mdV M 1) (hR : M.2.2.2.2.1 + 1 ≤ R.frames ∧ 8 + (M.2.2.1 + 11) + M.2.2.2.2.2 ≤ R.locals) (hk : kd pr = (5, cl)) (hw : vwCl[cl]? = some w) (hwc : w.1 = M.1.cls) (hcs : E.2.1.1 ≤ R.cells ∧ E.2.1.2 ≤ R.slots) (hcat : (st.map ctg).sum ≤ 8) (hq : pc + 3 = q) (hc : CtrI M (aR pr :: [b0]) mem Post) (k : ∀ z m1, Post z m1 → V cc own nL ret R E q ls (aI z :: st) m1) : V cc own nL ret R E pc ls (b0 :: aR pr :: st) mem :=
  v_callVN (as := [b0]) hd hl0 hm hR hk hw hwc hcs rfl rfl hcat hc (fun r m1 hp => by obtain ⟨z, rfl, hp⟩ := hp; rw [hq, if_neg (by intro h; cases h)]; exact k z m1 hp)
theorem v_cVNL1 {M : Mt} {x : Nat} {b0 : AV} {pr cl : Nat} {w : vw_C} {Post : Int → Mem → Prop} (hd : decode cc pc = .ok (.invokevirtual x, 3)) {host : String} (hl0 : Cond.methodLinkNest own x M.1 host ∈ nestL) (hm : mdV M 1) (hR : M.2.2.2.2.1 + 1 ≤ R.frames ∧ 8 + (M.2.2.1 + 11) + M.2.2.2.2.2 ≤ R.locals) (hk : kd pr = (5, cl)) (hw : vwCl[cl]? = some w) (hwc : w.1 = M.1.cls) (hcs : E.2.1.1 ≤ R.cells ∧ E.2.1.2 ≤ R.slots) (hcat : (st.map ctg).sum ≤ 8) (hq : pc + 3 = q) (hc : CtrL M (aR pr :: [b0]) mem Post) (k : ∀ z m1, Post z m1 → V cc own nL ret R E q ls (aL z :: st) m1) : V cc own nL ret R E pc ls (b0 :: aR pr :: st) mem :=
  v_callVN (as := [b0]) hd hl0 hm hR hk hw hwc hcs rfl rfl hcat hc (fun r m1 hp => by obtain ⟨z, rfl, hp⟩ := hp; rw [hq, if_neg (by intro h; cases h)]; exact k z m1 hp)
theorem v_cVNV1 {M : Mt} {x : Nat} {b0 : AV} {pr cl : Nat} {w : vw_C} {Post : Mem → Prop} (hd : decode cc pc = .ok (.invokevirtual x, 3)) {host : String} (hl0 : Cond.methodLinkNest own x M.1 host ∈ nestL) (hm : mdV M 1) (hR : M.2.2.2.2.1 + 1 ≤ R.frames ∧ 8 + (M.2.2.1 + 11) + M.2.2.2.2.2 ≤ R.locals) (hk : kd pr = (5, cl)) (hw : vwCl[cl]? = some w) (hwc : w.1 = M.1.cls) (hcs : E.2.1.1 ≤ R.cells ∧ E.2.1.2 ≤ R.slots) (hcat : (st.map ctg).sum ≤ 8) (hq : pc + 3 = q) (hc : CtrV M (aR pr :: [b0]) mem Post) (k : ∀ m1, Post m1 → V cc own nL ret R E q ls st m1) : V cc own nL ret R E pc ls (b0 :: aR pr :: st) mem :=
  v_callVN (as := [b0]) hd hl0 hm hR hk hw hwc hcs rfl rfl hcat hc (fun r m1 hp => by obtain ⟨rfl, hp⟩ := hp; rw [hq]; exact k m1 hp)
theorem v_cVNI2 {M : Mt} {x : Nat} {b0 b1 : AV} {pr cl : Nat} {w : vw_C} {Post : Int → Mem → Prop} (hd : decode cc pc = .ok (.invokevirtual x, 3)) {host : String} (hl0 : Cond.methodLinkNest own x M.1 host ∈ nestL) (hm : mdV M 2) (hR : M.2.2.2.2.1 + 1 ≤ R.frames ∧ 8 + (M.2.2.1 + 11) + M.2.2.2.2.2 ≤ R.locals) (hk : kd pr = (5, cl)) (hw : vwCl[cl]? = some w) (hwc : w.1 = M.1.cls) (hcs : E.2.1.1 ≤ R.cells ∧ E.2.1.2 ≤ R.slots) (hcat : (st.map ctg).sum ≤ 8) (hq : pc + 3 = q) (hc : CtrI M (aR pr :: [b0, b1]) mem Post) (k : ∀ z m1, Post z m1 → V cc own nL ret R E q ls (aI z :: st) m1) : V cc own nL ret R E pc ls (b1 :: b0 :: aR pr :: st) mem :=
  v_callVN (as := [b0, b1]) hd hl0 hm hR hk hw hwc hcs rfl rfl hcat hc (fun r m1 hp => by obtain ⟨z, rfl, hp⟩ := hp; rw [hq, if_neg (by intro h; cases h)]; exact k z m1 hp)
theorem v_cVNL2 {M : Mt} {x : Nat} {b0 b1 : AV} {pr cl : Nat} {w : vw_C} {Post : Int → Mem → Prop} (hd : decode cc pc = .ok (.invokevirtual x, 3)) {host : String} (hl0 : Cond.methodLinkNest own x M.1 host ∈ nestL) (hm : mdV M 2) (hR : M.2.2.2.2.1 + 1 ≤ R.frames ∧ 8 + (M.2.2.1 + 11) + M.2.2.2.2.2 ≤ R.locals) (hk : kd pr = (5, cl)) (hw : vwCl[cl]? = some w) (hwc : w.1 = M.1.cls) (hcs : E.2.1.1 ≤ R.cells ∧ E.2.1.2 ≤ R.slots) (hcat : (st.map ctg).sum ≤ 8) (hq : pc + 3 = q) (hc : CtrL M (aR pr :: [b0, b1]) mem Post) (k : ∀ z m1, Post z m1 → V cc own nL ret R E q ls (aL z :: st) m1) : V cc own nL ret R E pc ls (b1 :: b0 :: aR pr :: st) mem :=
  v_callVN (as := [b0, b1]) hd hl0 hm hR hk hw hwc hcs rfl rfl hcat hc (fun r m1 hp => by obtain ⟨z, rfl, hp⟩ := hp; rw [hq, if_neg (by intro h; cases h)]; exact k z m1 hp)
theorem v_cVNF2 {M : Mt} {x : Nat} {b0 b1 : AV} {pr cl : Nat} {w : vw_C} {Post : UInt32 → Mem → Prop} (hd : decode cc pc = .ok (.invokevirtual x, 3)) {host : String} (hl0 : Cond.methodLinkNest own x M.1 host ∈ nestL) (hm : mdV M 2) (hR : M.2.2.2.2.1 + 1 ≤ R.frames ∧ 8 + (M.2.2.1 + 11) + M.2.2.2.2.2 ≤ R.locals) (hk : kd pr = (5, cl)) (hw : vwCl[cl]? = some w) (hwc : w.1 = M.1.cls) (hcs : E.2.1.1 ≤ R.cells ∧ E.2.1.2 ≤ R.slots) (hcat : (st.map ctg).sum ≤ 8) (hq : pc + 3 = q) (hc : CtrF M (aR pr :: [b0, b1]) mem Post) (k : ∀ z m1, Post z m1 → V cc own nL ret R E q ls (aF z :: st) m1) : V cc own nL ret R E pc ls (b1 :: b0 :: aR pr :: st) mem :=
  v_callVN (as := [b0, b1]) hd hl0 hm hR hk hw hwc hcs rfl rfl hcat hc (fun r m1 hp => by obtain ⟨z, rfl, hp⟩ := hp; rw [hq, if_neg (by intro h; cases h)]; exact k z m1 hp)
theorem v_cVNV2 {M : Mt} {x : Nat} {b0 b1 : AV} {pr cl : Nat} {w : vw_C} {Post : Mem → Prop} (hd : decode cc pc = .ok (.invokevirtual x, 3)) {host : String} (hl0 : Cond.methodLinkNest own x M.1 host ∈ nestL) (hm : mdV M 2) (hR : M.2.2.2.2.1 + 1 ≤ R.frames ∧ 8 + (M.2.2.1 + 11) + M.2.2.2.2.2 ≤ R.locals) (hk : kd pr = (5, cl)) (hw : vwCl[cl]? = some w) (hwc : w.1 = M.1.cls) (hcs : E.2.1.1 ≤ R.cells ∧ E.2.1.2 ≤ R.slots) (hcat : (st.map ctg).sum ≤ 8) (hq : pc + 3 = q) (hc : CtrV M (aR pr :: [b0, b1]) mem Post) (k : ∀ m1, Post m1 → V cc own nL ret R E q ls st m1) : V cc own nL ret R E pc ls (b1 :: b0 :: aR pr :: st) mem :=
  v_callVN (as := [b0, b1]) hd hl0 hm hR hk hw hwc hcs rfl rfl hcat hc (fun r m1 hp => by obtain ⟨rfl, hp⟩ := hp; rw [hq]; exact k m1 hp)
theorem v_cVNI3 {M : Mt} {x : Nat} {b0 b1 b2 : AV} {pr cl : Nat} {w : vw_C} {Post : Int → Mem → Prop} (hd : decode cc pc = .ok (.invokevirtual x, 3)) {host : String} (hl0 : Cond.methodLinkNest own x M.1 host ∈ nestL) (hm : mdV M 3) (hR : M.2.2.2.2.1 + 1 ≤ R.frames ∧ 8 + (M.2.2.1 + 11) + M.2.2.2.2.2 ≤ R.locals) (hk : kd pr = (5, cl)) (hw : vwCl[cl]? = some w) (hwc : w.1 = M.1.cls) (hcs : E.2.1.1 ≤ R.cells ∧ E.2.1.2 ≤ R.slots) (hcat : (st.map ctg).sum ≤ 8) (hq : pc + 3 = q) (hc : CtrI M (aR pr :: [b0, b1, b2]) mem Post) (k : ∀ z m1, Post z m1 → V cc own nL ret R E q ls (aI z :: st) m1) : V cc own nL ret R E pc ls (b2 :: b1 :: b0 :: aR pr :: st) mem :=
  v_callVN (as := [b0, b1, b2]) hd hl0 hm hR hk hw hwc hcs rfl rfl hcat hc (fun r m1 hp => by obtain ⟨z, rfl, hp⟩ := hp; rw [hq, if_neg (by intro h; cases h)]; exact k z m1 hp)
theorem v_cVNL3 {M : Mt} {x : Nat} {b0 b1 b2 : AV} {pr cl : Nat} {w : vw_C} {Post : Int → Mem → Prop} (hd : decode cc pc = .ok (.invokevirtual x, 3)) {host : String} (hl0 : Cond.methodLinkNest own x M.1 host ∈ nestL) (hm : mdV M 3) (hR : M.2.2.2.2.1 + 1 ≤ R.frames ∧ 8 + (M.2.2.1 + 11) + M.2.2.2.2.2 ≤ R.locals) (hk : kd pr = (5, cl)) (hw : vwCl[cl]? = some w) (hwc : w.1 = M.1.cls) (hcs : E.2.1.1 ≤ R.cells ∧ E.2.1.2 ≤ R.slots) (hcat : (st.map ctg).sum ≤ 8) (hq : pc + 3 = q) (hc : CtrL M (aR pr :: [b0, b1, b2]) mem Post) (k : ∀ z m1, Post z m1 → V cc own nL ret R E q ls (aL z :: st) m1) : V cc own nL ret R E pc ls (b2 :: b1 :: b0 :: aR pr :: st) mem :=
  v_callVN (as := [b0, b1, b2]) hd hl0 hm hR hk hw hwc hcs rfl rfl hcat hc (fun r m1 hp => by obtain ⟨z, rfl, hp⟩ := hp; rw [hq, if_neg (by intro h; cases h)]; exact k z m1 hp)
theorem v_cVNV3 {M : Mt} {x : Nat} {b0 b1 b2 : AV} {pr cl : Nat} {w : vw_C} {Post : Mem → Prop} (hd : decode cc pc = .ok (.invokevirtual x, 3)) {host : String} (hl0 : Cond.methodLinkNest own x M.1 host ∈ nestL) (hm : mdV M 3) (hR : M.2.2.2.2.1 + 1 ≤ R.frames ∧ 8 + (M.2.2.1 + 11) + M.2.2.2.2.2 ≤ R.locals) (hk : kd pr = (5, cl)) (hw : vwCl[cl]? = some w) (hwc : w.1 = M.1.cls) (hcs : E.2.1.1 ≤ R.cells ∧ E.2.1.2 ≤ R.slots) (hcat : (st.map ctg).sum ≤ 8) (hq : pc + 3 = q) (hc : CtrV M (aR pr :: [b0, b1, b2]) mem Post) (k : ∀ m1, Post m1 → V cc own nL ret R E q ls st m1) : V cc own nL ret R E pc ls (b2 :: b1 :: b0 :: aR pr :: st) mem :=
  v_callVN (as := [b0, b1, b2]) hd hl0 hm hR hk hw hwc hcs rfl rfl hcat hc (fun r m1 hp => by obtain ⟨rfl, hp⟩ := hp; rw [hq]; exact k m1 hp)
theorem v_cVNI4 {M : Mt} {x : Nat} {b0 b1 b2 b3 : AV} {pr cl : Nat} {w : vw_C} {Post : Int → Mem → Prop} (hd : decode cc pc = .ok (.invokevirtual x, 3)) {host : String} (hl0 : Cond.methodLinkNest own x M.1 host ∈ nestL) (hm : mdV M 4) (hR : M.2.2.2.2.1 + 1 ≤ R.frames ∧ 8 + (M.2.2.1 + 11) + M.2.2.2.2.2 ≤ R.locals) (hk : kd pr = (5, cl)) (hw : vwCl[cl]? = some w) (hwc : w.1 = M.1.cls) (hcs : E.2.1.1 ≤ R.cells ∧ E.2.1.2 ≤ R.slots) (hcat : (st.map ctg).sum ≤ 8) (hq : pc + 3 = q) (hc : CtrI M (aR pr :: [b0, b1, b2, b3]) mem Post) (k : ∀ z m1, Post z m1 → V cc own nL ret R E q ls (aI z :: st) m1) : V cc own nL ret R E pc ls (b3 :: b2 :: b1 :: b0 :: aR pr :: st) mem :=
  v_callVN (as := [b0, b1, b2, b3]) hd hl0 hm hR hk hw hwc hcs rfl rfl hcat hc (fun r m1 hp => by obtain ⟨z, rfl, hp⟩ := hp; rw [hq, if_neg (by intro h; cases h)]; exact k z m1 hp)
theorem v_cVNL4 {M : Mt} {x : Nat} {b0 b1 b2 b3 : AV} {pr cl : Nat} {w : vw_C} {Post : Int → Mem → Prop} (hd : decode cc pc = .ok (.invokevirtual x, 3)) {host : String} (hl0 : Cond.methodLinkNest own x M.1 host ∈ nestL) (hm : mdV M 4) (hR : M.2.2.2.2.1 + 1 ≤ R.frames ∧ 8 + (M.2.2.1 + 11) + M.2.2.2.2.2 ≤ R.locals) (hk : kd pr = (5, cl)) (hw : vwCl[cl]? = some w) (hwc : w.1 = M.1.cls) (hcs : E.2.1.1 ≤ R.cells ∧ E.2.1.2 ≤ R.slots) (hcat : (st.map ctg).sum ≤ 8) (hq : pc + 3 = q) (hc : CtrL M (aR pr :: [b0, b1, b2, b3]) mem Post) (k : ∀ z m1, Post z m1 → V cc own nL ret R E q ls (aL z :: st) m1) : V cc own nL ret R E pc ls (b3 :: b2 :: b1 :: b0 :: aR pr :: st) mem :=
  v_callVN (as := [b0, b1, b2, b3]) hd hl0 hm hR hk hw hwc hcs rfl rfl hcat hc (fun r m1 hp => by obtain ⟨z, rfl, hp⟩ := hp; rw [hq, if_neg (by intro h; cases h)]; exact k z m1 hp)
theorem v_cVNV4 {M : Mt} {x : Nat} {b0 b1 b2 b3 : AV} {pr cl : Nat} {w : vw_C} {Post : Mem → Prop} (hd : decode cc pc = .ok (.invokevirtual x, 3)) {host : String} (hl0 : Cond.methodLinkNest own x M.1 host ∈ nestL) (hm : mdV M 4) (hR : M.2.2.2.2.1 + 1 ≤ R.frames ∧ 8 + (M.2.2.1 + 11) + M.2.2.2.2.2 ≤ R.locals) (hk : kd pr = (5, cl)) (hw : vwCl[cl]? = some w) (hwc : w.1 = M.1.cls) (hcs : E.2.1.1 ≤ R.cells ∧ E.2.1.2 ≤ R.slots) (hcat : (st.map ctg).sum ≤ 8) (hq : pc + 3 = q) (hc : CtrV M (aR pr :: [b0, b1, b2, b3]) mem Post) (k : ∀ m1, Post m1 → V cc own nL ret R E q ls st m1) : V cc own nL ret R E pc ls (b3 :: b2 :: b1 :: b0 :: aR pr :: st) mem :=
  v_callVN (as := [b0, b1, b2, b3]) hd hl0 hm hR hk hw hwc hcs rfl rfl hcat hc (fun r m1 hp => by obtain ⟨rfl, hp⟩ := hp; rw [hq]; exact k m1 hp)
theorem v_cVNI5 {M : Mt} {x : Nat} {b0 b1 b2 b3 b4 : AV} {pr cl : Nat} {w : vw_C} {Post : Int → Mem → Prop} (hd : decode cc pc = .ok (.invokevirtual x, 3)) {host : String} (hl0 : Cond.methodLinkNest own x M.1 host ∈ nestL) (hm : mdV M 5) (hR : M.2.2.2.2.1 + 1 ≤ R.frames ∧ 8 + (M.2.2.1 + 11) + M.2.2.2.2.2 ≤ R.locals) (hk : kd pr = (5, cl)) (hw : vwCl[cl]? = some w) (hwc : w.1 = M.1.cls) (hcs : E.2.1.1 ≤ R.cells ∧ E.2.1.2 ≤ R.slots) (hcat : (st.map ctg).sum ≤ 8) (hq : pc + 3 = q) (hc : CtrI M (aR pr :: [b0, b1, b2, b3, b4]) mem Post) (k : ∀ z m1, Post z m1 → V cc own nL ret R E q ls (aI z :: st) m1) : V cc own nL ret R E pc ls (b4 :: b3 :: b2 :: b1 :: b0 :: aR pr :: st) mem :=
  v_callVN (as := [b0, b1, b2, b3, b4]) hd hl0 hm hR hk hw hwc hcs rfl rfl hcat hc (fun r m1 hp => by obtain ⟨z, rfl, hp⟩ := hp; rw [hq, if_neg (by intro h; cases h)]; exact k z m1 hp)
theorem v_cVNL5 {M : Mt} {x : Nat} {b0 b1 b2 b3 b4 : AV} {pr cl : Nat} {w : vw_C} {Post : Int → Mem → Prop} (hd : decode cc pc = .ok (.invokevirtual x, 3)) {host : String} (hl0 : Cond.methodLinkNest own x M.1 host ∈ nestL) (hm : mdV M 5) (hR : M.2.2.2.2.1 + 1 ≤ R.frames ∧ 8 + (M.2.2.1 + 11) + M.2.2.2.2.2 ≤ R.locals) (hk : kd pr = (5, cl)) (hw : vwCl[cl]? = some w) (hwc : w.1 = M.1.cls) (hcs : E.2.1.1 ≤ R.cells ∧ E.2.1.2 ≤ R.slots) (hcat : (st.map ctg).sum ≤ 8) (hq : pc + 3 = q) (hc : CtrL M (aR pr :: [b0, b1, b2, b3, b4]) mem Post) (k : ∀ z m1, Post z m1 → V cc own nL ret R E q ls (aL z :: st) m1) : V cc own nL ret R E pc ls (b4 :: b3 :: b2 :: b1 :: b0 :: aR pr :: st) mem :=
  v_callVN (as := [b0, b1, b2, b3, b4]) hd hl0 hm hR hk hw hwc hcs rfl rfl hcat hc (fun r m1 hp => by obtain ⟨z, rfl, hp⟩ := hp; rw [hq, if_neg (by intro h; cases h)]; exact k z m1 hp)
theorem v_cVNV5 {M : Mt} {x : Nat} {b0 b1 b2 b3 b4 : AV} {pr cl : Nat} {w : vw_C} {Post : Mem → Prop} (hd : decode cc pc = .ok (.invokevirtual x, 3)) {host : String} (hl0 : Cond.methodLinkNest own x M.1 host ∈ nestL) (hm : mdV M 5) (hR : M.2.2.2.2.1 + 1 ≤ R.frames ∧ 8 + (M.2.2.1 + 11) + M.2.2.2.2.2 ≤ R.locals) (hk : kd pr = (5, cl)) (hw : vwCl[cl]? = some w) (hwc : w.1 = M.1.cls) (hcs : E.2.1.1 ≤ R.cells ∧ E.2.1.2 ≤ R.slots) (hcat : (st.map ctg).sum ≤ 8) (hq : pc + 3 = q) (hc : CtrV M (aR pr :: [b0, b1, b2, b3, b4]) mem Post) (k : ∀ m1, Post m1 → V cc own nL ret R E q ls st m1) : V cc own nL ret R E pc ls (b4 :: b3 :: b2 :: b1 :: b0 :: aR pr :: st) mem :=
  v_callVN (as := [b0, b1, b2, b3, b4]) hd hl0 hm hR hk hw hwc hcs rfl rfl hcat hc (fun r m1 hp => by obtain ⟨rfl, hp⟩ := hp; rw [hq]; exact k m1 hp)
theorem v_cVNI6 {M : Mt} {x : Nat} {b0 b1 b2 b3 b4 b5 : AV} {pr cl : Nat} {w : vw_C} {Post : Int → Mem → Prop} (hd : decode cc pc = .ok (.invokevirtual x, 3)) {host : String} (hl0 : Cond.methodLinkNest own x M.1 host ∈ nestL) (hm : mdV M 6) (hR : M.2.2.2.2.1 + 1 ≤ R.frames ∧ 8 + (M.2.2.1 + 11) + M.2.2.2.2.2 ≤ R.locals) (hk : kd pr = (5, cl)) (hw : vwCl[cl]? = some w) (hwc : w.1 = M.1.cls) (hcs : E.2.1.1 ≤ R.cells ∧ E.2.1.2 ≤ R.slots) (hcat : (st.map ctg).sum ≤ 8) (hq : pc + 3 = q) (hc : CtrI M (aR pr :: [b0, b1, b2, b3, b4, b5]) mem Post) (k : ∀ z m1, Post z m1 → V cc own nL ret R E q ls (aI z :: st) m1) : V cc own nL ret R E pc ls (b5 :: b4 :: b3 :: b2 :: b1 :: b0 :: aR pr :: st) mem :=
  v_callVN (as := [b0, b1, b2, b3, b4, b5]) hd hl0 hm hR hk hw hwc hcs rfl rfl hcat hc (fun r m1 hp => by obtain ⟨z, rfl, hp⟩ := hp; rw [hq, if_neg (by intro h; cases h)]; exact k z m1 hp)
theorem v_cVNL6 {M : Mt} {x : Nat} {b0 b1 b2 b3 b4 b5 : AV} {pr cl : Nat} {w : vw_C} {Post : Int → Mem → Prop} (hd : decode cc pc = .ok (.invokevirtual x, 3)) {host : String} (hl0 : Cond.methodLinkNest own x M.1 host ∈ nestL) (hm : mdV M 6) (hR : M.2.2.2.2.1 + 1 ≤ R.frames ∧ 8 + (M.2.2.1 + 11) + M.2.2.2.2.2 ≤ R.locals) (hk : kd pr = (5, cl)) (hw : vwCl[cl]? = some w) (hwc : w.1 = M.1.cls) (hcs : E.2.1.1 ≤ R.cells ∧ E.2.1.2 ≤ R.slots) (hcat : (st.map ctg).sum ≤ 8) (hq : pc + 3 = q) (hc : CtrL M (aR pr :: [b0, b1, b2, b3, b4, b5]) mem Post) (k : ∀ z m1, Post z m1 → V cc own nL ret R E q ls (aL z :: st) m1) : V cc own nL ret R E pc ls (b5 :: b4 :: b3 :: b2 :: b1 :: b0 :: aR pr :: st) mem :=
  v_callVN (as := [b0, b1, b2, b3, b4, b5]) hd hl0 hm hR hk hw hwc hcs rfl rfl hcat hc (fun r m1 hp => by obtain ⟨z, rfl, hp⟩ := hp; rw [hq, if_neg (by intro h; cases h)]; exact k z m1 hp)
theorem v_cVNV6 {M : Mt} {x : Nat} {b0 b1 b2 b3 b4 b5 : AV} {pr cl : Nat} {w : vw_C} {Post : Mem → Prop} (hd : decode cc pc = .ok (.invokevirtual x, 3)) {host : String} (hl0 : Cond.methodLinkNest own x M.1 host ∈ nestL) (hm : mdV M 6) (hR : M.2.2.2.2.1 + 1 ≤ R.frames ∧ 8 + (M.2.2.1 + 11) + M.2.2.2.2.2 ≤ R.locals) (hk : kd pr = (5, cl)) (hw : vwCl[cl]? = some w) (hwc : w.1 = M.1.cls) (hcs : E.2.1.1 ≤ R.cells ∧ E.2.1.2 ≤ R.slots) (hcat : (st.map ctg).sum ≤ 8) (hq : pc + 3 = q) (hc : CtrV M (aR pr :: [b0, b1, b2, b3, b4, b5]) mem Post) (k : ∀ m1, Post m1 → V cc own nL ret R E q ls st m1) : V cc own nL ret R E pc ls (b5 :: b4 :: b3 :: b2 :: b1 :: b0 :: aR pr :: st) mem :=
  v_callVN (as := [b0, b1, b2, b3, b4, b5]) hd hl0 hm hR hk hw hwc hcs rfl rfl hcat hc (fun r m1 hp => by obtain ⟨rfl, hp⟩ := hp; rw [hq]; exact k m1 hp)
theorem v_cSNI1 {M : Mt} {x : Nat} {b0 : AV} {Post : Int → Mem → Prop} (hd : decode cc pc = .ok (.invokestatic x, 3)) {host : String} (hl0 : Cond.methodLinkNest own x M.1 host ∈ nestL) (hm : mdS M 1) (hR : M.2.2.2.2.1 + 1 ≤ R.frames ∧ 8 + (M.2.2.1 + 11) + M.2.2.2.2.2 ≤ R.locals) (hcs : E.2.1.1 ≤ R.cells ∧ E.2.1.2 ≤ R.slots) (hcat : (st.map ctg).sum ≤ 8) (hq : pc + 3 = q) (hc : CtrI M [b0] mem Post) (k : ∀ z m1, Post z m1 → V cc own nL ret R E q ls (aI z :: st) m1) : V cc own nL ret R E pc ls (b0 :: st) mem :=
  v_callSN (as := [b0]) hd hl0 hm hR hcs rfl rfl hcat hc (fun r m1 hp => by obtain ⟨z, rfl, hp⟩ := hp; rw [hq, if_neg (by intro h; cases h)]; exact k z m1 hp)
theorem v_cSNL1 {M : Mt} {x : Nat} {b0 : AV} {Post : Int → Mem → Prop} (hd : decode cc pc = .ok (.invokestatic x, 3)) {host : String} (hl0 : Cond.methodLinkNest own x M.1 host ∈ nestL) (hm : mdS M 1) (hR : M.2.2.2.2.1 + 1 ≤ R.frames ∧ 8 + (M.2.2.1 + 11) + M.2.2.2.2.2 ≤ R.locals) (hcs : E.2.1.1 ≤ R.cells ∧ E.2.1.2 ≤ R.slots) (hcat : (st.map ctg).sum ≤ 8) (hq : pc + 3 = q) (hc : CtrL M [b0] mem Post) (k : ∀ z m1, Post z m1 → V cc own nL ret R E q ls (aL z :: st) m1) : V cc own nL ret R E pc ls (b0 :: st) mem :=
  v_callSN (as := [b0]) hd hl0 hm hR hcs rfl rfl hcat hc (fun r m1 hp => by obtain ⟨z, rfl, hp⟩ := hp; rw [hq, if_neg (by intro h; cases h)]; exact k z m1 hp)
theorem v_cSNV1 {M : Mt} {x : Nat} {b0 : AV} {Post : Mem → Prop} (hd : decode cc pc = .ok (.invokestatic x, 3)) {host : String} (hl0 : Cond.methodLinkNest own x M.1 host ∈ nestL) (hm : mdS M 1) (hR : M.2.2.2.2.1 + 1 ≤ R.frames ∧ 8 + (M.2.2.1 + 11) + M.2.2.2.2.2 ≤ R.locals) (hcs : E.2.1.1 ≤ R.cells ∧ E.2.1.2 ≤ R.slots) (hcat : (st.map ctg).sum ≤ 8) (hq : pc + 3 = q) (hc : CtrV M [b0] mem Post) (k : ∀ m1, Post m1 → V cc own nL ret R E q ls st m1) : V cc own nL ret R E pc ls (b0 :: st) mem :=
  v_callSN (as := [b0]) hd hl0 hm hR hcs rfl rfl hcat hc (fun r m1 hp => by obtain ⟨rfl, hp⟩ := hp; rw [hq]; exact k m1 hp)
theorem v_cSNI2 {M : Mt} {x : Nat} {b0 b1 : AV} {Post : Int → Mem → Prop} (hd : decode cc pc = .ok (.invokestatic x, 3)) {host : String} (hl0 : Cond.methodLinkNest own x M.1 host ∈ nestL) (hm : mdS M 2) (hR : M.2.2.2.2.1 + 1 ≤ R.frames ∧ 8 + (M.2.2.1 + 11) + M.2.2.2.2.2 ≤ R.locals) (hcs : E.2.1.1 ≤ R.cells ∧ E.2.1.2 ≤ R.slots) (hcat : (st.map ctg).sum ≤ 8) (hq : pc + 3 = q) (hc : CtrI M [b0, b1] mem Post) (k : ∀ z m1, Post z m1 → V cc own nL ret R E q ls (aI z :: st) m1) : V cc own nL ret R E pc ls (b1 :: b0 :: st) mem :=
  v_callSN (as := [b0, b1]) hd hl0 hm hR hcs rfl rfl hcat hc (fun r m1 hp => by obtain ⟨z, rfl, hp⟩ := hp; rw [hq, if_neg (by intro h; cases h)]; exact k z m1 hp)
theorem v_cSNL2 {M : Mt} {x : Nat} {b0 b1 : AV} {Post : Int → Mem → Prop} (hd : decode cc pc = .ok (.invokestatic x, 3)) {host : String} (hl0 : Cond.methodLinkNest own x M.1 host ∈ nestL) (hm : mdS M 2) (hR : M.2.2.2.2.1 + 1 ≤ R.frames ∧ 8 + (M.2.2.1 + 11) + M.2.2.2.2.2 ≤ R.locals) (hcs : E.2.1.1 ≤ R.cells ∧ E.2.1.2 ≤ R.slots) (hcat : (st.map ctg).sum ≤ 8) (hq : pc + 3 = q) (hc : CtrL M [b0, b1] mem Post) (k : ∀ z m1, Post z m1 → V cc own nL ret R E q ls (aL z :: st) m1) : V cc own nL ret R E pc ls (b1 :: b0 :: st) mem :=
  v_callSN (as := [b0, b1]) hd hl0 hm hR hcs rfl rfl hcat hc (fun r m1 hp => by obtain ⟨z, rfl, hp⟩ := hp; rw [hq, if_neg (by intro h; cases h)]; exact k z m1 hp)
theorem v_cSNV2 {M : Mt} {x : Nat} {b0 b1 : AV} {Post : Mem → Prop} (hd : decode cc pc = .ok (.invokestatic x, 3)) {host : String} (hl0 : Cond.methodLinkNest own x M.1 host ∈ nestL) (hm : mdS M 2) (hR : M.2.2.2.2.1 + 1 ≤ R.frames ∧ 8 + (M.2.2.1 + 11) + M.2.2.2.2.2 ≤ R.locals) (hcs : E.2.1.1 ≤ R.cells ∧ E.2.1.2 ≤ R.slots) (hcat : (st.map ctg).sum ≤ 8) (hq : pc + 3 = q) (hc : CtrV M [b0, b1] mem Post) (k : ∀ m1, Post m1 → V cc own nL ret R E q ls st m1) : V cc own nL ret R E pc ls (b1 :: b0 :: st) mem :=
  v_callSN (as := [b0, b1]) hd hl0 hm hR hcs rfl rfl hcat hc (fun r m1 hp => by obtain ⟨rfl, hp⟩ := hp; rw [hq]; exact k m1 hp)
theorem v_cSNI3 {M : Mt} {x : Nat} {b0 b1 b2 : AV} {Post : Int → Mem → Prop} (hd : decode cc pc = .ok (.invokestatic x, 3)) {host : String} (hl0 : Cond.methodLinkNest own x M.1 host ∈ nestL) (hm : mdS M 3) (hR : M.2.2.2.2.1 + 1 ≤ R.frames ∧ 8 + (M.2.2.1 + 11) + M.2.2.2.2.2 ≤ R.locals) (hcs : E.2.1.1 ≤ R.cells ∧ E.2.1.2 ≤ R.slots) (hcat : (st.map ctg).sum ≤ 8) (hq : pc + 3 = q) (hc : CtrI M [b0, b1, b2] mem Post) (k : ∀ z m1, Post z m1 → V cc own nL ret R E q ls (aI z :: st) m1) : V cc own nL ret R E pc ls (b2 :: b1 :: b0 :: st) mem :=
  v_callSN (as := [b0, b1, b2]) hd hl0 hm hR hcs rfl rfl hcat hc (fun r m1 hp => by obtain ⟨z, rfl, hp⟩ := hp; rw [hq, if_neg (by intro h; cases h)]; exact k z m1 hp)
theorem v_cSNL3 {M : Mt} {x : Nat} {b0 b1 b2 : AV} {Post : Int → Mem → Prop} (hd : decode cc pc = .ok (.invokestatic x, 3)) {host : String} (hl0 : Cond.methodLinkNest own x M.1 host ∈ nestL) (hm : mdS M 3) (hR : M.2.2.2.2.1 + 1 ≤ R.frames ∧ 8 + (M.2.2.1 + 11) + M.2.2.2.2.2 ≤ R.locals) (hcs : E.2.1.1 ≤ R.cells ∧ E.2.1.2 ≤ R.slots) (hcat : (st.map ctg).sum ≤ 8) (hq : pc + 3 = q) (hc : CtrL M [b0, b1, b2] mem Post) (k : ∀ z m1, Post z m1 → V cc own nL ret R E q ls (aL z :: st) m1) : V cc own nL ret R E pc ls (b2 :: b1 :: b0 :: st) mem :=
  v_callSN (as := [b0, b1, b2]) hd hl0 hm hR hcs rfl rfl hcat hc (fun r m1 hp => by obtain ⟨z, rfl, hp⟩ := hp; rw [hq, if_neg (by intro h; cases h)]; exact k z m1 hp)
theorem v_cSNV3 {M : Mt} {x : Nat} {b0 b1 b2 : AV} {Post : Mem → Prop} (hd : decode cc pc = .ok (.invokestatic x, 3)) {host : String} (hl0 : Cond.methodLinkNest own x M.1 host ∈ nestL) (hm : mdS M 3) (hR : M.2.2.2.2.1 + 1 ≤ R.frames ∧ 8 + (M.2.2.1 + 11) + M.2.2.2.2.2 ≤ R.locals) (hcs : E.2.1.1 ≤ R.cells ∧ E.2.1.2 ≤ R.slots) (hcat : (st.map ctg).sum ≤ 8) (hq : pc + 3 = q) (hc : CtrV M [b0, b1, b2] mem Post) (k : ∀ m1, Post m1 → V cc own nL ret R E q ls st m1) : V cc own nL ret R E pc ls (b2 :: b1 :: b0 :: st) mem :=
  v_callSN (as := [b0, b1, b2]) hd hl0 hm hR hcs rfl rfl hcat hc (fun r m1 hp => by obtain ⟨rfl, hp⟩ := hp; rw [hq]; exact k m1 hp)
theorem v_cSNI4 {M : Mt} {x : Nat} {b0 b1 b2 b3 : AV} {Post : Int → Mem → Prop} (hd : decode cc pc = .ok (.invokestatic x, 3)) {host : String} (hl0 : Cond.methodLinkNest own x M.1 host ∈ nestL) (hm : mdS M 4) (hR : M.2.2.2.2.1 + 1 ≤ R.frames ∧ 8 + (M.2.2.1 + 11) + M.2.2.2.2.2 ≤ R.locals) (hcs : E.2.1.1 ≤ R.cells ∧ E.2.1.2 ≤ R.slots) (hcat : (st.map ctg).sum ≤ 8) (hq : pc + 3 = q) (hc : CtrI M [b0, b1, b2, b3] mem Post) (k : ∀ z m1, Post z m1 → V cc own nL ret R E q ls (aI z :: st) m1) : V cc own nL ret R E pc ls (b3 :: b2 :: b1 :: b0 :: st) mem :=
  v_callSN (as := [b0, b1, b2, b3]) hd hl0 hm hR hcs rfl rfl hcat hc (fun r m1 hp => by obtain ⟨z, rfl, hp⟩ := hp; rw [hq, if_neg (by intro h; cases h)]; exact k z m1 hp)
theorem v_cSNL4 {M : Mt} {x : Nat} {b0 b1 b2 b3 : AV} {Post : Int → Mem → Prop} (hd : decode cc pc = .ok (.invokestatic x, 3)) {host : String} (hl0 : Cond.methodLinkNest own x M.1 host ∈ nestL) (hm : mdS M 4) (hR : M.2.2.2.2.1 + 1 ≤ R.frames ∧ 8 + (M.2.2.1 + 11) + M.2.2.2.2.2 ≤ R.locals) (hcs : E.2.1.1 ≤ R.cells ∧ E.2.1.2 ≤ R.slots) (hcat : (st.map ctg).sum ≤ 8) (hq : pc + 3 = q) (hc : CtrL M [b0, b1, b2, b3] mem Post) (k : ∀ z m1, Post z m1 → V cc own nL ret R E q ls (aL z :: st) m1) : V cc own nL ret R E pc ls (b3 :: b2 :: b1 :: b0 :: st) mem :=
  v_callSN (as := [b0, b1, b2, b3]) hd hl0 hm hR hcs rfl rfl hcat hc (fun r m1 hp => by obtain ⟨z, rfl, hp⟩ := hp; rw [hq, if_neg (by intro h; cases h)]; exact k z m1 hp)
theorem v_cSNV4 {M : Mt} {x : Nat} {b0 b1 b2 b3 : AV} {Post : Mem → Prop} (hd : decode cc pc = .ok (.invokestatic x, 3)) {host : String} (hl0 : Cond.methodLinkNest own x M.1 host ∈ nestL) (hm : mdS M 4) (hR : M.2.2.2.2.1 + 1 ≤ R.frames ∧ 8 + (M.2.2.1 + 11) + M.2.2.2.2.2 ≤ R.locals) (hcs : E.2.1.1 ≤ R.cells ∧ E.2.1.2 ≤ R.slots) (hcat : (st.map ctg).sum ≤ 8) (hq : pc + 3 = q) (hc : CtrV M [b0, b1, b2, b3] mem Post) (k : ∀ m1, Post m1 → V cc own nL ret R E q ls st m1) : V cc own nL ret R E pc ls (b3 :: b2 :: b1 :: b0 :: st) mem :=
  v_callSN (as := [b0, b1, b2, b3]) hd hl0 hm hR hcs rfl rfl hcat hc (fun r m1 hp => by obtain ⟨rfl, hp⟩ := hp; rw [hq]; exact k m1 hp)
theorem v_cSNI5 {M : Mt} {x : Nat} {b0 b1 b2 b3 b4 : AV} {Post : Int → Mem → Prop} (hd : decode cc pc = .ok (.invokestatic x, 3)) {host : String} (hl0 : Cond.methodLinkNest own x M.1 host ∈ nestL) (hm : mdS M 5) (hR : M.2.2.2.2.1 + 1 ≤ R.frames ∧ 8 + (M.2.2.1 + 11) + M.2.2.2.2.2 ≤ R.locals) (hcs : E.2.1.1 ≤ R.cells ∧ E.2.1.2 ≤ R.slots) (hcat : (st.map ctg).sum ≤ 8) (hq : pc + 3 = q) (hc : CtrI M [b0, b1, b2, b3, b4] mem Post) (k : ∀ z m1, Post z m1 → V cc own nL ret R E q ls (aI z :: st) m1) : V cc own nL ret R E pc ls (b4 :: b3 :: b2 :: b1 :: b0 :: st) mem :=
  v_callSN (as := [b0, b1, b2, b3, b4]) hd hl0 hm hR hcs rfl rfl hcat hc (fun r m1 hp => by obtain ⟨z, rfl, hp⟩ := hp; rw [hq, if_neg (by intro h; cases h)]; exact k z m1 hp)
theorem v_cSNL5 {M : Mt} {x : Nat} {b0 b1 b2 b3 b4 : AV} {Post : Int → Mem → Prop} (hd : decode cc pc = .ok (.invokestatic x, 3)) {host : String} (hl0 : Cond.methodLinkNest own x M.1 host ∈ nestL) (hm : mdS M 5) (hR : M.2.2.2.2.1 + 1 ≤ R.frames ∧ 8 + (M.2.2.1 + 11) + M.2.2.2.2.2 ≤ R.locals) (hcs : E.2.1.1 ≤ R.cells ∧ E.2.1.2 ≤ R.slots) (hcat : (st.map ctg).sum ≤ 8) (hq : pc + 3 = q) (hc : CtrL M [b0, b1, b2, b3, b4] mem Post) (k : ∀ z m1, Post z m1 → V cc own nL ret R E q ls (aL z :: st) m1) : V cc own nL ret R E pc ls (b4 :: b3 :: b2 :: b1 :: b0 :: st) mem :=
  v_callSN (as := [b0, b1, b2, b3, b4]) hd hl0 hm hR hcs rfl rfl hcat hc (fun r m1 hp => by obtain ⟨z, rfl, hp⟩ := hp; rw [hq, if_neg (by intro h; cases h)]; exact k z m1 hp)
theorem v_cSNV5 {M : Mt} {x : Nat} {b0 b1 b2 b3 b4 : AV} {Post : Mem → Prop} (hd : decode cc pc = .ok (.invokestatic x, 3)) {host : String} (hl0 : Cond.methodLinkNest own x M.1 host ∈ nestL) (hm : mdS M 5) (hR : M.2.2.2.2.1 + 1 ≤ R.frames ∧ 8 + (M.2.2.1 + 11) + M.2.2.2.2.2 ≤ R.locals) (hcs : E.2.1.1 ≤ R.cells ∧ E.2.1.2 ≤ R.slots) (hcat : (st.map ctg).sum ≤ 8) (hq : pc + 3 = q) (hc : CtrV M [b0, b1, b2, b3, b4] mem Post) (k : ∀ m1, Post m1 → V cc own nL ret R E q ls st m1) : V cc own nL ret R E pc ls (b4 :: b3 :: b2 :: b1 :: b0 :: st) mem :=
  v_callSN (as := [b0, b1, b2, b3, b4]) hd hl0 hm hR hcs rfl rfl hcat hc (fun r m1 hp => by obtain ⟨rfl, hp⟩ := hp; rw [hq]; exact k m1 hp)
theorem v_cSNI6 {M : Mt} {x : Nat} {b0 b1 b2 b3 b4 b5 : AV} {Post : Int → Mem → Prop} (hd : decode cc pc = .ok (.invokestatic x, 3)) {host : String} (hl0 : Cond.methodLinkNest own x M.1 host ∈ nestL) (hm : mdS M 6) (hR : M.2.2.2.2.1 + 1 ≤ R.frames ∧ 8 + (M.2.2.1 + 11) + M.2.2.2.2.2 ≤ R.locals) (hcs : E.2.1.1 ≤ R.cells ∧ E.2.1.2 ≤ R.slots) (hcat : (st.map ctg).sum ≤ 8) (hq : pc + 3 = q) (hc : CtrI M [b0, b1, b2, b3, b4, b5] mem Post) (k : ∀ z m1, Post z m1 → V cc own nL ret R E q ls (aI z :: st) m1) : V cc own nL ret R E pc ls (b5 :: b4 :: b3 :: b2 :: b1 :: b0 :: st) mem :=
  v_callSN (as := [b0, b1, b2, b3, b4, b5]) hd hl0 hm hR hcs rfl rfl hcat hc (fun r m1 hp => by obtain ⟨z, rfl, hp⟩ := hp; rw [hq, if_neg (by intro h; cases h)]; exact k z m1 hp)
theorem v_cSNL6 {M : Mt} {x : Nat} {b0 b1 b2 b3 b4 b5 : AV} {Post : Int → Mem → Prop} (hd : decode cc pc = .ok (.invokestatic x, 3)) {host : String} (hl0 : Cond.methodLinkNest own x M.1 host ∈ nestL) (hm : mdS M 6) (hR : M.2.2.2.2.1 + 1 ≤ R.frames ∧ 8 + (M.2.2.1 + 11) + M.2.2.2.2.2 ≤ R.locals) (hcs : E.2.1.1 ≤ R.cells ∧ E.2.1.2 ≤ R.slots) (hcat : (st.map ctg).sum ≤ 8) (hq : pc + 3 = q) (hc : CtrL M [b0, b1, b2, b3, b4, b5] mem Post) (k : ∀ z m1, Post z m1 → V cc own nL ret R E q ls (aL z :: st) m1) : V cc own nL ret R E pc ls (b5 :: b4 :: b3 :: b2 :: b1 :: b0 :: st) mem :=
  v_callSN (as := [b0, b1, b2, b3, b4, b5]) hd hl0 hm hR hcs rfl rfl hcat hc (fun r m1 hp => by obtain ⟨z, rfl, hp⟩ := hp; rw [hq, if_neg (by intro h; cases h)]; exact k z m1 hp)
theorem v_cSNV6 {M : Mt} {x : Nat} {b0 b1 b2 b3 b4 b5 : AV} {Post : Mem → Prop} (hd : decode cc pc = .ok (.invokestatic x, 3)) {host : String} (hl0 : Cond.methodLinkNest own x M.1 host ∈ nestL) (hm : mdS M 6) (hR : M.2.2.2.2.1 + 1 ≤ R.frames ∧ 8 + (M.2.2.1 + 11) + M.2.2.2.2.2 ≤ R.locals) (hcs : E.2.1.1 ≤ R.cells ∧ E.2.1.2 ≤ R.slots) (hcat : (st.map ctg).sum ≤ 8) (hq : pc + 3 = q) (hc : CtrV M [b0, b1, b2, b3, b4, b5] mem Post) (k : ∀ m1, Post m1 → V cc own nL ret R E q ls st m1) : V cc own nL ret R E pc ls (b5 :: b4 :: b3 :: b2 :: b1 :: b0 :: st) mem :=
  v_callSN (as := [b0, b1, b2, b3, b4, b5]) hd hl0 hm hR hcs rfl rfl hcat hc (fun r m1 hp => by obtain ⟨rfl, hp⟩ := hp; rw [hq]; exact k m1 hp)
end HeapRows
