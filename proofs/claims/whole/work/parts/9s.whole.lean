/-! ===== the law from its entry ===== -/
def lawN (L : Nat) (xs : Nat → Int32) : ND := (0, fun below args s _ _ => lw_Z below args s, fun args s _ ad _ => args = #[Value.ref (ad 128)] ∧ va_X (ad 128) L xs s s.heap ∧ ad 128 < s.heap.size ∧ ad 0 = s.heap.size)
theorem linA.inj {ad : Nat → Nat} (h : linA ad) : injA ad := by
  intro i j hi hj e
  rw [h i hi, h j hj] at e
  omega
theorem n_toV {L : Nat} {xs : Nat → Int32} {nc ns pc : Nat} {ls st : List AV} (h : LV L xs nc ns pc ls st mem0) : VN cL_law RL 8 (some .boolean) room_1 (lawN L xs) pc ls st (allC, nc, ns) := by
  intro p l e s m args below meth c G ad H locs la hC hP hS hl
  obtain ⟨g1, g2, g3, g4⟩ := hC.2.2.2.2.2.2.2.2
  have hS : va_S (fun q => ad 0 ≤ q) s.heap H locs := hS
  rw [g4] at hS
  refine h p l e s m args below meth c G ad H locs la ⟨hC.1, hC.2.1, hC.2.2.1, hC.2.2.2.1, hC.2.2.2.2.1, hC.2.2.2.2.2.2.1.inj, fun i hi => ?_, g1, g2, g3⟩ (start_P hP.1) hS hl
  show s.heap.size ≤ ad i
  rw [hC.2.2.2.2.2.2.1 i hi, g4]
  exact Nat.le_add_right _ _
theorem law_in {L : Nat} {xs : Nat → Int32} (hL : L ≤ 3072) : VN cL_law RL 8 (some .boolean) room_1 (lawN L xs) 0 [aR 128, aU, aU, aU, aU, aU, aU, aU] [] ([], 0, 0) := by
  refine n_new (ci := 9) (C := RX9) (T := TX9) (N := 15) (fs := [aU, aU, aU, aU, aU, aU, aU, aU, aU, aU, aU, aU, aU, aU, aI 0]) (q := 3) dL_law_0 rfl (gw_in (tb_at 97 (by decide +kernel)) rfl) (gw_in (tb_at 98 (by decide +kernel)) rfl) (gw_in (tb_at 83 (by decide +kernel)) rfl) dfs_9 rfl (by show 0 + 0 < 128; omega) (by decide) (by decide) ?_
  show VN _ _ _ _ _ _ 3 [aR 128, aU, aU, aU, aU, aU, aU, aU] [aR 0] ([] ++ [cO 9 [aU, aU, aU, aU, aU, aU, aU, aU, aU, aU, aU, aU, aU, aU, aI 0]], 1, 15)
  refine n_dup (q := 4) rfl dL_law_3 rfl ?_
  refine n_ctor (M := mX9_init) (q := 7) (st := [aR 0]) (pd := 0) (mc := 115) (ms := 11324) (as := []) (es0 := []) (fin := labC) dL_law_4 (gw_in (tb_at 99 (by decide +kernel)) rfl) miX9 (by decide) (by decide) rfl (by show 0 + (0 + 116) ≤ 128; omega) rfl rfl (Nat.le_of_ble_eq_true rfl) c_X9_init rfl ?_
  show VN _ _ _ _ _ _ 7 [aR 128, aU, aU, aU, aU, aU, aU, aU] [aR 0] (labC, 116, 11339)
  refine n_ast1 (q := 8) rfl dL_law_7 (by decide) rfl ?_
  refine n_new (ci := 10) (C := RX10) (T := TX10) (N := 20) (fs := [aU, aU, aI 0, aI 0, aU, aI 0, aU, aI 0, aI 0, aU, aU, aI 0, aU, aU, aU, aU, aI 0, aI 0, aU, aI 0]) (q := 11) dL_law_8 rfl (gw_in (tb_at 954 (by decide +kernel)) rfl) (gw_in (tb_at 955 (by decide +kernel)) rfl) (gw_in (tb_at 93 (by decide +kernel)) rfl) dfs_10 rfl (by show 0 + 116 < 128; omega) (by decide) (by decide) ?_
  show VN _ _ _ _ _ _ 11 [aR 128, aR 0, aU, aU, aU, aU, aU, aU] [aR 116] (labC ++ [cO 10 [aU, aU, aI 0, aI 0, aU, aI 0, aU, aI 0, aI 0, aU, aU, aI 0, aU, aU, aU, aU, aI 0, aI 0, aU, aI 0]], 117, 11359)
  refine n_dup (q := 12) rfl dL_law_11 rfl ?_
  refine n_ctor (M := mX10_init) (q := 15) (st := [aR 116]) (pd := 116) (mc := 11) (ms := 13406) (as := []) (es0 := labC) (fin := modC) dL_law_12 (gw_in (tb_at 956 (by decide +kernel)) rfl) miX10 (by decide) (by decide) rfl (by show 0 + (116 + 12) ≤ 128; omega) rfl rfl (Nat.le_of_ble_eq_true rfl) c_X10_init rfl ?_
  show VN _ _ _ _ _ _ 15 [aR 128, aR 0, aU, aU, aU, aU, aU, aU] [aR 116] (allC, 128, 24765)
  refine n_ast2 (q := 16) rfl dL_law_15 (by decide) rfl ?_
  refine n_iconst (q := 17) dL_law_16 rfl ?_
  refine n_ist3 (q := 18) rfl dL_law_17 (by decide) rfl ?_
  exact n_toV (lw_loop hL (by decide) (by decide) (L + 1) 0 (by omega) (by omega) (by omega) mem0 AS0 KR0 _ _ _ _)
theorem whole_start {p : Program} {e : Env} {s : State} {m : MethodId} {below : List Frame} {meth : Method} {c : Code} (l : Launch) (hflags : l.flags = flags0) {b L : Nat} {xs : Nat → Int32} (hL : L ≤ 3072) (C0 : lw_At p s m meth c b L xs) : W p l e room_1 s m #[Value.ref b] below meth c s.heap [] 0 0 (lw_Z below #[Value.ref b] s) (entryFrame m ([Value.ref b] : List Value).toArray 8) := by
  obtain ⟨hx, hb, hr, hml, hown, hts, hX, hbl, hlocks, hgv⟩ := id C0
  obtain ⟨c0, i0, k0⟩ := u_known (C := RX0) (T := TX0) (N := 2) (n := 2) hts inX0 (hts (.instantiable RX0 2) (tb_at 145 (by decide +kernel)))
  obtain ⟨c1, i1, k1⟩ := u_known (C := RX1) (T := TX1) (N := 13) (n := 13) hts inX1 (hts (.instantiable RX1 13) (tb_at 373 (by decide +kernel)))
  obtain ⟨c2, i2, k2⟩ := u_known (C := RX2) (T := TX2) (N := 10) (n := 10) hts inX2 (hts (.instantiable RX2 10) (tb_at 197 (by decide +kernel)))
  obtain ⟨c3, i3, k3⟩ := u_known (C := RX3) (T := TX3) (N := 13) (n := 13) hts inX3 (hts (.instantiable RX3 13) (tb_at 286 (by decide +kernel)))
  obtain ⟨c4, i4, k4⟩ := u_known (C := RX4) (T := TX4) (N := 6) (n := 6) hts inX4 (hts (.instantiable RX4 6) (tb_at 106 (by decide +kernel)))
  obtain ⟨c5, i5, k5⟩ := u_known (C := RX5) (T := TX5) (N := 3) (n := 3) hts inX5 (hts (.instantiable RX5 3) (tb_at 269 (by decide +kernel)))
  obtain ⟨c6, i6, k6⟩ := u_known (C := RX6) (T := TX6) (N := 3) (n := 3) hts inX6 (hts (.instantiable RX6 3) (tb_at 162 (by decide +kernel)))
  obtain ⟨c7, i7, k7⟩ := u_known (C := RX7) (T := TX7) (N := 8) (n := 8) hts inX7 (hts (.instantiable RX7 8) (tb_at 338 (by decide +kernel)))
  obtain ⟨c8, i8, k8⟩ := u_known (C := RX8) (T := TX8) (N := 2) (n := 2) hts inX8 (hts (.instantiable RX8 2) (tb_at 179 (by decide +kernel)))
  obtain ⟨c9, i9, k9⟩ := u_known (C := RX9) (T := TX9) (N := 15) (n := 15) hts inX9 (hts (.instantiable RX9 15) (tb_at 98 (by decide +kernel)))
  obtain ⟨c10, i10, k10⟩ := u_known (C := RX10) (T := TX10) (N := 20) (n := 20) hts inX10 (hts (.instantiable RX10 20) (tb_at 955 (by decide +kernel)))
  obtain ⟨dC, dI, hKc⟩ : ∃ (dC : Nat → ClassId) (dI : Nat → Nat → Nat), ∀ (k : Nat) (q : vw_C), vwCl[k]? = some q → u_Kn s q.1 q.2.1 q.2.2 (dC k) (dI k) := by
    refine ⟨fun k => if k = 0 then c0 else if k = 1 then c1 else if k = 2 then c2 else if k = 3 then c3 else if k = 4 then c4 else if k = 5 then c5 else if k = 6 then c6 else if k = 7 then c7 else if k = 8 then c8 else if k = 9 then c9 else c10, fun k => if k = 0 then i0 else if k = 1 then i1 else if k = 2 then i2 else if k = 3 then i3 else if k = 4 then i4 else if k = 5 then i5 else if k = 6 then i6 else if k = 7 then i7 else if k = 8 then i8 else if k = 9 then i9 else i10, ?_⟩
    intro k q hq
    match k, hq with
    | 0, hq => cases hq; exact k0
    | 1, hq => cases hq; exact k1
    | 2, hq => cases hq; exact k2
    | 3, hq => cases hq; exact k3
    | 4, hq => cases hq; exact k4
    | 5, hq => cases hq; exact k5
    | 6, hq => cases hq; exact k6
    | 7, hq => cases hq; exact k7
    | 8, hq => cases hq; exact k8
    | 9, hq => cases hq; exact k9
    | 10, hq => cases hq; exact k10
    | k + 11, hq => simp [vwCl] at hq
  obtain ⟨a1, kk1, cm1, p1, q1, r1⟩ := Cond.arrayClass_spec (hts (.arrayClass .int) (by decide +kernel))
  obtain ⟨a2, kk2, cm2, p2, q2, r2⟩ := Cond.arrayClass_spec (hts (.arrayClass .long) (by decide +kernel))
  obtain ⟨a3, kk3, cm3, p3, q3, r3⟩ := Cond.arrayClass_spec (hts (.arrayClass .boolean) (by decide +kernel))
  have hao : aoOK s := ⟨va_AO.of (hts (.arrayOver (.object "StackLab$Setup")) (by decide +kernel)), (show (Cond.arrayOver (.array .long)).before #[] s = true from hts (.arrayOver (.array .long)) (by decide +kernel))⟩
  obtain ⟨cm5, a5, kk5, f5, -, q5, r5, p5⟩ := Cond.arrayOver_spec hao.1
  obtain ⟨cm4, a4, kk4, f4, q4, r4, p4⟩ := Cond.arrayOver_specA hao.2
  have hK : va_K (dC, dI) vwCl (tysW ((dC, dI), (a1, a2, a3, a4, a5))) s := by
    refine ⟨hKc, fun k q hq => ?_⟩
    match k, hq with
    | 0, hq => cases hq; exact ⟨fun n z => ⟨fun k h => (by cases h), kk1, q1, cm1, r1⟩, p1⟩
    | 1, hq => cases hq; exact ⟨fun n z => ⟨fun k h => (by cases h), kk2, q2, cm2, r2⟩, p2⟩
    | 2, hq => cases hq; exact ⟨fun n z => ⟨fun k h => (by cases h), kk3, q3, cm3, r3⟩, p3⟩
    | 3, hq => cases hq; exact ⟨fun n z => ⟨fun k h => (by cases h), kk4, q4, cm4, r4⟩, p4⟩
    | 4, hq => cases hq; exact ⟨fun n z => ⟨fun k h => (by cases h), kk5, q5, cm5, r5⟩, kk5, cm5, q5, r5, f5, p5⟩
    | k + 5, hq => simp [tysW] at hq
  have hN : nestOK s := by
    intro w hw
    obtain ⟨h1, h2⟩ := List.mem_filter.mp hw
    have h3 := hts w h1
    cases w <;> first | (simp [isNest] at h2; done) | exact va_Nw.of rfl h3
  have hlin : linA (fun p => if p = 128 then b else s.heap.size + p) := by
    intro p hp
    show (if p = 128 then b else s.heap.size + p) = (if 0 = 128 then b else s.heap.size + 0) + p
    rw [if_neg (by omega), if_neg (by omega)]
    omega
  have hl := lv_entry ([.ref b]) (n := 8) (Nat.le_of_ble_eq_true rfl)
  rw [lg_entry_eq]
  have hE : (#[Value.ref b] : Array Value) = #[Value.ref b] ∧ va_X b L xs s s.heap ∧ b < s.heap.size ∧ s.heap.size = s.heap.size := ⟨rfl, hX, hbl, rfl⟩
  have hW0 : WNw ((dC, dI), (a1, a2, a3, a4, a5)) (fun p => if p = 128 then b else s.heap.size + p) 0 [] s.heap := by
    refine ⟨?_, ?_, ?_⟩
    · intro k q h
      cases h
    · rfl
    · decide
  have hC0 : Cn cL_law RL 8 (some .boolean) (lawN L xs) p s m #[Value.ref b] meth c ((dC, dI), (a1, a2, a3, a4, a5)) (fun p => if p = 128 then b else s.heap.size + p) := by
    refine ⟨⟨hx, hb, hml, hown, fun w hw => hts w (List.mem_filter.mp hw).1⟩, hlocks, hr, hK, hN, hao, hlin, ?_, hE⟩
    exact Nat.le_refl _
  refine law_in hL p l e s m #[Value.ref b] below meth c ((dC, dI), (a1, a2, a3, a4, a5)) (fun p => if p = 128 then b else s.heap.size + p) s.heap [] _ hC0 hW0 va_S.rf ?_
  refine ⟨hl.1, hl.2.1, fun i v hiv hv => ?_⟩
  match i, hiv with
  | 0, hiv =>
    cases hiv
    exact hl.2.2 (0, .ref b) List.mem_cons_self
  | i + 1, hiv =>
    have h9 : v ∈ List.replicate 7 aU := List.mem_of_getElem? (show (List.replicate 7 aU)[i]? = some v from hiv)
    exact absurd (List.eq_of_mem_replicate h9) hv
set_option maxHeartbeats 4000000 in
theorem lw_walk (l : Launch) (hflags : l.flags = flags0) (b : Addr) (xs : List Int32) : MetFree l x (headSpec (Jvm.Cond.code x code maxLocals ret :: tables_1) room_1) (lw_P b xs) (fun _ _ _ _ _ => True) lw_Q := by
  refine MetFree.of_bodyS (code := code) (maxLocals := maxLocals) (ret := ret) (by decide) ?_ ?_
  · intro args s m h hn
    obtain ⟨meth, c, h1, h2, h3, h4, h5, h6, -, -⟩ := Cond.code_spec hn (atoms_spec (ws := Jvm.Cond.code x code maxLocals ret :: tables_1) h _ List.mem_cons_self)
    exact ⟨meth, c, h1, h2, h3, h4, h5, h6⟩
  · intro p e s m args below meth c s₁ B hml0 hP _
    obtain ⟨rfl, hx, hbd, hgv⟩ := hP
    obtain ⟨scr, harrAt, hlist, hof, hsmall⟩ := hx
    obtain ⟨hcb, hkn, -, -⟩ := State.arrayAt?_spec harrAt
    have hown : s.vm.findClass R_law = some m.cls := findClass_of_methodNamed B.named
    have hts0 : ∀ c ∈ (Jvm.Cond.code x code maxLocals ret :: tables_1), c.before #[Value.ref b] s = true := atoms_spec (ws := Jvm.Cond.code x code maxLocals ret :: tables_1) B.pre
    have hts : ∀ w ∈ lw_tbl, w.before #[Value.ref b] s = true := k2_hts_sels lw_privs (fun w hw => hts0 w (List.mem_cons_of_mem _ hw)) lw_privs_ok
    have hml : c.maxLocals = 8 := B.maxLocals_eq (hts0 _ List.mem_cons_self)
    have X₀ : Stand p l e room_1 s m #[Value.ref b] below meth c s₁ [] 0 0 := Stand.of_body B
    have hh0 : s₁.heap = s.heap := by rw [B.state]; rfl
    have hsz : scr.slots.size = xs.length := by rw [← Array.length_toList, hlist, List.length_map]
    have hval : ∀ j : Nat, j < xs.length → scr.slots[j]? = some (.int (xs.getD j 0)) := fun j hj => by
      rw [← Array.getElem?_toList, hlist]
      simp [hj]
    have hbl : b < s.heap.size := (Array.getElem?_eq_some_iff.mp hcb).1
    have hX : va_X b xs.length (fun j => xs.getD j 0) s s.heap := ⟨scr, hcb, hof, hkn, hsz, hval⟩
    have K : W p l e room_1 s m #[Value.ref b] below meth c s₁.heap [] 0 0 (lw_Z below #[Value.ref b] s) (entryFrame m ([Value.ref b] : List Value).toArray 8) := by
      rw [hh0]
      exact whole_start l hflags hbd ⟨B.exec, B.bytes, B.returns, hml, hown, hts, hX, hbl, B.notSynchronized, hgv⟩
    obtain ⟨t, a1, o, b1, b2, b3⟩ := K s₁ rfl X₀
    exact ⟨t, o, a1, b1, b2, b3⟩
theorem lw_pre_spec {args : Array Value} {s : State} (h : (Jvm.Cond.and given_1 narrow_1).before args s = true) (hr : rest_1_c.before args s = true) : ∃ (b : Addr) (xs : List Int32), lw_P b xs args s := by
  have hs := flat_of_before _ h
  have hq := flat_of_before _ hr
  have hc : (Cond.count 1).before args s = true := hs _ (by decide +kernel)
  have harr : (Cond.arrayOf (.arg 0) .int).before args s = true := hs _ (by decide +kernel)
  have hle : (Cond.le (.length (.arg 0)) (.int 3072)).before args s = true := hs _ (by decide +kernel)
  have hlen : (Cond.isInt (.length (.arg 0))).before args s = true := hq _ (by decide +kernel)
  have hall : (Cond.all (.arg 0) (.isInt (.elem (.arg 0) (.index 0)))).before args s = true := hq _ (by decide +kernel)
  obtain ⟨b, xs, hb, hx⟩ := State.ints_of_pre rfl harr hlen hall
  have hsm : xs.length < 2 ^ 31 := hx.choose_spec.2.2.2
  have hev : (Term.length (.arg 0)).eval args s none [] s = some (.int xs.length.toInt32) := hx.length_eval hb
  have hv := Cond.le_ints hev (show (Term.int 3072).eval args s none [] s = some (.int 3072) from rfl)
  have hd : xs.length.toInt32 ≤ 3072 := by
    simpa [Cond.before, Cond.holds, hv] using hle
  have hN : xs.length ≤ 3072 := (Int32.ofNat_le_ofNat hsm (by decide)).mp (show Int32.ofNat xs.length ≤ Int32.ofNat 3072 from hd)
  exact ⟨b, xs, Cond.one_arg hc (show args[0]? = some (.ref b) from hb), hx, hN, h⟩
theorem lw_comes (l : Launch) (hflags : l.flags = flags0) : Comes l x (Jvm.Cond.code x code maxLocals ret :: tables_1) room_1 (fun tb e args s => Calls_1 tb e args s ∧ rest_1 tb e args s ∧ Pre_1 tb e args s)
    (fun _ _ args s o t => lw_Q args s o t) := by
  intro p e ha hc hk s m args below hf hfit hheap happ hpre
  obtain ⟨b, xs, hP⟩ := lw_pre_spec hpre.2.2 hpre.2.1
  obtain ⟨k, o, h1, h2, h3, hQ⟩ := lw_walk l hflags b xs p e ha hc hk s m args below hf ((Spec.applies_iff_loose hf).mp happ).1 hP trivial
  exact ⟨k, o, h1, h2, h3, hQ⟩
theorem lw_frame {s t : State} {o : Outcome} {args : Array Value} (h : State.butDraws s t lw_cs (fun t1 => Framed s o t1 [] 600000 7302250)) :
    State.butDraws s t [Jvm.Choice.named "NaN.bits"] (fun t1 => Framed s o t1 (fieldLocs frame_1_writes args s ++ arrayLocs frame_1_arrays args s ++ staticLocs frame_1_statics s) 600000 7302250) := h
theorem lw_limb (L : Cond) (hL : ∀ (args : Array Value) (s t : State), L.after args s (.returned (some (.int 1))) t = true) :
    ArmFor flags0 classFile x code maxLocals ret World_1 tables_1 room_1 Calls_1 rest_1 Pre_1
      (fun tb e a s o t => postC L tb e a s o t ∧ State.butDraws s t [Jvm.Choice.named "NaN.bits"] (fun t1 => Framed s o t1 (fieldLocs frame_1_writes a s ++ arrayLocs frame_1_arrays a s ++ staticLocs frame_1_statics s) 600000 7302250)) := by
  intro l hflags _ _ p e ha hc hk s m args below hf hfit hheap happ hpre
  obtain ⟨k, o, h1, h2, h3, rfl, hF⟩ := lw_comes l hflags p e ha hc hk s m args below hf hfit hheap happ hpre
  exact ⟨k, _, h1, h2, h3, hL args s _, lw_frame hF⟩
theorem i_vc : Claimed_1_1 ∧ Claimed_1_2 := ⟨lw_limb limb_1_1 (fun args s t => by simp [limb_1_1, Cond.after, Cond.holds, Cond.value]), lw_limb limb_1_2 (fun args s t => Cond.after_iff.mpr (by
  first | (rw [show limb_1_2 = Cond.eq .result (.int 1) from rfl, Cond.eq_ints (x := 1) (y := 1) rfl rfl]; simp; done) | (simp [limb_1_2, Cond.value, Term.eval]; done)))⟩
