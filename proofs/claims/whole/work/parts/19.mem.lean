/-! ===== Memories ===== -/
theorem um_um (mem : Mem) (p : Nat) (i y z : Int) : um (um mem p i y) p i z = um mem p i z := by
  funext q
  unfold um
  by_cases h : q = p
  · rw [if_pos h, if_pos h, if_pos rfl]
    funext j
    unfold ui
    by_cases e : j = i
    · rw [if_pos e, if_pos e]
    · rw [if_neg e, if_neg e, if_neg e]
  · rw [if_neg h, if_neg h, if_neg h]
theorem um_id (mem : Mem) (p : Nat) (i : Int) : um mem p i (mem p i) = mem := by
  funext q
  unfold um
  by_cases h : q = p
  · rw [if_pos h, h]
    funext j
    unfold ui
    by_cases e : j = i
    · rw [if_pos e, e]
    · rw [if_neg e]
  · rw [if_neg h]
/-- a memory with another row at p -/
def sm (mem : Mem) (p : Nat) (f : Int → Int) : Mem := fun q => if q = p then f else mem q
theorem sm_same (mem : Mem) (p : Nat) (f : Int → Int) : sm mem p f p = f := if_pos rfl
theorem sm_ne (mem : Mem) {p q : Nat} (f : Int → Int) (h : q ≠ p) : sm mem p f q = mem q := if_neg h
theorem eq_sm {m mem : Mem} {p : Nat} {f : Int → Int} (h1 : ∀ q, q ≠ p → m q = mem q) (h2 : ∀ j, m p j = f j) : m = sm mem p f := by
  funext q
  by_cases h : q = p
  · subst h; rw [sm_same]; exact funext h2
  · rw [sm_ne _ _ h, h1 q h]
theorem Ctr.mono {M : Mt} {as : List AV} {mem : Mem} {P Q : AV → Mem → Prop} (h : Ctr M as mem P) (hPQ : ∀ r m, P r m → Q r m) : Ctr M as mem Q := by
  intro l G ad p e ha hc hk s m args below hf happ hP hfree
  obtain ⟨k, o, h1, h2, h3, hQ, hL⟩ := h l G ad p e ha hc hk s m args below hf happ hP hfree
  obtain ⟨⟨r, mem', e1, e2, e3⟩, e4⟩ := hQ
  exact ⟨k, o, h1, h2, h3, ⟨⟨r, mem', e1, hPQ r mem' e2, e3⟩, e4⟩, hL⟩
theorem CtrI.mono {M : Mt} {as : List AV} {mem : Mem} {P Q : Int → Mem → Prop} (h : CtrI M as mem P) (hPQ : ∀ r m, P r m → Q r m) : CtrI M as mem Q := Ctr.mono h (fun r m ⟨z, e, hz⟩ => ⟨z, e, hPQ z m hz⟩)
theorem CtrV.mono {M : Mt} {as : List AV} {mem : Mem} {P Q : Mem → Prop} (h : CtrV M as mem P) (hPQ : ∀ m, P m → Q m) : CtrV M as mem Q := Ctr.mono h (fun r m ⟨e, hz⟩ => ⟨e, hPQ m hz⟩)
theorem CtrL.mono {M : Mt} {as : List AV} {mem : Mem} {P Q : Int → Mem → Prop} (h : CtrL M as mem P) (hPQ : ∀ r m, P r m → Q r m) : CtrL M as mem Q := Ctr.mono h (fun r m ⟨z, e, hz⟩ => ⟨z, e, hPQ z m hz⟩)
theorem sm_sm (mem : Mem) (p : Nat) (f g : Int → Int) : sm (sm mem p f) p g = sm mem p g := by
  funext q
  by_cases h : q = p
  · subst h; rw [sm_same, sm_same]
  · rw [sm_ne _ _ h, sm_ne _ _ h, sm_ne _ _ h]
theorem sm_id (mem : Mem) (p : Nat) {f : Int → Int} (h : ∀ i, f i = mem p i) : sm mem p f = mem := (eq_sm (fun _ _ => rfl) (fun i => (h i).symm)).symm
theorem um_sm (mem : Mem) (p : Nat) (i z : Int) : um mem p i z = sm mem p (ui (mem p) i z) := rfl
