/-! ===== StackLab: arcs, arc, arcWeight ===== -/
theorem c_X9_sourceOf (f : Int) (mem : Mem) (hf : R32 f) : CtrI mX9_sourceOf [aI f] mem (fun z m => mem = m ∧ srcI f = z) := by
  refine Ctr.ofV (ls := [aI f]) rfl (by decide) rfl (Nat.le_of_ble_eq_true rfl) ?_
  refine v_iload_n (j := 0) (q := 1) rfl dX9_sourceOf_0 rfl ?_
  refine v_if_lt (tgt := 11) (q := 4) dX9_sourceOf_1 (by decide) rfl (by omega) (fun h1 => ?_) (fun h1 => ?_)
  · refine v_iload_n (j := 0) (q := 12) rfl dX9_sourceOf_11 rfl ?_
    refine v_bipush (q := 14) (by decide) dX9_sourceOf_12 rfl ?_
    refine v_icmp_lt (tgt := 30) (q := 17) dX9_sourceOf_14 (by decide) rfl (by omega) (by omega) (fun h14 => ?_) (fun h14 => ?_)
    · refine v_iload_n (j := 0) (q := 31) rfl dX9_sourceOf_30 rfl ?_
      refine v_bipush (q := 33) (by decide) dX9_sourceOf_31 rfl ?_
      refine v_icmp_lt (tgt := 52) (q := 36) dX9_sourceOf_33 (by decide) rfl (by omega) (by omega) (fun h33 => ?_) (fun h33 => ?_)
      · refine v_iconst (q := 53) dX9_sourceOf_52 rfl ?_
        refine v_iret dX9_sourceOf_53 ?_
        refine ⟨_, rfl, rfl, ?_⟩
        unfold srcI
        first
          | (rw [if_neg (by omega), if_pos (by omega)]; done)
          | (rw [if_neg (by omega), if_neg (by omega), if_neg (by omega), if_pos (by omega)]; omega)
          | (rw [if_neg (by omega), if_neg (by omega), if_neg (by omega), if_neg (by omega), if_neg (by omega), if_pos (by omega)]; omega)
          | (rw [if_pos (by omega)]; done)
          | (rw [if_neg (by omega), if_neg (by omega), if_pos (by omega)]; done)
          | (rw [if_neg (by omega), if_neg (by omega), if_neg (by omega), if_neg (by omega), if_pos (by omega)]; done)
          | (rw [if_neg (by omega), if_neg (by omega), if_neg (by omega), if_neg (by omega), if_neg (by omega), if_neg (by omega)]; done)
      · refine v_iload_n (j := 0) (q := 37) rfl dX9_sourceOf_36 rfl ?_
        refine v_bipush (q := 39) (by decide) dX9_sourceOf_37 rfl ?_
        refine v_icmp_ge (tgt := 52) (q := 42) dX9_sourceOf_39 (by decide) rfl (by omega) (by omega) (fun h39 => ?_) (fun h39 => ?_)
        · refine v_iconst (q := 53) dX9_sourceOf_52 rfl ?_
          refine v_iret dX9_sourceOf_53 ?_
          refine ⟨_, rfl, rfl, ?_⟩
          unfold srcI
          first
            | (rw [if_neg (by omega), if_pos (by omega)]; done)
            | (rw [if_neg (by omega), if_neg (by omega), if_neg (by omega), if_pos (by omega)]; omega)
            | (rw [if_neg (by omega), if_neg (by omega), if_neg (by omega), if_neg (by omega), if_neg (by omega), if_pos (by omega)]; omega)
            | (rw [if_pos (by omega)]; done)
            | (rw [if_neg (by omega), if_neg (by omega), if_pos (by omega)]; done)
            | (rw [if_neg (by omega), if_neg (by omega), if_neg (by omega), if_neg (by omega), if_pos (by omega)]; done)
            | (rw [if_neg (by omega), if_neg (by omega), if_neg (by omega), if_neg (by omega), if_neg (by omega), if_neg (by omega)]; done)
        · refine v_iload_n (j := 0) (q := 43) rfl dX9_sourceOf_42 rfl ?_
          refine v_bipush (q := 45) (by decide) dX9_sourceOf_43 rfl ?_
          refine v_isub (q := 46) dX9_sourceOf_45 rfl ?_
          refine v_iconst (q := 47) dX9_sourceOf_46 rfl ?_
          refine v_iadd (q := 48) dX9_sourceOf_47 rfl ?_
          refine v_bipush (q := 50) (by decide) dX9_sourceOf_48 rfl ?_
          refine v_iadd (q := 51) dX9_sourceOf_50 rfl ?_
          refine v_iret dX9_sourceOf_51 ?_
          refine ⟨_, rfl, rfl, ?_⟩
          unfold srcI
          first
            | (rw [if_neg (by omega), if_pos (by omega)]; done)
            | (rw [if_neg (by omega), if_neg (by omega), if_neg (by omega), if_pos (by omega)]; omega)
            | (rw [if_neg (by omega), if_neg (by omega), if_neg (by omega), if_neg (by omega), if_neg (by omega), if_pos (by omega)]; omega)
            | (rw [if_pos (by omega)]; done)
            | (rw [if_neg (by omega), if_neg (by omega), if_pos (by omega)]; done)
            | (rw [if_neg (by omega), if_neg (by omega), if_neg (by omega), if_neg (by omega), if_pos (by omega)]; done)
            | (rw [if_neg (by omega), if_neg (by omega), if_neg (by omega), if_neg (by omega), if_neg (by omega), if_neg (by omega)]; done)
    · refine v_iload_n (j := 0) (q := 18) rfl dX9_sourceOf_17 rfl ?_
      refine v_bipush (q := 20) (by decide) dX9_sourceOf_18 rfl ?_
      refine v_icmp_ge (tgt := 30) (q := 23) dX9_sourceOf_20 (by decide) rfl (by omega) (by omega) (fun h20 => ?_) (fun h20 => ?_)
      · refine v_iload_n (j := 0) (q := 31) rfl dX9_sourceOf_30 rfl ?_
        refine v_bipush (q := 33) (by decide) dX9_sourceOf_31 rfl ?_
        refine v_icmp_lt (tgt := 52) (q := 36) dX9_sourceOf_33 (by decide) rfl (by omega) (by omega) (fun h33 => ?_) (fun h33 => ?_)
        · refine v_iconst (q := 53) dX9_sourceOf_52 rfl ?_
          refine v_iret dX9_sourceOf_53 ?_
          refine ⟨_, rfl, rfl, ?_⟩
          unfold srcI
          first
            | (rw [if_neg (by omega), if_pos (by omega)]; done)
            | (rw [if_neg (by omega), if_neg (by omega), if_neg (by omega), if_pos (by omega)]; omega)
            | (rw [if_neg (by omega), if_neg (by omega), if_neg (by omega), if_neg (by omega), if_neg (by omega), if_pos (by omega)]; omega)
            | (rw [if_pos (by omega)]; done)
            | (rw [if_neg (by omega), if_neg (by omega), if_pos (by omega)]; done)
            | (rw [if_neg (by omega), if_neg (by omega), if_neg (by omega), if_neg (by omega), if_pos (by omega)]; done)
            | (rw [if_neg (by omega), if_neg (by omega), if_neg (by omega), if_neg (by omega), if_neg (by omega), if_neg (by omega)]; done)
        · refine v_iload_n (j := 0) (q := 37) rfl dX9_sourceOf_36 rfl ?_
          refine v_bipush (q := 39) (by decide) dX9_sourceOf_37 rfl ?_
          refine v_icmp_ge (tgt := 52) (q := 42) dX9_sourceOf_39 (by decide) rfl (by omega) (by omega) (fun h39 => ?_) (fun h39 => ?_)
          · refine v_iconst (q := 53) dX9_sourceOf_52 rfl ?_
            refine v_iret dX9_sourceOf_53 ?_
            refine ⟨_, rfl, rfl, ?_⟩
            unfold srcI
            first
              | (rw [if_neg (by omega), if_pos (by omega)]; done)
              | (rw [if_neg (by omega), if_neg (by omega), if_neg (by omega), if_pos (by omega)]; omega)
              | (rw [if_neg (by omega), if_neg (by omega), if_neg (by omega), if_neg (by omega), if_neg (by omega), if_pos (by omega)]; omega)
              | (rw [if_pos (by omega)]; done)
              | (rw [if_neg (by omega), if_neg (by omega), if_pos (by omega)]; done)
              | (rw [if_neg (by omega), if_neg (by omega), if_neg (by omega), if_neg (by omega), if_pos (by omega)]; done)
              | (rw [if_neg (by omega), if_neg (by omega), if_neg (by omega), if_neg (by omega), if_neg (by omega), if_neg (by omega)]; done)
          · refine v_iload_n (j := 0) (q := 43) rfl dX9_sourceOf_42 rfl ?_
            refine v_bipush (q := 45) (by decide) dX9_sourceOf_43 rfl ?_
            refine v_isub (q := 46) dX9_sourceOf_45 rfl ?_
            refine v_iconst (q := 47) dX9_sourceOf_46 rfl ?_
            refine v_iadd (q := 48) dX9_sourceOf_47 rfl ?_
            refine v_bipush (q := 50) (by decide) dX9_sourceOf_48 rfl ?_
            refine v_iadd (q := 51) dX9_sourceOf_50 rfl ?_
            refine v_iret dX9_sourceOf_51 ?_
            refine ⟨_, rfl, rfl, ?_⟩
            unfold srcI
            first
              | (rw [if_neg (by omega), if_pos (by omega)]; done)
              | (rw [if_neg (by omega), if_neg (by omega), if_neg (by omega), if_pos (by omega)]; omega)
              | (rw [if_neg (by omega), if_neg (by omega), if_neg (by omega), if_neg (by omega), if_neg (by omega), if_pos (by omega)]; omega)
              | (rw [if_pos (by omega)]; done)
              | (rw [if_neg (by omega), if_neg (by omega), if_pos (by omega)]; done)
              | (rw [if_neg (by omega), if_neg (by omega), if_neg (by omega), if_neg (by omega), if_pos (by omega)]; done)
              | (rw [if_neg (by omega), if_neg (by omega), if_neg (by omega), if_neg (by omega), if_neg (by omega), if_neg (by omega)]; done)
      · refine v_iload_n (j := 0) (q := 24) rfl dX9_sourceOf_23 rfl ?_
        refine v_bipush (q := 26) (by decide) dX9_sourceOf_24 rfl ?_
        refine v_isub (q := 27) dX9_sourceOf_26 rfl ?_
        refine v_iconst (q := 28) dX9_sourceOf_27 rfl ?_
        refine v_iadd (q := 29) dX9_sourceOf_28 rfl ?_
        refine v_iret dX9_sourceOf_29 ?_
        refine ⟨_, rfl, rfl, ?_⟩
        unfold srcI
        first
          | (rw [if_neg (by omega), if_pos (by omega)]; done)
          | (rw [if_neg (by omega), if_neg (by omega), if_neg (by omega), if_pos (by omega)]; omega)
          | (rw [if_neg (by omega), if_neg (by omega), if_neg (by omega), if_neg (by omega), if_neg (by omega), if_pos (by omega)]; omega)
          | (rw [if_pos (by omega)]; done)
          | (rw [if_neg (by omega), if_neg (by omega), if_pos (by omega)]; done)
          | (rw [if_neg (by omega), if_neg (by omega), if_neg (by omega), if_neg (by omega), if_pos (by omega)]; done)
          | (rw [if_neg (by omega), if_neg (by omega), if_neg (by omega), if_neg (by omega), if_neg (by omega), if_neg (by omega)]; done)
  · refine v_iload_n (j := 0) (q := 5) rfl dX9_sourceOf_4 rfl ?_
    refine v_iconst (q := 6) dX9_sourceOf_5 rfl ?_
    refine v_icmp_ge (tgt := 11) (q := 9) dX9_sourceOf_6 (by decide) rfl (by omega) (by omega) (fun h6 => ?_) (fun h6 => ?_)
    · refine v_iload_n (j := 0) (q := 12) rfl dX9_sourceOf_11 rfl ?_
      refine v_bipush (q := 14) (by decide) dX9_sourceOf_12 rfl ?_
      refine v_icmp_lt (tgt := 30) (q := 17) dX9_sourceOf_14 (by decide) rfl (by omega) (by omega) (fun h14 => ?_) (fun h14 => ?_)
      · refine v_iload_n (j := 0) (q := 31) rfl dX9_sourceOf_30 rfl ?_
        refine v_bipush (q := 33) (by decide) dX9_sourceOf_31 rfl ?_
        refine v_icmp_lt (tgt := 52) (q := 36) dX9_sourceOf_33 (by decide) rfl (by omega) (by omega) (fun h33 => ?_) (fun h33 => ?_)
        · refine v_iconst (q := 53) dX9_sourceOf_52 rfl ?_
          refine v_iret dX9_sourceOf_53 ?_
          refine ⟨_, rfl, rfl, ?_⟩
          unfold srcI
          first
            | (rw [if_neg (by omega), if_pos (by omega)]; done)
            | (rw [if_neg (by omega), if_neg (by omega), if_neg (by omega), if_pos (by omega)]; omega)
            | (rw [if_neg (by omega), if_neg (by omega), if_neg (by omega), if_neg (by omega), if_neg (by omega), if_pos (by omega)]; omega)
            | (rw [if_pos (by omega)]; done)
            | (rw [if_neg (by omega), if_neg (by omega), if_pos (by omega)]; done)
            | (rw [if_neg (by omega), if_neg (by omega), if_neg (by omega), if_neg (by omega), if_pos (by omega)]; done)
            | (rw [if_neg (by omega), if_neg (by omega), if_neg (by omega), if_neg (by omega), if_neg (by omega), if_neg (by omega)]; done)
        · refine v_iload_n (j := 0) (q := 37) rfl dX9_sourceOf_36 rfl ?_
          refine v_bipush (q := 39) (by decide) dX9_sourceOf_37 rfl ?_
          refine v_icmp_ge (tgt := 52) (q := 42) dX9_sourceOf_39 (by decide) rfl (by omega) (by omega) (fun h39 => ?_) (fun h39 => ?_)
          · refine v_iconst (q := 53) dX9_sourceOf_52 rfl ?_
            refine v_iret dX9_sourceOf_53 ?_
            refine ⟨_, rfl, rfl, ?_⟩
            unfold srcI
            first
              | (rw [if_neg (by omega), if_pos (by omega)]; done)
              | (rw [if_neg (by omega), if_neg (by omega), if_neg (by omega), if_pos (by omega)]; omega)
              | (rw [if_neg (by omega), if_neg (by omega), if_neg (by omega), if_neg (by omega), if_neg (by omega), if_pos (by omega)]; omega)
              | (rw [if_pos (by omega)]; done)
              | (rw [if_neg (by omega), if_neg (by omega), if_pos (by omega)]; done)
              | (rw [if_neg (by omega), if_neg (by omega), if_neg (by omega), if_neg (by omega), if_pos (by omega)]; done)
              | (rw [if_neg (by omega), if_neg (by omega), if_neg (by omega), if_neg (by omega), if_neg (by omega), if_neg (by omega)]; done)
          · refine v_iload_n (j := 0) (q := 43) rfl dX9_sourceOf_42 rfl ?_
            refine v_bipush (q := 45) (by decide) dX9_sourceOf_43 rfl ?_
            refine v_isub (q := 46) dX9_sourceOf_45 rfl ?_
            refine v_iconst (q := 47) dX9_sourceOf_46 rfl ?_
            refine v_iadd (q := 48) dX9_sourceOf_47 rfl ?_
            refine v_bipush (q := 50) (by decide) dX9_sourceOf_48 rfl ?_
            refine v_iadd (q := 51) dX9_sourceOf_50 rfl ?_
            refine v_iret dX9_sourceOf_51 ?_
            refine ⟨_, rfl, rfl, ?_⟩
            unfold srcI
            first
              | (rw [if_neg (by omega), if_pos (by omega)]; done)
              | (rw [if_neg (by omega), if_neg (by omega), if_neg (by omega), if_pos (by omega)]; omega)
              | (rw [if_neg (by omega), if_neg (by omega), if_neg (by omega), if_neg (by omega), if_neg (by omega), if_pos (by omega)]; omega)
              | (rw [if_pos (by omega)]; done)
              | (rw [if_neg (by omega), if_neg (by omega), if_pos (by omega)]; done)
              | (rw [if_neg (by omega), if_neg (by omega), if_neg (by omega), if_neg (by omega), if_pos (by omega)]; done)
              | (rw [if_neg (by omega), if_neg (by omega), if_neg (by omega), if_neg (by omega), if_neg (by omega), if_neg (by omega)]; done)
      · refine v_iload_n (j := 0) (q := 18) rfl dX9_sourceOf_17 rfl ?_
        refine v_bipush (q := 20) (by decide) dX9_sourceOf_18 rfl ?_
        refine v_icmp_ge (tgt := 30) (q := 23) dX9_sourceOf_20 (by decide) rfl (by omega) (by omega) (fun h20 => ?_) (fun h20 => ?_)
        · refine v_iload_n (j := 0) (q := 31) rfl dX9_sourceOf_30 rfl ?_
          refine v_bipush (q := 33) (by decide) dX9_sourceOf_31 rfl ?_
          refine v_icmp_lt (tgt := 52) (q := 36) dX9_sourceOf_33 (by decide) rfl (by omega) (by omega) (fun h33 => ?_) (fun h33 => ?_)
          · refine v_iconst (q := 53) dX9_sourceOf_52 rfl ?_
            refine v_iret dX9_sourceOf_53 ?_
            refine ⟨_, rfl, rfl, ?_⟩
            unfold srcI
            first
              | (rw [if_neg (by omega), if_pos (by omega)]; done)
              | (rw [if_neg (by omega), if_neg (by omega), if_neg (by omega), if_pos (by omega)]; omega)
              | (rw [if_neg (by omega), if_neg (by omega), if_neg (by omega), if_neg (by omega), if_neg (by omega), if_pos (by omega)]; omega)
              | (rw [if_pos (by omega)]; done)
              | (rw [if_neg (by omega), if_neg (by omega), if_pos (by omega)]; done)
              | (rw [if_neg (by omega), if_neg (by omega), if_neg (by omega), if_neg (by omega), if_pos (by omega)]; done)
              | (rw [if_neg (by omega), if_neg (by omega), if_neg (by omega), if_neg (by omega), if_neg (by omega), if_neg (by omega)]; done)
          · refine v_iload_n (j := 0) (q := 37) rfl dX9_sourceOf_36 rfl ?_
            refine v_bipush (q := 39) (by decide) dX9_sourceOf_37 rfl ?_
            refine v_icmp_ge (tgt := 52) (q := 42) dX9_sourceOf_39 (by decide) rfl (by omega) (by omega) (fun h39 => ?_) (fun h39 => ?_)
            · refine v_iconst (q := 53) dX9_sourceOf_52 rfl ?_
              refine v_iret dX9_sourceOf_53 ?_
              refine ⟨_, rfl, rfl, ?_⟩
              unfold srcI
              first
                | (rw [if_neg (by omega), if_pos (by omega)]; done)
                | (rw [if_neg (by omega), if_neg (by omega), if_neg (by omega), if_pos (by omega)]; omega)
                | (rw [if_neg (by omega), if_neg (by omega), if_neg (by omega), if_neg (by omega), if_neg (by omega), if_pos (by omega)]; omega)
                | (rw [if_pos (by omega)]; done)
                | (rw [if_neg (by omega), if_neg (by omega), if_pos (by omega)]; done)
                | (rw [if_neg (by omega), if_neg (by omega), if_neg (by omega), if_neg (by omega), if_pos (by omega)]; done)
                | (rw [if_neg (by omega), if_neg (by omega), if_neg (by omega), if_neg (by omega), if_neg (by omega), if_neg (by omega)]; done)
            · refine v_iload_n (j := 0) (q := 43) rfl dX9_sourceOf_42 rfl ?_
              refine v_bipush (q := 45) (by decide) dX9_sourceOf_43 rfl ?_
              refine v_isub (q := 46) dX9_sourceOf_45 rfl ?_
              refine v_iconst (q := 47) dX9_sourceOf_46 rfl ?_
              refine v_iadd (q := 48) dX9_sourceOf_47 rfl ?_
              refine v_bipush (q := 50) (by decide) dX9_sourceOf_48 rfl ?_
              refine v_iadd (q := 51) dX9_sourceOf_50 rfl ?_
              refine v_iret dX9_sourceOf_51 ?_
              refine ⟨_, rfl, rfl, ?_⟩
              unfold srcI
              first
                | (rw [if_neg (by omega), if_pos (by omega)]; done)
                | (rw [if_neg (by omega), if_neg (by omega), if_neg (by omega), if_pos (by omega)]; omega)
                | (rw [if_neg (by omega), if_neg (by omega), if_neg (by omega), if_neg (by omega), if_neg (by omega), if_pos (by omega)]; omega)
                | (rw [if_pos (by omega)]; done)
                | (rw [if_neg (by omega), if_neg (by omega), if_pos (by omega)]; done)
                | (rw [if_neg (by omega), if_neg (by omega), if_neg (by omega), if_neg (by omega), if_pos (by omega)]; done)
                | (rw [if_neg (by omega), if_neg (by omega), if_neg (by omega), if_neg (by omega), if_neg (by omega), if_neg (by omega)]; done)
        · refine v_iload_n (j := 0) (q := 24) rfl dX9_sourceOf_23 rfl ?_
          refine v_bipush (q := 26) (by decide) dX9_sourceOf_24 rfl ?_
          refine v_isub (q := 27) dX9_sourceOf_26 rfl ?_
          refine v_iconst (q := 28) dX9_sourceOf_27 rfl ?_
          refine v_iadd (q := 29) dX9_sourceOf_28 rfl ?_
          refine v_iret dX9_sourceOf_29 ?_
          refine ⟨_, rfl, rfl, ?_⟩
          unfold srcI
          first
            | (rw [if_neg (by omega), if_pos (by omega)]; done)
            | (rw [if_neg (by omega), if_neg (by omega), if_neg (by omega), if_pos (by omega)]; omega)
            | (rw [if_neg (by omega), if_neg (by omega), if_neg (by omega), if_neg (by omega), if_neg (by omega), if_pos (by omega)]; omega)
            | (rw [if_pos (by omega)]; done)
            | (rw [if_neg (by omega), if_neg (by omega), if_pos (by omega)]; done)
            | (rw [if_neg (by omega), if_neg (by omega), if_neg (by omega), if_neg (by omega), if_pos (by omega)]; done)
            | (rw [if_neg (by omega), if_neg (by omega), if_neg (by omega), if_neg (by omega), if_neg (by omega), if_neg (by omega)]; done)
    · refine v_iload_n (j := 0) (q := 10) rfl dX9_sourceOf_9 rfl ?_
      refine v_iret dX9_sourceOf_10 ?_
      refine ⟨_, rfl, rfl, ?_⟩
      unfold srcI
      first
        | (rw [if_neg (by omega), if_pos (by omega)]; done)
        | (rw [if_neg (by omega), if_neg (by omega), if_neg (by omega), if_pos (by omega)]; omega)
        | (rw [if_neg (by omega), if_neg (by omega), if_neg (by omega), if_neg (by omega), if_neg (by omega), if_pos (by omega)]; omega)
        | (rw [if_pos (by omega)]; done)
        | (rw [if_neg (by omega), if_neg (by omega), if_pos (by omega)]; done)
        | (rw [if_neg (by omega), if_neg (by omega), if_neg (by omega), if_neg (by omega), if_pos (by omega)]; done)
        | (rw [if_neg (by omega), if_neg (by omega), if_neg (by omega), if_neg (by omega), if_neg (by omega), if_neg (by omega)]; done)
theorem c_X9_nodeOf (f : Int) (mem : Mem) (hf : 0 ≤ f ∧ f < 28) : CtrI mX9_nodeOf [aI f] mem (fun z m => mem = m ∧ nodS f = z) := by
  refine Ctr.ofV (ls := [aI f, aU]) rfl (by decide) rfl (Nat.le_of_ble_eq_true rfl) ?_
  refine v_iload_n (j := 0) (q := 1) rfl dX9_nodeOf_0 rfl ?_
  refine v_iconst (q := 2) dX9_nodeOf_1 rfl ?_
  refine v_icmp_ge (tgt := 7) (q := 5) dX9_nodeOf_2 (by decide) rfl (by omega) (by omega) (fun h2 => ?_) (fun h2 => ?_)
  · refine v_iload_n (j := 0) (q := 8) rfl dX9_nodeOf_7 rfl ?_
    refine v_iconst (q := 9) dX9_nodeOf_8 rfl ?_
    refine v_isub (q := 10) dX9_nodeOf_9 rfl ?_
    refine v_ist1 (q := 11) rfl dX9_nodeOf_10 (by decide) rfl ?_
    refine v_iload_n (j := 1) (q := 12) rfl dX9_nodeOf_11 rfl ?_
    refine v_bipush (q := 14) (by decide) dX9_nodeOf_12 rfl ?_
    refine v_icmp_ge (tgt := 24) (q := 17) dX9_nodeOf_14 (by decide) rfl (by omega) (by omega) (fun h14 => ?_) (fun h14 => ?_)
    · refine v_bipush (q := 26) (by decide) dX9_nodeOf_24 rfl ?_
      refine v_iload_n (j := 1) (q := 27) rfl dX9_nodeOf_26 rfl ?_
      refine v_iadd (q := 28) dX9_nodeOf_27 rfl ?_
      refine v_bipush (q := 30) (by decide) dX9_nodeOf_28 rfl ?_
      refine v_isub (q := 31) dX9_nodeOf_30 rfl ?_
      refine v_iret dX9_nodeOf_31 ?_
      refine ⟨_, rfl, rfl, ?_⟩
      unfold nodS nodE
      first
        | (rw [if_pos (by omega)]; done)
        | (rw [if_neg (by omega), if_pos (by omega)]; done)
        | (rw [if_neg (by omega), if_neg (by omega)]; omega)
    · refine v_bipush (q := 19) (by decide) dX9_nodeOf_17 rfl ?_
      refine v_iload_n (j := 1) (q := 20) rfl dX9_nodeOf_19 rfl ?_
      refine v_iadd (q := 21) dX9_nodeOf_20 rfl ?_
      refine v_goto (q := 31) dX9_nodeOf_21 (by decide) ?_
      refine v_iret dX9_nodeOf_31 ?_
      refine ⟨_, rfl, rfl, ?_⟩
      unfold nodS nodE
      first
        | (rw [if_pos (by omega)]; done)
        | (rw [if_neg (by omega), if_pos (by omega)]; done)
        | (rw [if_neg (by omega), if_neg (by omega)]; omega)
  · refine v_iload_n (j := 0) (q := 6) rfl dX9_nodeOf_5 rfl ?_
    refine v_iret dX9_nodeOf_6 ?_
    refine ⟨_, rfl, rfl, ?_⟩
    unfold nodS nodE
    first
      | (rw [if_pos (by omega)]; done)
      | (rw [if_neg (by omega), if_pos (by omega)]; done)
      | (rw [if_neg (by omega), if_neg (by omega)]; omega)
theorem isN_src {y : Sy} (ok : okS y) {s : Int} (h : isHn y s ∨ isCh y s) : 4 ≤ srcI s := by
  obtain ⟨e, he, rfl⟩ := isN_E ok h
  rw [srcI_nodE (by omega)]
  omega
theorem arw_none {y : Sy} (ok : okS y) {f l s : Int} (h : ¬ (0 ≤ srcI f ∧ (0 ≤ l ∧ l < 6) ∧ 4 ≤ srcI s)) : arw y f l s = 1000001 := by
  have aw := arw_ok ok f l s
  rcases Int.lt_or_le (arw y f l s) 1000001 with hl | hl
  · exfalso
    obtain ⟨k1, k2, k3⟩ := (aw.2.1 hl).ok ok
    have hS := ok.1
    have hG := ok.2.1
    refine h ⟨?_, ?_, isN_src ok k2⟩
    · rcases k3 with ⟨g, -⟩ | ⟨g, -⟩ | ⟨g1, g2, g3, -⟩
      · unfold srcI
        rw [if_neg (by omega), if_pos (by omega)]; omega
      · have := isN_src ok (Or.inl g); omega
      · have := isN_src ok (s := f) (Or.inr ⟨g1, by omega⟩); omega
    · rcases k3 with ⟨-, g⟩ | ⟨-, g, -⟩ | ⟨-, -, -, -, g, -⟩ <;> omega
  · have := aw.1
    omega
noncomputable def sAw (y : Sy) (f l t : Int) : Int := if arw y f l t = 1000001 then -6 else arw y f l t
theorem c_X9_arcWeight (f l t : Int) (mem : Mem) (A : AS) (h : KI MO mem A) (hf : R32 f) (hl : R32 l) (ht : R32 t) : CtrI mX9_arcWeight [aR 0, aI f, aI l, aI t] mem (fun z m => sAw A.1 f l t = z ∧ KQ MO mem A m) := by
  have ok := h.1.1.2.2.1
  have sr : ∀ g : Int, -1 ≤ srcI g ∧ srcI g < 28 := fun g => by
    by_cases h0 : 0 ≤ srcI g
    · have := (srcI_ok h0).1; omega
    · have : srcI g = -1 := by
        unfold srcI at h0 ⊢
        repeat' split
        all_goals first | rfl | (exfalso; omega) | skip
        all_goals (simp_all; try omega)
      omega
  have s1 := sr f
  have s2 := sr t
  refine Ctr.ofV (ls := [aR 0, aI f, aI l, aI t, aU, aU]) rfl (by decide) rfl (Nat.le_of_ble_eq_true rfl) ?_
  refine v_iload_n (j := 1) (q := 1) rfl dX9_arcWeight_0 rfl ?_
  refine v_cSI1 (q := 4) dX9_arcWeight_1 mlX9_228 mdX9_sourceOf (by decide) ⟨Nat.le_refl 0, Nat.le_refl 0⟩ (by exact Nat.le_of_ble_eq_true rfl) rfl (c_X9_sourceOf f mem hf) ?_
  rintro _ _ ⟨rfl, rfl⟩
  refine v_ist4 (q := 6) rfl dX9_arcWeight_4 (by decide) rfl ?_
  refine v_iload_n (j := 3) (q := 7) rfl dX9_arcWeight_6 rfl ?_
  refine v_cSI1 (q := 10) dX9_arcWeight_7 mlX9_228 mdX9_sourceOf (by decide) ⟨Nat.le_refl 0, Nat.le_refl 0⟩ (by exact Nat.le_of_ble_eq_true rfl) rfl (c_X9_sourceOf t mem ht) ?_
  rintro _ _ ⟨rfl, rfl⟩
  refine v_iconst (q := 11) dX9_arcWeight_10 rfl ?_
  refine v_isub (q := 12) dX9_arcWeight_11 rfl ?_
  refine v_ist5 (q := 14) rfl dX9_arcWeight_12 (by decide) rfl ?_
  refine v_iload (j := 4) (q := 16) rfl dX9_arcWeight_14 rfl ?_
  refine v_if_lt (tgt := 34) (q := 19) dX9_arcWeight_16 (by decide) rfl (by omega) (fun h16 => ?_) (fun h16 => ?_)
  · refine v_bipush (q := 36) (by decide) dX9_arcWeight_34 rfl ?_
    refine v_iret dX9_arcWeight_36 ?_
    exact ⟨_, rfl, by unfold sAw; rw [if_pos (arw_none ok (by omega))], h.1, h.2, fun _ _ => rfl⟩
  · refine v_iload (j := 5) (q := 21) rfl dX9_arcWeight_19 rfl ?_
    refine v_if_lt (tgt := 34) (q := 24) dX9_arcWeight_21 (by decide) rfl (by omega) (fun h21 => ?_) (fun h21 => ?_)
    · refine v_bipush (q := 36) (by decide) dX9_arcWeight_34 rfl ?_
      refine v_iret dX9_arcWeight_36 ?_
      exact ⟨_, rfl, by unfold sAw; rw [if_pos (arw_none ok (by omega))], h.1, h.2, fun _ _ => rfl⟩
    · refine v_iload_n (j := 2) (q := 25) rfl dX9_arcWeight_24 rfl ?_
      refine v_if_lt (tgt := 34) (q := 28) dX9_arcWeight_25 (by decide) rfl (by omega) (fun h25 => ?_) (fun h25 => ?_)
      · refine v_bipush (q := 36) (by decide) dX9_arcWeight_34 rfl ?_
        refine v_iret dX9_arcWeight_36 ?_
        exact ⟨_, rfl, by unfold sAw; rw [if_pos (arw_none ok (by omega))], h.1, h.2, fun _ _ => rfl⟩
      · refine v_iload_n (j := 2) (q := 29) rfl dX9_arcWeight_28 rfl ?_
        refine v_bipush (q := 31) (by decide) dX9_arcWeight_29 rfl ?_
        refine v_icmp_lt (tgt := 37) (q := 34) dX9_arcWeight_31 (by decide) rfl (by omega) (by omega) (fun h31 => ?_) (fun h31 => ?_)
        · refine v_aload_n (j := 0) (q := 38) rfl dX9_arcWeight_37 rfl ?_
          refine v_cVV0 (q := 41) dX9_arcWeight_38 mlX9_199 mdX9_buildMachine (by decide) kd_0 rfl rfl ⟨Nat.le_refl 0, Nat.le_refl 0⟩ (by exact Nat.le_of_ble_eq_true rfl) rfl (c_X9_buildMachine mem A.1 h.1.1 h.2) ?_
          rintro m1 ⟨o1, o2, o3⟩
          refine v_aload_n (j := 0) (q := 42) rfl dX9_arcWeight_41 rfl ?_
          refine v_getR (p' := 83) (q := 45) dX9_arcWeight_42 fl_X9_89 kd_0 rfl (rfc_9_13 kd_0) rfl ?_
          refine v_iload (j := 4) (q := 47) rfl dX9_arcWeight_45 rfl ?_
          refine v_iload_n (j := 2) (q := 48) rfl dX9_arcWeight_47 rfl ?_
          refine v_iload (j := 5) (q := 50) rfl dX9_arcWeight_48 rfl ?_
          refine v_cVI3 (q := 53) dX9_arcWeight_50 mlX9_231 mdX1_weightAt (by decide) kd_83 rfl rfl ⟨Nat.le_refl 0, Nat.le_refl 0⟩ (by exact Nat.le_of_ble_eq_true rfl) rfl (c_X1_weightAt (srcI f) l (srcI t - 4) m1 (by omega) (by omega) (by omega)) ?_
          rintro _ _ ⟨rfl, rfl⟩
          refine v_iret dX9_arcWeight_53 ?_
          refine ⟨_, rfl, ?_, KQ.mach h o1 o2⟩
          rw [o3.2.1 (srcI f) l (srcI t - 4) ⟨by omega, by omega⟩ (by omega) (by omega), (srcI_ok (f := f) (by omega)).2, ← nodE_sub (by omega), (srcI_ok (f := t) (by omega)).2]
          rfl
        · refine v_bipush (q := 36) (by decide) dX9_arcWeight_34 rfl ?_
          refine v_iret dX9_arcWeight_36 ?_
          exact ⟨_, rfl, by unfold sAw; rw [if_pos (arw_none ok (by omega))], h.1, h.2, fun _ _ => rfl⟩
/-! the arcs in their order -/
def pR (y : Sy) (i : Int) : Prop := arw y (i / 210) (i / 35 % 6) (i % 35) ≠ 1000001
def phi (j : Int) : Int := 210 * nodS (j / 144) + 35 * (j / 24 % 6) + nodE (j % 24)
theorem nodS_mono {f g : Int} (h : f < g) (h0 : 0 ≤ f) (h1 : g < 28) : nodS f < nodS g ∧ 0 ≤ nodS f ∧ nodS g ≤ 34 := by
  unfold nodS nodE
  repeat' split
  all_goals omega
theorem nodE_mono {f g : Int} (h : f < g) (h0 : 0 ≤ f) (h1 : g < 24) : nodE f < nodE g := by
  unfold nodE
  repeat' split
  all_goals omega
theorem nodE_rng {e : Int} (h0 : 0 ≤ e) (h1 : e < 24) : 10 ≤ nodE e ∧ nodE e ≤ 34 := by
  unfold nodE
  split <;> omega
theorem nodS_rng {e : Int} (h0 : 0 ≤ e) (h1 : e < 28) : 0 ≤ nodS e ∧ nodS e ≤ 34 := by
  unfold nodS nodE
  repeat' split
  all_goals omega
theorem phi_at {j : Int} (h0 : 0 ≤ j) (h1 : j < 4032) : phi j / 210 = nodS (j / 144) ∧ phi j / 35 % 6 = j / 24 % 6 ∧ phi j % 35 = nodE (j % 24) ∧ 0 ≤ phi j ∧ phi j < 7350 := by
  have a := nodS_rng (e := j / 144) (by omega) (by omega)
  have b := nodE_rng (e := j % 24) (by omega) (by omega)
  unfold phi
  omega
theorem phi_mono {i j : Int} (h0 : 0 ≤ i) (h : i < j) (h1 : j < 4032) : phi i < phi j := by
  have b := nodE_rng (e := i % 24) (by omega) (by omega)
  have b2 := nodE_rng (e := j % 24) (by omega) (by omega)
  unfold phi
  by_cases g : i / 144 < j / 144
  · have := nodS_mono g (by omega) (by omega)
    omega
  · have e1 : i / 144 = j / 144 := by omega
    rw [e1]
    by_cases g2 : i / 24 % 6 < j / 24 % 6
    · omega
    · have e2 : i / 24 % 6 = j / 24 % 6 := by omega
      have := nodE_mono (f := i % 24) (g := j % 24) (by omega) (by omega) (by omega)
      omega
theorem phi_ex {y : Sy} (ok : okS y) {i : Nat} (h : pR y i) : ∃ j : Nat, j < 4032 ∧ phi j = i := by
  by_cases g : 0 ≤ srcI ((i : Int) / 210) ∧ (0 ≤ (i : Int) / 35 % 6 ∧ (i : Int) / 35 % 6 < 6) ∧ 4 ≤ srcI ((i : Int) % 35)
  · obtain ⟨g1, g2, g3⟩ := g
    have a := srcI_ok g1
    have b := srcI_ok (f := (i : Int) % 35) (by omega)
    obtain ⟨j, hj⟩ : ∃ j : Nat, (j : Int) = wx (srcI ((i : Int) / 210)) ((i : Int) / 35 % 6) (srcI ((i : Int) % 35) - 4) := ⟨(wx (srcI ((i : Int) / 210)) ((i : Int) / 35 % 6) (srcI ((i : Int) % 35) - 4)).toNat, by unfold wx; omega⟩
    unfold wx at hj
    refine ⟨j, by omega, ?_⟩
    unfold phi
    rw [show (j : Int) / 144 = srcI ((i : Int) / 210) by omega, show (j : Int) / 24 % 6 = (i : Int) / 35 % 6 by omega, show (j : Int) % 24 = srcI ((i : Int) % 35) - 4 by omega, ← nodE_sub g3, a.2, b.2]
    omega
  · exact absurd (arw_none ok g) h
theorem tab_phi {y : Sy} {w : Int → Int} (ok : okS y) (ht : tabOK y w) {j : Nat} (hj : j < 4032) : (w j ≠ -6 ↔ pR y (phi j)) ∧ (w j ≠ -6 → w j = arw y (nodS ((j : Int) / 144)) ((j : Int) / 24 % 6) (nodE ((j : Int) % 24))) := by
  have t := ht ((j : Int) / 144) ((j : Int) / 24 % 6) ((j : Int) % 24) ⟨by omega, by omega⟩ (by omega) (by omega)
  rw [show wx ((j : Int) / 144) ((j : Int) / 24 % 6) ((j : Int) % 24) = j by unfold wx; omega] at t
  have p := phi_at (j := (j : Int)) (by omega) (by omega)
  have r := arw_rng ok (nodS ((j : Int) / 144)) ((j : Int) / 24 % 6) (nodE ((j : Int) % 24))
  unfold pR
  rw [p.1, p.2.1, p.2.2.1, t]
  by_cases g : arw y (nodS ((j : Int) / 144)) ((j : Int) / 24 % 6) (nodE ((j : Int) % 24)) = 1000001
  · rw [if_pos g]
    exact ⟨⟨fun h => absurd rfl h, fun h => absurd g h⟩, fun h => absurd rfl h⟩
  · rw [if_neg g]
    exact ⟨⟨fun _ => g, fun _ => by omega⟩, fun _ => rfl⟩
theorem cP_phi {y : Sy} {w : Int → Int} (ok : okS y) (ht : tabOK y w) : ∀ j : Nat, j < 4032 → cP (fun i => w i ≠ -6) j = cP (pR y) (phi j).toNat
  | 0, _ => by
    have e : cP (pR y) (phi ((0 : Nat) : Int)).toNat = cP (pR y) 0 := cP_gap (by omega) (fun i _ hi hp => by
      obtain ⟨j, j1, j2⟩ := phi_ex ok hp
      have p0 := phi_at (j := ((0 : Nat) : Int)) (by omega) (by omega)
      by_cases g : j = 0
      · rw [g] at j2; omega
      · have := phi_mono (i := ((0 : Nat) : Int)) (j := (j : Int)) (by omega) (by omega) (by omega)
        omega)
    rw [e]
    rfl
  | j + 1, hj => by
    have ih := cP_phi ok ht j (by omega)
    have m := phi_mono (i := (j : Int)) (j := ((j + 1 : Nat) : Int)) (by omega) (by omega) (by omega)
    have p0 := phi_at (j := (j : Int)) (by omega) (by omega)
    have e : cP (pR y) (phi ((j + 1 : Nat) : Int)).toNat = cP (pR y) ((phi j).toNat + 1) := cP_gap (by omega) (fun i h1 h2 hp => by
      obtain ⟨j2, a1, a2⟩ := phi_ex ok hp
      rcases Nat.lt_trichotomy j2 j with g | g | g
      · have := phi_mono (i := (j2 : Int)) (j := (j : Int)) (by omega) (by omega) (by omega)
        omega
      · rw [g] at a2; omega
      · by_cases g2 : j2 = j + 1
        · rw [g2] at a2; omega
        · have := phi_mono (i := ((j + 1 : Nat) : Int)) (j := (j2 : Int)) (by omega) (by omega) (by omega)
          omega)
    rw [e]
    have tp := (tab_phi ok ht (j := j) (by omega)).1
    rw [show phi (j : Int) = ((phi (j : Int)).toNat : Int) by omega] at tp
    by_cases g : w j ≠ -6
    · rw [cP_t (P := fun i => w i ≠ -6) g, cP_t (P := pR y) (tp.mp g), ih]
    · rw [cP_f (P := fun i => w i ≠ -6) g, cP_f (P := pR y) (fun h => g (tp.mpr h)), ih]
theorem cP_all {y : Sy} {w : Int → Int} (ok : okS y) (ht : tabOK y w) : cP (fun i => w i ≠ -6) 4032 = cP (pR y) 7350 := by
  have p0 := phi_at (j := ((4031 : Nat) : Int)) (by omega) (by omega)
  have e : cP (pR y) 7350 = cP (pR y) ((phi ((4031 : Nat) : Int)).toNat + 1) := cP_gap (by omega) (fun i h1 h2 hp => by
    obtain ⟨j2, a1, a2⟩ := phi_ex ok hp
    by_cases g : j2 = 4031
    · rw [g] at a2; omega
    · have := phi_mono (i := (j2 : Int)) (j := ((4031 : Nat) : Int)) (by omega) (by omega) (by omega)
      omega)
  have ih := cP_phi ok ht 4031 (by omega)
  have tp := (tab_phi ok ht (j := 4031) (by omega)).1
  rw [show phi ((4031 : Nat) : Int) = ((phi ((4031 : Nat) : Int)).toNat : Int) by omega] at tp
  rw [e]
  by_cases g : w ((4031 : Nat) : Int) ≠ -6
  · rw [cP_t (P := fun i => w i ≠ -6) (n := 4031) g, cP_t (P := pR y) (tp.mp g), ih]
  · rw [cP_f (P := fun i => w i ≠ -6) (n := 4031) g, cP_f (P := pR y) (fun h => g (tp.mpr h)), ih]
noncomputable def sArcs (y : Sy) : Int := cP (pR y) 7350
noncomputable def arcP (y : Sy) (i what : Int) : Int := if what = 0 then i / 210 else if what = 1 then i / 35 % 6 else if what = 2 then i % 35 else arw y (i / 210) (i / 35 % 6) (i % 35)
def sArc (y : Sy) (k what z : Int) : Prop := (¬ (0 ≤ k ∧ (0 ≤ what ∧ what ≤ 3)) ∧ z = -2) ∨ ((0 ≤ k ∧ (0 ≤ what ∧ what ≤ 3)) ∧ ((sArcs y ≤ k ∧ z = -6) ∨ ∃ i : Nat, i < 7350 ∧ pR y i ∧ cP (pR y) i = k ∧ z = arcP y i what))
theorem sArc.det {y : Sy} {k what z z2 : Int} (h : sArc y k what z) (h2 : sArc y k what z2) : z = z2 := by
  have key : ∀ {i : Nat}, i < 7350 → pR y i → cP (pR y) i < sArcs y := fun hi hp => cP_lt (P := pR y) hi hp
  rcases h with ⟨a, b⟩ | ⟨a, h⟩
  · rcases h2 with ⟨a2, b2⟩ | ⟨a2, -⟩
    · omega
    · exact absurd a2 a
  · rcases h2 with ⟨a2, -⟩ | ⟨-, h2⟩
    · exact absurd a a2
    · rcases h with ⟨b, c⟩ | ⟨i, b1, b2, b3, b4⟩
      · rcases h2 with ⟨d, e⟩ | ⟨i2, d1, d2, d3, d4⟩
        · omega
        · have := key d1 d2; omega
      · rcases h2 with ⟨d, e⟩ | ⟨i2, d1, d2, d3, d4⟩
        · have := key b1 b2; omega
        · have e := cP_inj (P := pR y) b2 d2 (by omega)
          rw [b4, d4, e]
theorem c_X9_arcs (mem : Mem) (A : AS) (h : KI MO mem A) : CtrI mX9_arcs [aR 0] mem (fun z m => sArcs A.1 = z ∧ KQ MO mem A m) := by
  have ok := h.1.1.2.2.1
  refine Ctr.ofV (ls := [aR 0]) rfl (by decide) rfl (Nat.le_of_ble_eq_true rfl) ?_
  refine v_aload_n (j := 0) (q := 1) rfl dX9_arcs_0 rfl ?_
  refine v_cVV0 (q := 4) dX9_arcs_1 mlX9_199 mdX9_buildMachine (by decide) kd_0 rfl rfl ⟨Nat.le_refl 0, Nat.le_refl 0⟩ (by exact Nat.le_of_ble_eq_true rfl) rfl (c_X9_buildMachine mem A.1 h.1.1 h.2) ?_
  rintro m1 ⟨o1, o2, o3⟩
  refine v_aload_n (j := 0) (q := 5) rfl dX9_arcs_4 rfl ?_
  refine v_getR (p' := 83) (q := 8) dX9_arcs_5 fl_X9_89 kd_0 rfl (rfc_9_13 kd_0) rfl ?_
  refine v_getI (j := 1) (q := 11) dX9_arcs_8 fl_X9_226 kd_83 rfl rfl rfl ?_
  refine v_iret dX9_arcs_11 ?_
  exact ⟨_, rfl, by rw [o3.2.2.2.1.1, cP_all ok o3.2.1]; rfl, KQ.mach h o1 o2⟩
theorem c_X1_part (k what : Int) (j : Nat) (mem : Mem) (h : arcK mem k j) (hw : 0 ≤ what ∧ what ≤ 3) : CtrI mX1_part [aR 83, aI k, aI what] mem (fun z m => mem = m ∧ (if what = 0 then nodS ((j : Int) / 144) else if what = 1 then (j : Int) / 24 % 6 else if what = 2 then nodE ((j : Int) % 24) else mem 84 j) = z) := by
  obtain ⟨h1, h2, h3, h4, h5, h6⟩ := id h
  refine Ctr.ofV (ls := [aR 83, aI k, aI what]) rfl (by decide) rfl (Nat.le_of_ble_eq_true rfl) ?_
  refine v_iload_n (j := 2) (q := 1) rfl dX1_part_0 rfl ?_
  rcases (show (what < 0 ∨ 2 < what) ∨ what = 0 ∨ what = 1 ∨ what = 2 by omega) with hsw | rfl | rfl | rfl
  · refine v_tableOut (tgt := 57) dX1_part_1 (by omega) hsw (by decide) ?_
    refine v_aload_n (j := 0) (q := 58) rfl dX1_part_57 rfl ?_
    refine v_iload_n (j := 1) (q := 59) rfl dX1_part_58 rfl ?_
    refine v_cVI1 (q := 62) dX1_part_59 mlX1_166 mdX1_weightOfArc (by decide) kd_83 rfl rfl ⟨Nat.le_refl 0, Nat.le_refl 0⟩ (by exact Nat.le_of_ble_eq_true rfl) rfl (c_X1_weightOfArc k j mem h) ?_
    rintro _ _ ⟨rfl, rfl⟩
    refine v_iret dX1_part_62 ?_
    exact ⟨_, rfl, rfl, by rw [if_neg (by omega), if_neg (by omega), if_neg (by omega)]⟩
  · refine v_tableIn (tgt := 28) dX1_part_1 (by omega) (by omega) (by omega) rfl (by decide) ?_
    refine v_aload_n (j := 0) (q := 29) rfl dX1_part_28 rfl ?_
    refine v_getR (p' := 113) (q := 32) dX1_part_29 fl_X1_42 kd_83 rfl (rfc_1_10 kd_83) rfl ?_
    refine v_iload_n (j := 1) (q := 33) rfl dX1_part_32 rfl ?_
    refine v_iald (q := 34) dX1_part_33 kd_113 (by omega) (by omega) rfl ?_
    rw [h3]
    refine v_cSNI1 (q := 37) dX1_part_34 mlX1_162 mdX9_nodeOf (by decide) ⟨Nat.le_refl 0, Nat.le_refl 0⟩ (by exact Nat.le_of_ble_eq_true rfl) rfl (c_X9_nodeOf _ mem (by omega)) ?_
    rintro _ _ ⟨rfl, rfl⟩
    refine v_iret dX1_part_37 ?_
    exact ⟨_, rfl, rfl, rfl⟩
  · refine v_tableIn (tgt := 38) dX1_part_1 (by omega) (by omega) (by omega) rfl (by decide) ?_
    refine v_aload_n (j := 0) (q := 39) rfl dX1_part_38 rfl ?_
    refine v_getR (p' := 114) (q := 42) dX1_part_39 fl_X1_45 kd_83 rfl (rfc_1_11 kd_83) rfl ?_
    refine v_iload_n (j := 1) (q := 43) rfl dX1_part_42 rfl ?_
    refine v_iald (q := 44) dX1_part_43 kd_114 (by omega) (by omega) rfl ?_
    rw [h4]
    refine v_iret dX1_part_44 ?_
    exact ⟨_, rfl, rfl, rfl⟩
  · refine v_tableIn (tgt := 45) dX1_part_1 (by omega) (by omega) (by omega) rfl (by decide) ?_
    refine v_iconst (q := 46) dX1_part_45 rfl ?_
    refine v_aload_n (j := 0) (q := 47) rfl dX1_part_46 rfl ?_
    refine v_getR (p' := 115) (q := 50) dX1_part_47 fl_X1_48 kd_83 rfl (rfc_1_12 kd_83) rfl ?_
    refine v_iload_n (j := 1) (q := 51) rfl dX1_part_50 rfl ?_
    refine v_iald (q := 52) dX1_part_51 kd_115 (by omega) (by omega) rfl ?_
    rw [h5]
    refine v_iadd (q := 53) dX1_part_52 rfl ?_
    refine v_cSNI1 (q := 56) dX1_part_53 mlX1_162 mdX9_nodeOf (by decide) ⟨Nat.le_refl 0, Nat.le_refl 0⟩ (by exact Nat.le_of_ble_eq_true rfl) rfl (c_X9_nodeOf _ mem (by omega)) ?_
    rintro _ _ ⟨rfl, rfl⟩
    refine v_iret dX1_part_56 ?_
    exact ⟨_, rfl, rfl, by rw [if_neg (by omega), if_neg (by omega), if_pos rfl, nodE_sub (by omega), show (4 : Int) + (j : Int) % 24 - 4 = (j : Int) % 24 by omega]⟩
theorem c_X9_arc (k what : Int) (mem : Mem) (A : AS) (h : KI MO mem A) (hk : R32 k) (hw : R32 what) : CtrI mX9_arc [aR 0, aI k, aI what] mem (fun z m => sArc A.1 k what z ∧ KQ MO mem A m) := by
  have ok := h.1.1.2.2.1
  refine Ctr.ofV (ls := [aR 0, aI k, aI what]) rfl (by decide) rfl (Nat.le_of_ble_eq_true rfl) ?_
  refine v_iload_n (j := 1) (q := 1) rfl dX9_arc_0 rfl ?_
  refine v_if_lt (tgt := 13) (q := 4) dX9_arc_1 (by decide) rfl (by omega) (fun h1 => ?_) (fun h1 => ?_)
  · refine v_bipush (q := 15) (by decide) dX9_arc_13 rfl ?_
    refine v_iret dX9_arc_15 ?_
    exact ⟨_, rfl, Or.inl ⟨by omega, rfl⟩, h.1, h.2, fun _ _ => rfl⟩
  · refine v_iload_n (j := 2) (q := 5) rfl dX9_arc_4 rfl ?_
    refine v_if_lt (tgt := 13) (q := 8) dX9_arc_5 (by decide) rfl (by omega) (fun h5 => ?_) (fun h5 => ?_)
    · refine v_bipush (q := 15) (by decide) dX9_arc_13 rfl ?_
      refine v_iret dX9_arc_15 ?_
      exact ⟨_, rfl, Or.inl ⟨by omega, rfl⟩, h.1, h.2, fun _ _ => rfl⟩
    · refine v_iload_n (j := 2) (q := 9) rfl dX9_arc_8 rfl ?_
      refine v_iconst (q := 10) dX9_arc_9 rfl ?_
      refine v_icmp_le (tgt := 16) (q := 13) dX9_arc_10 (by decide) rfl (by omega) (by omega) (fun h10 => ?_) (fun h10 => ?_)
      · refine v_aload_n (j := 0) (q := 17) rfl dX9_arc_16 rfl ?_
        refine v_cVV0 (q := 20) dX9_arc_17 mlX9_199 mdX9_buildMachine (by decide) kd_0 rfl rfl ⟨Nat.le_refl 0, Nat.le_refl 0⟩ (by exact Nat.le_of_ble_eq_true rfl) rfl (c_X9_buildMachine mem A.1 h.1.1 h.2) ?_
        rintro m1 ⟨o1, o2, o3⟩
        have ec : m1 83 1 = sArcs A.1 := (by rw [o3.2.2.2.1.1, cP_all ok o3.2.1]; rfl)
        have ec2 : m1 83 1 ≤ 504 := (by rw [o3.2.2.2.1.1]; exact o3.2.2.2.2.1)
        have ec0 : 0 ≤ m1 83 1 := (by rw [ec]; exact (cP_rng (pR A.1) 7350).1)
        refine v_iload_n (j := 1) (q := 21) rfl dX9_arc_20 rfl ?_
        refine v_aload_n (j := 0) (q := 22) rfl dX9_arc_21 rfl ?_
        refine v_getR (p' := 83) (q := 25) dX9_arc_22 fl_X9_89 kd_0 rfl (rfc_9_13 kd_0) rfl ?_
        refine v_getI (j := 1) (q := 28) dX9_arc_25 fl_X9_226 kd_83 rfl rfl rfl ?_
        refine v_icmp_ge (tgt := 43) (q := 31) dX9_arc_28 (by decide) rfl (by omega) (by omega) (fun h28 => ?_) (fun h28 => ?_)
        · refine v_bipush (q := 45) (by decide) dX9_arc_43 rfl ?_
          refine v_iret dX9_arc_45 ?_
          refine ⟨_, rfl, ?_, KQ.mach h o1 o2⟩
          first
            | exact Or.inr ⟨by omega, Or.inl ⟨by omega, rfl⟩⟩
            | (have hj4 := ak.2.1
               have tp := tab_phi ok o3.2.1 hj4
               have pa := phi_at (j := (j : Int)) (by omega) (by omega)
               have cp := cP_phi ok o3.2.1 j hj4
               have e9 : (((phi (j : Int)).toNat : Nat) : Int) = phi j := by omega
               refine Or.inr ⟨by omega, Or.inr ⟨(phi (j : Int)).toNat, by omega, by rw [e9]; exact tp.1.mp ak.2.2.2.2.2, by rw [← cp]; exact hj, ?_⟩⟩
               unfold arcP
               rw [e9, pa.1, pa.2.1, pa.2.2.1, tp.2 ak.2.2.2.2.2])
        · obtain ⟨j, ak, hj⟩ := o3.2.2.2.1.at rfl o3.2.2.2.2.1 (k := k) (by omega) (by omega)
          refine v_aload_n (j := 0) (q := 32) rfl dX9_arc_31 rfl ?_
          refine v_getR (p' := 83) (q := 35) dX9_arc_32 fl_X9_89 kd_0 rfl (rfc_9_13 kd_0) rfl ?_
          refine v_iload_n (j := 1) (q := 36) rfl dX9_arc_35 rfl ?_
          refine v_iload_n (j := 2) (q := 37) rfl dX9_arc_36 rfl ?_
          refine v_cVI2 (q := 40) dX9_arc_37 mlX9_227 mdX1_part (by decide) kd_83 rfl rfl ⟨Nat.le_refl 0, Nat.le_refl 0⟩ (by exact Nat.le_of_ble_eq_true rfl) rfl (c_X1_part k what j m1 ak (by omega)) ?_
          rintro _ _ ⟨rfl, rfl⟩
          refine v_goto (q := 45) dX9_arc_40 (by decide) ?_
          refine v_iret dX9_arc_45 ?_
          refine ⟨_, rfl, ?_, KQ.mach h o1 o2⟩
          first
            | exact Or.inr ⟨by omega, Or.inl ⟨by omega, rfl⟩⟩
            | (have hj4 := ak.2.1
               have tp := tab_phi ok o3.2.1 hj4
               have pa := phi_at (j := (j : Int)) (by omega) (by omega)
               have cp := cP_phi ok o3.2.1 j hj4
               have e9 : (((phi (j : Int)).toNat : Nat) : Int) = phi j := by omega
               refine Or.inr ⟨by omega, Or.inr ⟨(phi (j : Int)).toNat, by omega, by rw [e9]; exact tp.1.mp ak.2.2.2.2.2, by rw [← cp]; exact hj, ?_⟩⟩
               unfold arcP
               rw [e9, pa.1, pa.2.1, pa.2.2.1, tp.2 ak.2.2.2.2.2])
      · refine v_bipush (q := 15) (by decide) dX9_arc_13 rfl ?_
        refine v_iret dX9_arc_15 ?_
        exact ⟨_, rfl, Or.inl ⟨by omega, rfl⟩, h.1, h.2, fun _ _ => rfl⟩
