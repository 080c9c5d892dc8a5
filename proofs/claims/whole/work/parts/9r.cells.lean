/-! ===== the cells behind the two constructors are those of mem0 ===== -/
def allC : List AC := labC ++ modC
def CE (p : Nat) : Prop := ∃ e, allC[p]? = some e ∧ ∀ (G : WG) (ad : Nat → Nat) (H : Heap), va_at G.1 vwCl (ad p, cellA G ad e) H → va_at G.1 vwCl (ad p, cellOf G ad mem0 p) H
theorem ce_0 : CE 0 := ⟨_, rfl, fun G ad H h => h⟩
theorem ce_1 : CE 1 := ⟨_, rfl, fun G ad H h => h⟩
theorem ce_2 : CE 2 := ⟨_, rfl, fun G ad H h => h⟩
theorem ce_3 : CE 3 := ⟨_, rfl, fun G ad H h => h⟩
theorem ce_4 : CE 4 := ⟨_, rfl, fun G ad H h => h⟩
theorem ce_5 : CE 5 := ⟨_, rfl, fun G ad H h => h⟩
def F6 : Nat → Option Nat := (va_up (va_up (va_up (va_up (va_up (va_up (va_up (va_up (fun _ => none) 0 (some (5 + 2))) 1 (some (5 + 4))) 2 (some (5 + 6))) 3 (some (5 + 8))) 4 (some (5 + 10))) 5 (some (5 + 12))) 6 (some (5 + 14))) 7 (some (5 + 16)))
theorem F6_at (j : Nat) (hj : j < 8) : F6 j = some (mem0 6 j).toNat := by
  rcases (show j = 0 ∨ j = 1 ∨ j = 2 ∨ j = 3 ∨ j = 4 ∨ j = 5 ∨ j = 6 ∨ j = 7 by omega) with rfl | rfl | rfl | rfl | rfl | rfl | rfl | rfl <;> decide
theorem ce_6 : CE 6 := by
  refine ⟨cQ 4 8 F6, rfl, fun G ad H h => ?_⟩
  have h : H[ad 6]? = some (arrV G.2.2.2.2.2 8 (fun j => va_rf ((F6 j).map ad))) := h
  show H[ad 6]? = some (arrV G.2.2.2.2.2 8 (fun k => va_rf (some (ad (mem0 6 k).toNat))))
  rw [h]
  refine congrArg some (arrV_same (fun j hj => ?_))
  rw [F6_at j hj]
  rfl
theorem ce_7 : CE 7 := ⟨_, rfl, fun G ad H h => h⟩
theorem ce_8 : CE 8 := ⟨_, rfl, fun G ad H h => h⟩
theorem ce_9 : CE 9 := ⟨_, rfl, fun G ad H h => h⟩
theorem ce_10 : CE 10 := ⟨_, rfl, fun G ad H h => h⟩
theorem ce_11 : CE 11 := ⟨_, rfl, fun G ad H h => h⟩
theorem ce_12 : CE 12 := ⟨_, rfl, fun G ad H h => h⟩
theorem ce_13 : CE 13 := ⟨_, rfl, fun G ad H h => h⟩
theorem ce_14 : CE 14 := ⟨_, rfl, fun G ad H h => h⟩
theorem ce_15 : CE 15 := ⟨_, rfl, fun G ad H h => h⟩
theorem ce_16 : CE 16 := ⟨_, rfl, fun G ad H h => h⟩
theorem ce_17 : CE 17 := ⟨_, rfl, fun G ad H h => h⟩
theorem ce_18 : CE 18 := ⟨_, rfl, fun G ad H h => h⟩
theorem ce_19 : CE 19 := ⟨_, rfl, fun G ad H h => h⟩
theorem ce_20 : CE 20 := ⟨_, rfl, fun G ad H h => h⟩
theorem ce_21 : CE 21 := ⟨_, rfl, fun G ad H h => h⟩
theorem ce_22 : CE 22 := ⟨_, rfl, fun G ad H h => h⟩
theorem ce_23 : CE 23 := ⟨_, rfl, fun G ad H h => h⟩
theorem ce_24 : CE 24 := ⟨_, rfl, fun G ad H h => h⟩
theorem ce_25 : CE 25 := ⟨_, rfl, fun G ad H h => h⟩
theorem ce_26 : CE 26 := ⟨_, rfl, fun G ad H h => h⟩
theorem ce_27 : CE 27 := ⟨_, rfl, fun G ad H h => h⟩
theorem ce_28 : CE 28 := ⟨_, rfl, fun G ad H h => h⟩
theorem ce_29 : CE 29 := ⟨_, rfl, fun G ad H h => h⟩
theorem ce_30 : CE 30 := ⟨_, rfl, fun G ad H h => h⟩
theorem ce_31 : CE 31 := ⟨_, rfl, fun G ad H h => h⟩
theorem ce_32 : CE 32 := ⟨_, rfl, fun G ad H h => h⟩
theorem ce_33 : CE 33 := ⟨_, rfl, fun G ad H h => h⟩
theorem ce_34 : CE 34 := ⟨_, rfl, fun G ad H h => h⟩
theorem ce_35 : CE 35 := ⟨_, rfl, fun G ad H h => h⟩
theorem ce_36 : CE 36 := ⟨_, rfl, fun G ad H h => h⟩
theorem ce_37 : CE 37 := ⟨_, rfl, fun G ad H h => h⟩
theorem ce_38 : CE 38 := ⟨_, rfl, fun G ad H h => h⟩
theorem ce_39 : CE 39 := ⟨_, rfl, fun G ad H h => h⟩
theorem ce_40 : CE 40 := ⟨_, rfl, fun G ad H h => h⟩
theorem ce_41 : CE 41 := ⟨_, rfl, fun G ad H h => h⟩
theorem ce_42 : CE 42 := ⟨_, rfl, fun G ad H h => h⟩
theorem ce_43 : CE 43 := ⟨_, rfl, fun G ad H h => h⟩
theorem ce_44 : CE 44 := ⟨_, rfl, fun G ad H h => h⟩
theorem ce_45 : CE 45 := ⟨_, rfl, fun G ad H h => h⟩
theorem ce_46 : CE 46 := ⟨_, rfl, fun G ad H h => h⟩
theorem ce_47 : CE 47 := ⟨_, rfl, fun G ad H h => h⟩
theorem ce_48 : CE 48 := ⟨_, rfl, fun G ad H h => h⟩
theorem ce_49 : CE 49 := ⟨_, rfl, fun G ad H h => h⟩
theorem ce_50 : CE 50 := ⟨_, rfl, fun G ad H h => h⟩
theorem ce_51 : CE 51 := ⟨_, rfl, fun G ad H h => h⟩
theorem ce_52 : CE 52 := ⟨_, rfl, fun G ad H h => h⟩
theorem ce_53 : CE 53 := ⟨_, rfl, fun G ad H h => h⟩
theorem ce_54 : CE 54 := ⟨_, rfl, fun G ad H h => h⟩
theorem ce_55 : CE 55 := ⟨_, rfl, fun G ad H h => h⟩
theorem ce_56 : CE 56 := ⟨_, rfl, fun G ad H h => h⟩
theorem ce_57 : CE 57 := ⟨_, rfl, fun G ad H h => h⟩
theorem ce_58 : CE 58 := ⟨_, rfl, fun G ad H h => h⟩
theorem ce_59 : CE 59 := ⟨_, rfl, fun G ad H h => h⟩
theorem ce_60 : CE 60 := ⟨_, rfl, fun G ad H h => h⟩
theorem ce_61 : CE 61 := ⟨_, rfl, fun G ad H h => h⟩
theorem ce_62 : CE 62 := ⟨_, rfl, fun G ad H h => h⟩
theorem ce_63 : CE 63 := ⟨_, rfl, fun G ad H h => h⟩
theorem ce_64 : CE 64 := ⟨_, rfl, fun G ad H h => h⟩
theorem ce_65 : CE 65 := ⟨_, rfl, fun G ad H h => h⟩
theorem ce_66 : CE 66 := ⟨_, rfl, fun G ad H h => h⟩
theorem ce_67 : CE 67 := ⟨_, rfl, fun G ad H h => h⟩
theorem ce_68 : CE 68 := ⟨_, rfl, fun G ad H h => h⟩
theorem ce_69 : CE 69 := ⟨_, rfl, fun G ad H h => h⟩
theorem ce_70 : CE 70 := ⟨_, rfl, fun G ad H h => h⟩
theorem ce_71 : CE 71 := ⟨_, rfl, fun G ad H h => h⟩
theorem ce_72 : CE 72 := ⟨_, rfl, fun G ad H h => h⟩
theorem ce_73 : CE 73 := ⟨_, rfl, fun G ad H h => h⟩
theorem ce_74 : CE 74 := ⟨_, rfl, fun G ad H h => h⟩
theorem ce_75 : CE 75 := ⟨_, rfl, fun G ad H h => h⟩
theorem ce_76 : CE 76 := ⟨_, rfl, fun G ad H h => h⟩
theorem ce_77 : CE 77 := ⟨_, rfl, fun G ad H h => h⟩
theorem ce_78 : CE 78 := ⟨_, rfl, fun G ad H h => h⟩
theorem ce_79 : CE 79 := ⟨_, rfl, fun G ad H h => h⟩
theorem ce_80 : CE 80 := ⟨_, rfl, fun G ad H h => h⟩
theorem ce_81 : CE 81 := ⟨_, rfl, fun G ad H h => h⟩
theorem ce_82 : CE 82 := ⟨_, rfl, fun G ad H h => h⟩
theorem ce_83 : CE 83 := ⟨_, rfl, fun G ad H h => h⟩
theorem ce_84 : CE 84 := ⟨_, rfl, fun G ad H h => h⟩
theorem ce_85 : CE 85 := ⟨_, rfl, fun G ad H h => h⟩
theorem ce_86 : CE 86 := ⟨_, rfl, fun G ad H h => h⟩
theorem ce_87 : CE 87 := ⟨_, rfl, fun G ad H h => h⟩
theorem ce_88 : CE 88 := ⟨_, rfl, fun G ad H h => h⟩
theorem ce_89 : CE 89 := ⟨_, rfl, fun G ad H h => h⟩
theorem ce_90 : CE 90 := ⟨_, rfl, fun G ad H h => h⟩
theorem ce_91 : CE 91 := ⟨_, rfl, fun G ad H h => h⟩
theorem ce_92 : CE 92 := ⟨_, rfl, fun G ad H h => h⟩
theorem ce_93 : CE 93 := ⟨_, rfl, fun G ad H h => h⟩
theorem ce_94 : CE 94 := ⟨_, rfl, fun G ad H h => h⟩
theorem ce_95 : CE 95 := ⟨_, rfl, fun G ad H h => h⟩
theorem ce_96 : CE 96 := ⟨_, rfl, fun G ad H h => h⟩
theorem ce_97 : CE 97 := ⟨_, rfl, fun G ad H h => h⟩
theorem ce_98 : CE 98 := ⟨_, rfl, fun G ad H h => h⟩
theorem ce_99 : CE 99 := ⟨_, rfl, fun G ad H h => h⟩
theorem ce_100 : CE 100 := ⟨_, rfl, fun G ad H h => h⟩
theorem ce_101 : CE 101 := ⟨_, rfl, fun G ad H h => h⟩
theorem ce_102 : CE 102 := ⟨_, rfl, fun G ad H h => h⟩
theorem ce_103 : CE 103 := ⟨_, rfl, fun G ad H h => h⟩
theorem ce_104 : CE 104 := ⟨_, rfl, fun G ad H h => h⟩
theorem ce_105 : CE 105 := ⟨_, rfl, fun G ad H h => h⟩
theorem ce_106 : CE 106 := ⟨_, rfl, fun G ad H h => h⟩
theorem ce_107 : CE 107 := ⟨_, rfl, fun G ad H h => h⟩
theorem ce_108 : CE 108 := ⟨_, rfl, fun G ad H h => h⟩
theorem ce_109 : CE 109 := ⟨_, rfl, fun G ad H h => h⟩
theorem ce_110 : CE 110 := ⟨_, rfl, fun G ad H h => h⟩
theorem ce_111 : CE 111 := ⟨_, rfl, fun G ad H h => h⟩
theorem ce_112 : CE 112 := ⟨_, rfl, fun G ad H h => h⟩
theorem ce_113 : CE 113 := ⟨_, rfl, fun G ad H h => h⟩
theorem ce_114 : CE 114 := ⟨_, rfl, fun G ad H h => h⟩
theorem ce_115 : CE 115 := ⟨_, rfl, fun G ad H h => h⟩
theorem ce_116 : CE 116 := ⟨_, rfl, fun G ad H h => h⟩
theorem ce_117 : CE 117 := by
  refine ⟨_, rfl, fun G ad H h => ?_⟩
  have h : H[ad 117]? = some (arrV G.2.1 105 (fun j => .int (Int32.ofInt (uN (uN (uN (fun _ => 0) 0 2) 1 3) 4 1 j)))) := h
  show H[ad 117]? = some (arrV G.2.1 105 (fun k => .int (Int32.ofInt (mem0 117 k))))
  rw [h]
  refine congrArg some (arrV_same (fun j hj => ?_))
  have e : mem0 117 j = (if (j : Int) = 0 then (2 : Int) else if (j : Int) = 1 then 3 else if (j : Int) = 4 then 1 else 0) := rfl
  rw [e]
  unfold uN
  congr 2
  by_cases h0 : j = 0
  · subst h0; rfl
  · by_cases h1 : j = 1
    · subst h1; rfl
    · by_cases h4 : j = 4
      · subst h4; rfl
      · rw [if_neg h4, if_neg h1, if_neg h0, if_neg (by omega), if_neg (by omega), if_neg (by omega)]
theorem ce_118 : CE 118 := ⟨_, rfl, fun G ad H h => h⟩
theorem ce_119 : CE 119 := ⟨_, rfl, fun G ad H h => h⟩
theorem ce_120 : CE 120 := ⟨_, rfl, fun G ad H h => h⟩
theorem ce_121 : CE 121 := ⟨_, rfl, fun G ad H h => h⟩
theorem ce_122 : CE 122 := ⟨_, rfl, fun G ad H h => h⟩
theorem ce_123 : CE 123 := ⟨_, rfl, fun G ad H h => h⟩
theorem ce_124 : CE 124 := ⟨_, rfl, fun G ad H h => h⟩
theorem ce_125 : CE 125 := ⟨_, rfl, fun G ad H h => h⟩
theorem ce_126 : CE 126 := ⟨_, rfl, fun G ad H h => h⟩
theorem ce_127 : CE 127 := ⟨_, rfl, fun G ad H h => h⟩
theorem ce_all : ∀ p, p < 128 → CE p := by
  intro p hp
  match p, hp with
  | 0, _ => exact ce_0
  | 1, _ => exact ce_1
  | 2, _ => exact ce_2
  | 3, _ => exact ce_3
  | 4, _ => exact ce_4
  | 5, _ => exact ce_5
  | 6, _ => exact ce_6
  | 7, _ => exact ce_7
  | 8, _ => exact ce_8
  | 9, _ => exact ce_9
  | 10, _ => exact ce_10
  | 11, _ => exact ce_11
  | 12, _ => exact ce_12
  | 13, _ => exact ce_13
  | 14, _ => exact ce_14
  | 15, _ => exact ce_15
  | 16, _ => exact ce_16
  | 17, _ => exact ce_17
  | 18, _ => exact ce_18
  | 19, _ => exact ce_19
  | 20, _ => exact ce_20
  | 21, _ => exact ce_21
  | 22, _ => exact ce_22
  | 23, _ => exact ce_23
  | 24, _ => exact ce_24
  | 25, _ => exact ce_25
  | 26, _ => exact ce_26
  | 27, _ => exact ce_27
  | 28, _ => exact ce_28
  | 29, _ => exact ce_29
  | 30, _ => exact ce_30
  | 31, _ => exact ce_31
  | 32, _ => exact ce_32
  | 33, _ => exact ce_33
  | 34, _ => exact ce_34
  | 35, _ => exact ce_35
  | 36, _ => exact ce_36
  | 37, _ => exact ce_37
  | 38, _ => exact ce_38
  | 39, _ => exact ce_39
  | 40, _ => exact ce_40
  | 41, _ => exact ce_41
  | 42, _ => exact ce_42
  | 43, _ => exact ce_43
  | 44, _ => exact ce_44
  | 45, _ => exact ce_45
  | 46, _ => exact ce_46
  | 47, _ => exact ce_47
  | 48, _ => exact ce_48
  | 49, _ => exact ce_49
  | 50, _ => exact ce_50
  | 51, _ => exact ce_51
  | 52, _ => exact ce_52
  | 53, _ => exact ce_53
  | 54, _ => exact ce_54
  | 55, _ => exact ce_55
  | 56, _ => exact ce_56
  | 57, _ => exact ce_57
  | 58, _ => exact ce_58
  | 59, _ => exact ce_59
  | 60, _ => exact ce_60
  | 61, _ => exact ce_61
  | 62, _ => exact ce_62
  | 63, _ => exact ce_63
  | 64, _ => exact ce_64
  | 65, _ => exact ce_65
  | 66, _ => exact ce_66
  | 67, _ => exact ce_67
  | 68, _ => exact ce_68
  | 69, _ => exact ce_69
  | 70, _ => exact ce_70
  | 71, _ => exact ce_71
  | 72, _ => exact ce_72
  | 73, _ => exact ce_73
  | 74, _ => exact ce_74
  | 75, _ => exact ce_75
  | 76, _ => exact ce_76
  | 77, _ => exact ce_77
  | 78, _ => exact ce_78
  | 79, _ => exact ce_79
  | 80, _ => exact ce_80
  | 81, _ => exact ce_81
  | 82, _ => exact ce_82
  | 83, _ => exact ce_83
  | 84, _ => exact ce_84
  | 85, _ => exact ce_85
  | 86, _ => exact ce_86
  | 87, _ => exact ce_87
  | 88, _ => exact ce_88
  | 89, _ => exact ce_89
  | 90, _ => exact ce_90
  | 91, _ => exact ce_91
  | 92, _ => exact ce_92
  | 93, _ => exact ce_93
  | 94, _ => exact ce_94
  | 95, _ => exact ce_95
  | 96, _ => exact ce_96
  | 97, _ => exact ce_97
  | 98, _ => exact ce_98
  | 99, _ => exact ce_99
  | 100, _ => exact ce_100
  | 101, _ => exact ce_101
  | 102, _ => exact ce_102
  | 103, _ => exact ce_103
  | 104, _ => exact ce_104
  | 105, _ => exact ce_105
  | 106, _ => exact ce_106
  | 107, _ => exact ce_107
  | 108, _ => exact ce_108
  | 109, _ => exact ce_109
  | 110, _ => exact ce_110
  | 111, _ => exact ce_111
  | 112, _ => exact ce_112
  | 113, _ => exact ce_113
  | 114, _ => exact ce_114
  | 115, _ => exact ce_115
  | 116, _ => exact ce_116
  | 117, _ => exact ce_117
  | 118, _ => exact ce_118
  | 119, _ => exact ce_119
  | 120, _ => exact ce_120
  | 121, _ => exact ce_121
  | 122, _ => exact ce_122
  | 123, _ => exact ce_123
  | 124, _ => exact ce_124
  | 125, _ => exact ce_125
  | 126, _ => exact ce_126
  | 127, _ => exact ce_127
  | p + 128, h => exact absurd h (by omega)
theorem start_P {G : WG} {ad : Nat → Nat} {H : Heap} (h : va_P G.1 vwCl (WA G ad 0 allC) H) : va_P G.1 vwCl (WS G ad mem0) H := by
  intro k q hk
  obtain ⟨hk2, rfl⟩ := WS_of hk
  obtain ⟨e, h1, h2⟩ := ce_all k hk2
  have h3 := h k _ (WA_at h1)
  rw [Nat.zero_add] at h3
  exact h2 G ad H h3
