theorem abs_mul_L {a b : Int} (ha : inR a) (hb : inR b) : (a * b).natAbs ≤ 4611686018427387904 := by
  rw [Int.natAbs_mul]
  have h1 : a.natAbs ≤ 2147483648 := by omega
  have h2 : b.natAbs ≤ 2147483648 := by omega
  exact Nat.mul_le_mul h1 h2
theorem mul_L {a b : Int} (ha : inR a) (hb : inR b) : inL (a * b) := by
  have := abs_mul_L ha hb
  constructor <;> omega
theorem tdiv_L {a b : Int} (ha : inR a) : inL (a.tdiv b) := by
  have h1 : (a.tdiv b).natAbs ≤ a.natAbs := by rw [Int.natAbs_tdiv]; exact Nat.div_le_self _ _
  constructor <;> omega
set_option maxHeartbeats 4000000 in
set_option maxRecDepth 100000 in
theorem kX12_worked (l : Launch) (k a b : Int) (hk : k = 2 ∨ k = 3 ∨ k = 4 ∨ k = 5 ∨ k = 6 ∨ k = 7 ∨ k = 8 ∨ k = 10 ∨ k = 11) (ha : inR a) (hb : inR b) : AMl l yX12_worked cX12_worked 5 .int 2 [.int (i32 k), .long (i64 a), .long (i64 b)] (fun r u => r = wk2 k a b ∧ u = []) := by
  refine AMl.of rfl (nle rfl) ?_
  intro D G A p e s m args below meth c X H locs ls hP hD hS hl
  have hal := inR_L ha
  have hbl := inR_L hb
  refine lv_iload_n X.1 X.2.1 dX12_worked_0 rfl (lv_at hl 0 rfl) ?_
  rcases hk with hk | hk | hk | hk | hk | hk | hk | hk | hk <;> subst hk
  · refine lv_tableIn (off := 51) (tgt := 52) X.1 X.2.1 dX12_worked_1 (by decide) (by decide) (by decide) (by decide) ?_
    refine lv_lload_n X.1 X.2.1 dX12_worked_52 rfl (lv_at hl 1 rfl) ?_
    refine lv_lload_n X.1 X.2.1 dX12_worked_53 rfl (lv_at hl 2 rfl) ?_
    refine lv_ladd X.1 X.2.1 dX12_worked_54 ?_
    rw [i64_add]
    refine W_callL (vals := [.long (i64 (a + b))]) (rest := []) X lkX12_204 (kX12_bounded l (a + b) ⟨by omega, by omega⟩) rfl rfl (by decide) ⟨nle rfl, nle rfl⟩ ⟨nle rfl, nle rfl⟩ dX12_worked_55 (fun z u h => h.2) hP hD hS hl.1 (fun z H1 locs1 hz hP1 hD1 hS1 => ?_)
    obtain ⟨rfl, -⟩ := hz
    exact S_iret (L := fun _ => none) (ws := []) X (nle rfl) (nle rfl) dX12_worked_58 ⟨rfl, rfl⟩ H1 locs1 ls hP1 hD1 hS1 (LH.none hl)
  · refine lv_tableIn (off := 58) (tgt := 59) X.1 X.2.1 dX12_worked_1 (by decide) (by decide) (by decide) (by decide) ?_
    refine lv_lload_n X.1 X.2.1 dX12_worked_59 rfl (lv_at hl 1 rfl) ?_
    refine lv_lload_n X.1 X.2.1 dX12_worked_60 rfl (lv_at hl 2 rfl) ?_
    refine lv_lsub X.1 X.2.1 dX12_worked_61 ?_
    rw [i64_sub]
    refine W_callL (vals := [.long (i64 (a - b))]) (rest := []) X lkX12_204 (kX12_bounded l (a - b) ⟨by omega, by omega⟩) rfl rfl (by decide) ⟨nle rfl, nle rfl⟩ ⟨nle rfl, nle rfl⟩ dX12_worked_62 (fun z u h => h.2) hP hD hS hl.1 (fun z H1 locs1 hz hP1 hD1 hS1 => ?_)
    obtain ⟨rfl, -⟩ := hz
    exact S_iret (L := fun _ => none) (ws := []) X (nle rfl) (nle rfl) dX12_worked_65 ⟨rfl, rfl⟩ H1 locs1 ls hP1 hD1 hS1 (LH.none hl)
  · refine lv_tableIn (off := 65) (tgt := 66) X.1 X.2.1 dX12_worked_1 (by decide) (by decide) (by decide) (by decide) ?_
    refine lv_lload_n X.1 X.2.1 dX12_worked_66 rfl (lv_at hl 1 rfl) ?_
    refine lv_lload_n X.1 X.2.1 dX12_worked_67 rfl (lv_at hl 2 rfl) ?_
    refine lv_lmul X.1 X.2.1 dX12_worked_68 ?_
    rw [i64_mul]
    refine W_callL (vals := [.long (i64 (a * b))]) (rest := []) X lkX12_204 (kX12_bounded l (a * b) (mul_L ha hb)) rfl rfl (by decide) ⟨nle rfl, nle rfl⟩ ⟨nle rfl, nle rfl⟩ dX12_worked_69 (fun z u h => h.2) hP hD hS hl.1 (fun z H1 locs1 hz hP1 hD1 hS1 => ?_)
    obtain ⟨rfl, -⟩ := hz
    exact S_iret (L := fun _ => none) (ws := []) X (nle rfl) (nle rfl) dX12_worked_72 ⟨rfl, rfl⟩ H1 locs1 ls hP1 hD1 hS1 (LH.none hl)
  · refine lv_tableIn (off := 72) (tgt := 73) X.1 X.2.1 dX12_worked_1 (by decide) (by decide) (by decide) (by decide) ?_
    refine lv_lload_n X.1 X.2.1 dX12_worked_73 rfl (lv_at hl 2 rfl) ?_
    refine lv_lconst (v := i64 0) X.1 X.2.1 dX12_worked_74 (by decide) ?_
    refine W.lcmp X.1 X.2.1 dX12_worked_75 ?_
    rw [lg_cm3 hbl ⟨by decide, by decide⟩]
    refine lv_if_ne (tgt := 83) X.1 X.2.1 dX12_worked_76 (by decide) (fun h => ?_) (fun h => ?_)
    · have h0 := cm3_n h
      refine lv_lload_n X.1 X.2.1 dX12_worked_83 rfl (lv_at hl 1 rfl) ?_
      refine lv_lload_n X.1 X.2.1 dX12_worked_84 rfl (lv_at hl 2 rfl) ?_
      refine lv_ldiv X.1 X.2.1 dX12_worked_85 (fun h => h0 ((i64_inj hbl ⟨by decide, by decide⟩).mp h)) ?_
      rw [i64_div hal hbl]
      refine W_callL (vals := [.long (i64 (a.tdiv b))]) (rest := []) X lkX12_204 (kX12_bounded l (a.tdiv b) (tdiv_L ha)) rfl rfl (by decide) ⟨nle rfl, nle rfl⟩ ⟨nle rfl, nle rfl⟩ dX12_worked_86 (fun z u h => h.2) hP hD hS hl.1 (fun z H1 locs1 hz hP1 hD1 hS1 => ?_)
      obtain ⟨rfl, -⟩ := hz
      exact S_iret (L := fun _ => none) (ws := []) X (nle rfl) (nle rfl) dX12_worked_89 ⟨by unfold wk2; rw [if_neg (by decide), if_neg (by decide), if_neg (by decide), if_pos rfl, if_neg h0], rfl⟩ H1 locs1 ls hP1 hD1 hS1 (LH.none hl)
    · have h0 := cm3_0 (by first | exact h | exact Decidable.not_not.mp h)
      refine lv_iconst X.1 X.2.1 dX12_worked_79 rfl ?_
      refine lv_goto (tgt := 89) X.1 X.2.1 dX12_worked_80 (by decide) ?_
      exact S_iret (L := fun _ => none) (z := 0) (ws := []) X (nle rfl) (nle rfl) dX12_worked_89 ⟨by unfold wk2; rw [if_neg (by decide), if_neg (by decide), if_neg (by decide), if_pos rfl, if_pos h0], rfl⟩ H locs ls hP hD hS (LH.none hl)
  · refine lv_tableIn (off := 89) (tgt := 90) X.1 X.2.1 dX12_worked_1 (by decide) (by decide) (by decide) (by decide) ?_
    refine lv_lload_n X.1 X.2.1 dX12_worked_90 rfl (lv_at hl 1 rfl) ?_
    refine lv_lload_n X.1 X.2.1 dX12_worked_91 rfl (lv_at hl 2 rfl) ?_
    refine W.lcmp X.1 X.2.1 dX12_worked_92 ?_
    rw [lg_cm3 hal hbl]
    refine lv_if_ne (tgt := 100) X.1 X.2.1 dX12_worked_93 (by decide) (fun h => ?_) (fun h => ?_)
    · have h0 := cm3_n h
      refine lv_iconst X.1 X.2.1 dX12_worked_100 rfl ?_
      exact S_iret (L := fun _ => none) (z := 0) (ws := []) X (nle rfl) (nle rfl) dX12_worked_101 ⟨by unfold wk2; rw [if_neg (by decide), if_neg (by decide), if_neg (by decide), if_neg (by decide),  if_pos rfl, if_neg (by omega)], rfl⟩ H locs ls hP hD hS (LH.none hl)
    · have h0 := cm3_0 (by first | exact h | exact Decidable.not_not.mp h)
      refine lv_iconst X.1 X.2.1 dX12_worked_96 rfl ?_
      refine lv_goto (tgt := 101) X.1 X.2.1 dX12_worked_97 (by decide) ?_
      exact S_iret (L := fun _ => none) (z := 1) (ws := []) X (nle rfl) (nle rfl) dX12_worked_101 ⟨by unfold wk2; rw [if_neg (by decide), if_neg (by decide), if_neg (by decide), if_neg (by decide),  if_pos rfl, if_pos (by omega)], rfl⟩ H locs ls hP hD hS (LH.none hl)
  · refine lv_tableIn (off := 101) (tgt := 102) X.1 X.2.1 dX12_worked_1 (by decide) (by decide) (by decide) (by decide) ?_
    refine lv_lload_n X.1 X.2.1 dX12_worked_102 rfl (lv_at hl 1 rfl) ?_
    refine lv_lload_n X.1 X.2.1 dX12_worked_103 rfl (lv_at hl 2 rfl) ?_
    refine W.lcmp X.1 X.2.1 dX12_worked_104 ?_
    rw [lg_cm3 hal hbl]
    refine lv_if_ge (tgt := 112) X.1 X.2.1 dX12_worked_105 (by decide) (fun h => ?_) (fun h => ?_)
    · have h0 := cm3_ge h
      refine lv_iconst X.1 X.2.1 dX12_worked_112 rfl ?_
      exact S_iret (L := fun _ => none) (z := 0) (ws := []) X (nle rfl) (nle rfl) dX12_worked_113 ⟨by unfold wk2; rw [if_neg (by decide), if_neg (by decide), if_neg (by decide), if_neg (by decide), if_neg (by decide),  if_pos rfl, if_neg (by omega)], rfl⟩ H locs ls hP hD hS (LH.none hl)
    · have h0 := cm3_lt h
      refine lv_iconst X.1 X.2.1 dX12_worked_108 rfl ?_
      refine lv_goto (tgt := 113) X.1 X.2.1 dX12_worked_109 (by decide) ?_
      exact S_iret (L := fun _ => none) (z := 1) (ws := []) X (nle rfl) (nle rfl) dX12_worked_113 ⟨by unfold wk2; rw [if_neg (by decide), if_neg (by decide), if_neg (by decide), if_neg (by decide), if_neg (by decide),  if_pos rfl, if_pos (by omega)], rfl⟩ H locs ls hP hD hS (LH.none hl)
  · refine lv_tableIn (off := 113) (tgt := 114) X.1 X.2.1 dX12_worked_1 (by decide) (by decide) (by decide) (by decide) ?_
    refine lv_lload_n X.1 X.2.1 dX12_worked_114 rfl (lv_at hl 1 rfl) ?_
    refine lv_lload_n X.1 X.2.1 dX12_worked_115 rfl (lv_at hl 2 rfl) ?_
    refine W.lcmp X.1 X.2.1 dX12_worked_116 ?_
    rw [lg_cm3 hal hbl]
    refine lv_if_le (tgt := 124) X.1 X.2.1 dX12_worked_117 (by decide) (fun h => ?_) (fun h => ?_)
    · have h0 := cm3_le h
      refine lv_iconst X.1 X.2.1 dX12_worked_124 rfl ?_
      exact S_iret (L := fun _ => none) (z := 0) (ws := []) X (nle rfl) (nle rfl) dX12_worked_125 ⟨by unfold wk2; rw [if_neg (by decide), if_neg (by decide), if_neg (by decide), if_neg (by decide), if_neg (by decide), if_neg (by decide),  if_pos rfl, if_neg (by omega)], rfl⟩ H locs ls hP hD hS (LH.none hl)
    · have h0 := cm3_gt h
      refine lv_iconst X.1 X.2.1 dX12_worked_120 rfl ?_
      refine lv_goto (tgt := 125) X.1 X.2.1 dX12_worked_121 (by decide) ?_
      exact S_iret (L := fun _ => none) (z := 1) (ws := []) X (nle rfl) (nle rfl) dX12_worked_125 ⟨by unfold wk2; rw [if_neg (by decide), if_neg (by decide), if_neg (by decide), if_neg (by decide), if_neg (by decide), if_neg (by decide),  if_pos rfl, if_pos (by omega)], rfl⟩ H locs ls hP hD hS (LH.none hl)
  · refine lv_tableIn (off := 125) (tgt := 126) X.1 X.2.1 dX12_worked_1 (by decide) (by decide) (by decide) (by decide) ?_
    refine lv_lload_n X.1 X.2.1 dX12_worked_126 rfl (lv_at hl 1 rfl) ?_
    refine lv_lconst (v := i64 0) X.1 X.2.1 dX12_worked_127 (by decide) ?_
    refine W.lcmp X.1 X.2.1 dX12_worked_128 ?_
    rw [lg_cm3 hal ⟨by decide, by decide⟩]
    refine lv_if_eq (tgt := 142) X.1 X.2.1 dX12_worked_129 (by decide) (fun h => ?_) (fun h => ?_)
    · have h0 := cm3_0 h
      refine lv_iconst X.1 X.2.1 dX12_worked_142 rfl ?_
      exact S_iret (L := fun _ => none) (z := 0) (ws := []) X (nle rfl) (nle rfl) dX12_worked_143 ⟨by unfold wk2; rw [if_neg (by decide), if_neg (by decide), if_neg (by decide), if_neg (by decide), if_neg (by decide), if_neg (by decide), if_neg (by decide), if_pos rfl, if_neg (by omega)], rfl⟩ H locs ls hP hD hS (LH.none hl)
    · have h0 := cm3_n h
      refine lv_lload_n X.1 X.2.1 dX12_worked_132 rfl (lv_at hl 2 rfl) ?_
      refine lv_lconst (v := i64 0) X.1 X.2.1 dX12_worked_133 (by decide) ?_
      refine W.lcmp X.1 X.2.1 dX12_worked_134 ?_
      rw [lg_cm3 hbl ⟨by decide, by decide⟩]
      refine lv_if_eq (tgt := 142) X.1 X.2.1 dX12_worked_135 (by decide) (fun g => ?_) (fun g => ?_)
      · have g0 := cm3_0 g
        refine lv_iconst X.1 X.2.1 dX12_worked_142 rfl ?_
        exact S_iret (L := fun _ => none) (z := 0) (ws := []) X (nle rfl) (nle rfl) dX12_worked_143 ⟨by unfold wk2; rw [if_neg (by decide), if_neg (by decide), if_neg (by decide), if_neg (by decide), if_neg (by decide), if_neg (by decide), if_neg (by decide), if_pos rfl, if_neg (by omega)], rfl⟩ H locs ls hP hD hS (LH.none hl)
      · have g0 := cm3_n g
        refine lv_iconst X.1 X.2.1 dX12_worked_138 rfl ?_
        refine lv_goto (tgt := 143) X.1 X.2.1 dX12_worked_139 (by decide) ?_
        exact S_iret (L := fun _ => none) (z := 1) (ws := []) X (nle rfl) (nle rfl) dX12_worked_143 ⟨by unfold wk2; rw [if_neg (by decide), if_neg (by decide), if_neg (by decide), if_neg (by decide), if_neg (by decide), if_neg (by decide), if_neg (by decide), if_pos rfl, if_pos (by omega)], rfl⟩ H locs ls hP hD hS (LH.none hl)
  · refine lv_tableOut (tgt := 144) X.1 X.2.1 dX12_worked_1 (by decide) (by decide) ?_
    refine lv_lload_n X.1 X.2.1 dX12_worked_144 rfl (lv_at hl 1 rfl) ?_
    refine lv_lconst (v := i64 0) X.1 X.2.1 dX12_worked_145 (by decide) ?_
    refine W.lcmp X.1 X.2.1 dX12_worked_146 ?_
    rw [lg_cm3 hal ⟨by decide, by decide⟩]
    refine lv_if_ne (tgt := 156) X.1 X.2.1 dX12_worked_147 (by decide) (fun h => ?_) (fun h => ?_)
    · have h0 := cm3_n h
      refine lv_iconst X.1 X.2.1 dX12_worked_156 rfl ?_
      refine lv_goto (tgt := 161) X.1 X.2.1 dX12_worked_157 (by decide) ?_
      exact S_iret (L := fun _ => none) (z := 1) (ws := []) X (nle rfl) (nle rfl) dX12_worked_161 ⟨by unfold wk2; rw [if_neg (by decide), if_neg (by decide), if_neg (by decide), if_neg (by decide), if_neg (by decide), if_neg (by decide), if_neg (by decide), if_neg (by decide), if_pos (by omega)], rfl⟩ H locs ls hP hD hS (LH.none hl)
    · have h0 := cm3_0 (by first | exact h | exact Decidable.not_not.mp h)
      refine lv_lload_n X.1 X.2.1 dX12_worked_150 rfl (lv_at hl 2 rfl) ?_
      refine lv_lconst (v := i64 0) X.1 X.2.1 dX12_worked_151 (by decide) ?_
      refine W.lcmp X.1 X.2.1 dX12_worked_152 ?_
      rw [lg_cm3 hbl ⟨by decide, by decide⟩]
      refine lv_if_eq (tgt := 160) X.1 X.2.1 dX12_worked_153 (by decide) (fun g => ?_) (fun g => ?_)
      · have g0 := cm3_0 g
        refine lv_iconst X.1 X.2.1 dX12_worked_160 rfl ?_
        exact S_iret (L := fun _ => none) (z := 0) (ws := []) X (nle rfl) (nle rfl) dX12_worked_161 ⟨by unfold wk2; rw [if_neg (by decide), if_neg (by decide), if_neg (by decide), if_neg (by decide), if_neg (by decide), if_neg (by decide), if_neg (by decide), if_neg (by decide), if_neg (by omega)], rfl⟩ H locs ls hP hD hS (LH.none hl)
      · have g0 := cm3_n g
        refine lv_iconst X.1 X.2.1 dX12_worked_156 rfl ?_
        refine lv_goto (tgt := 161) X.1 X.2.1 dX12_worked_157 (by decide) ?_
        exact S_iret (L := fun _ => none) (z := 1) (ws := []) X (nle rfl) (nle rfl) dX12_worked_161 ⟨by unfold wk2; rw [if_neg (by decide), if_neg (by decide), if_neg (by decide), if_neg (by decide), if_neg (by decide), if_neg (by decide), if_neg (by decide), if_neg (by decide), if_pos (by omega)], rfl⟩ H locs ls hP hD hS (LH.none hl)
