def nz (b : Int) : Int := if b = 0 then 0 else 1
theorem nz_0 {b : Int} (h : b = 0) : nz b = 0 := if_pos h
theorem nz_1 {b : Int} (h : ¬ b = 0) : nz b = 1 := if_neg h
theorem nz_in (b : Int) : 0 ≤ nz b ∧ nz b ≤ 1 := by unfold nz; split <;> omega
def cNZ (b : Int) (l : List Int) : List Int := if b = 0 then l else b :: l
theorem cNZ_0 {b : Int} {l : List Int} (h : b = 0) : cNZ b l = l := if_pos h
theorem cNZ_1 {b : Int} {l : List Int} (h : ¬ b = 0) : cNZ b l = b :: l := if_neg h
theorem cNZ_len {b : Int} {l : List Int} : ((cNZ b l).length : Int) = nz b + l.length := by
  unfold cNZ nz
  split
  · omega
  · simp only [List.length_cons]; omega
/-- the bytes of a number, the highest first, bytes of 0 left out -/
def bys (x : Int) : List Int := cNZ (zAnd (zUshr x 24) 255) (cNZ (zAnd (zUshr x 16) 255) (cNZ (zAnd (zUshr x 8) 255) (cNZ (zAnd (zUshr x 0) 255) [])))
def byn (x : Int) : Int := nz (zAnd (zUshr x 24) 255) + nz (zAnd (zUshr x 16) 255) + nz (zAnd (zUshr x 8) 255) + nz (zAnd (zUshr x 0) 255)
theorem bys_len (x : Int) : ((bys x).length : Int) = byn x := by
  unfold bys byn
  simp only [cNZ_len, List.length_nil]
  omega
theorem byn_in (x : Int) : 0 ≤ byn x ∧ byn x ≤ 4 := by
  have h1 := nz_in (zAnd (zUshr x 24) 255)
  have h2 := nz_in (zAnd (zUshr x 16) 255)
  have h3 := nz_in (zAnd (zUshr x 8) 255)
  have h4 := nz_in (zAnd (zUshr x 0) 255)
  unfold byn
  omega
def fbs (a b c d e : Int) : List Int := bys a ++ (bys b ++ (bys c ++ (bys d ++ bys e)))
def fbn (a b c d e : Int) : Int := byn a + byn b + byn c + byn d + byn e
theorem fbs_len (a b c d e : Int) : ((fbs a b c d e).length : Int) = fbn a b c d e := by
  unfold fbs fbn
  simp only [List.length_append]
  have h1 := bys_len a
  have h2 := bys_len b
  have h3 := bys_len c
  have h4 := bys_len d
  have h5 := bys_len e
  omega
theorem zAnd255 (x : Int) : 0 ≤ zAnd x 255 ∧ zAnd x 255 ≤ 255 := by
  unfold zAnd
  have h := pk_andE (i32 x) (m := 255) 8 (by decide)
  obtain ⟨j, h1, h2⟩ := h
  have e : i32 255 = 255 := by decide
  rw [e, h2, nI_toInt (by omega)]
  omega
theorem bys_ok (x : Int) : ∀ t ∈ bys x, 1 ≤ t ∧ t ≤ 255 := by
  have key : ∀ (b : Int) (l : List Int), (0 ≤ b ∧ b ≤ 255) → (∀ t ∈ l, 1 ≤ t ∧ t ≤ 255) → ∀ t ∈ cNZ b l, 1 ≤ t ∧ t ≤ 255 := by
    intro b l hb hl t ht
    unfold cNZ at ht
    split at ht
    · exact hl t ht
    · rcases List.mem_cons.mp ht with e | e
      · rw [e]; omega
      · exact hl t e
  unfold bys
  exact key _ _ (zAnd255 _) (key _ _ (zAnd255 _) (key _ _ (zAnd255 _) (key _ _ (zAnd255 _) (fun t h => by cases h))))
theorem fbs_ok (a b c d e : Int) : ∀ t ∈ fbs a b c d e, 1 ≤ t ∧ t ≤ 255 := by
  unfold fbs
  intro t ht
  rcases List.mem_append.mp ht with h | h
  · exact bys_ok a t h
  rcases List.mem_append.mp h with h | h
  · exact bys_ok b t h
  rcases List.mem_append.mp h with h | h
  · exact bys_ok c t h
  rcases List.mem_append.mp h with h | h
  · exact bys_ok d t h
  · exact bys_ok e t h
theorem okT_app {T : Int → Int} {n : Int} {l : List Int} (h : okT T n) (hl : ∀ t ∈ l, 1 ≤ t ∧ t ≤ 255) (hn : n + l.length ≤ 160) : okT (wrL T n l) (n + l.length) := by
  obtain ⟨h0, h1, h2⟩ := h
  refine ⟨by omega, hn, fun j j0 j1 => ?_⟩
  rcases Int.lt_or_le j n with q | q
  · rw [wrL_lo q]; exact h2 j j0 q
  · obtain ⟨i, hi⟩ : ∃ i : Nat, j = n + i := ⟨(j - n).toNat, by omega⟩
    subst hi
    have hi2 : i < l.length := by omega
    have h3 : l[i]? = some l[i] := List.getElem?_eq_getElem hi2
    rw [wrL_in h3]
    exact hl _ (List.getElem_mem hi2)
set_option maxHeartbeats 4000000 in
set_option maxRecDepth 100000 in
theorem kX7_bytesIn (l : Launch) (x : Int) : AMi l yX7_bytesIn cX7_bytesIn 3 .int 0 0 0 [iv x] [] (fun z u => z = byn x ∧ u = []) := by
  refine AMi.of2 rfl (nle rfl) ?_
  intro D G A p e s m args below meth c Po hPo X
  refine S_iconst X dX7_bytesIn_0 ?_
  refine S_istore_n X dX7_bytesIn_1 rfl (nle rfl) ?_
  refine S_bipush X dX7_bytesIn_2 rfl ?_
  refine S_istore_n X dX7_bytesIn_4 rfl (nle rfl) ?_
  refine S_iload_n X dX7_bytesIn_5 rfl rfl ?_
  refine S_if_lt (tgt := 28) X dX7_bytesIn_6 (by decide) (by decide) (fun h9 => absurd h9 (by decide)) (fun _ => ?_)
  refine S_iload_n X dX7_bytesIn_9 rfl rfl ?_
  refine S_iload_n X dX7_bytesIn_10 rfl rfl ?_
  refine S_iushr X dX7_bytesIn_11 ?_
  refine S_sipush X dX7_bytesIn_12 rfl ?_
  refine S_iand X dX7_bytesIn_15 ?_
  have hr_1 := zAnd_r (zUshr x 24) 255
  refine S_if_eq (tgt := 22) X dX7_bytesIn_16 (by decide) (by omega) (fun c_2 => ?_) (fun c_2 => ?_)
  ·
    have hz_c_2 := nz_0 c_2
    refine S_iincK (w := 16) X dX7_bytesIn_22 (nle rfl) rfl (by decide) ?_
    refine S_goto (tgt := 5) X dX7_bytesIn_25 (by decide) ?_
    refine S_iload_n X dX7_bytesIn_5 rfl rfl ?_
    refine S_if_lt (tgt := 28) X dX7_bytesIn_6 (by decide) (by decide) (fun h9 => absurd h9 (by decide)) (fun _ => ?_)
    refine S_iload_n X dX7_bytesIn_9 rfl rfl ?_
    refine S_iload_n X dX7_bytesIn_10 rfl rfl ?_
    refine S_iushr X dX7_bytesIn_11 ?_
    refine S_sipush X dX7_bytesIn_12 rfl ?_
    refine S_iand X dX7_bytesIn_15 ?_
    have hr_3 := zAnd_r (zUshr x 16) 255
    refine S_if_eq (tgt := 22) X dX7_bytesIn_16 (by decide) (by omega) (fun c_4 => ?_) (fun c_4 => ?_)
    ·
      have hz_c_4 := nz_0 c_4
      refine S_iincK (w := 8) X dX7_bytesIn_22 (nle rfl) rfl (by decide) ?_
      refine S_goto (tgt := 5) X dX7_bytesIn_25 (by decide) ?_
      refine S_iload_n X dX7_bytesIn_5 rfl rfl ?_
      refine S_if_lt (tgt := 28) X dX7_bytesIn_6 (by decide) (by decide) (fun h9 => absurd h9 (by decide)) (fun _ => ?_)
      refine S_iload_n X dX7_bytesIn_9 rfl rfl ?_
      refine S_iload_n X dX7_bytesIn_10 rfl rfl ?_
      refine S_iushr X dX7_bytesIn_11 ?_
      refine S_sipush X dX7_bytesIn_12 rfl ?_
      refine S_iand X dX7_bytesIn_15 ?_
      have hr_5 := zAnd_r (zUshr x 8) 255
      refine S_if_eq (tgt := 22) X dX7_bytesIn_16 (by decide) (by omega) (fun c_6 => ?_) (fun c_6 => ?_)
      ·
        have hz_c_6 := nz_0 c_6
        refine S_iincK (w := 0) X dX7_bytesIn_22 (nle rfl) rfl (by decide) ?_
        refine S_goto (tgt := 5) X dX7_bytesIn_25 (by decide) ?_
        refine S_iload_n X dX7_bytesIn_5 rfl rfl ?_
        refine S_if_lt (tgt := 28) X dX7_bytesIn_6 (by decide) (by decide) (fun h9 => absurd h9 (by decide)) (fun _ => ?_)
        refine S_iload_n X dX7_bytesIn_9 rfl rfl ?_
        refine S_iload_n X dX7_bytesIn_10 rfl rfl ?_
        refine S_iushr X dX7_bytesIn_11 ?_
        refine S_sipush X dX7_bytesIn_12 rfl ?_
        refine S_iand X dX7_bytesIn_15 ?_
        have hr_7 := zAnd_r (zUshr x 0) 255
        refine S_if_eq (tgt := 22) X dX7_bytesIn_16 (by decide) (by omega) (fun c_8 => ?_) (fun c_8 => ?_)
        ·
          have hz_c_8 := nz_0 c_8
          refine S_iincK (w := -8) X dX7_bytesIn_22 (nle rfl) rfl (by decide) ?_
          refine S_goto (tgt := 5) X dX7_bytesIn_25 (by decide) ?_
          refine S_iload_n X dX7_bytesIn_5 rfl rfl ?_
          refine S_if_lt (tgt := 28) X dX7_bytesIn_6 (by decide) (by decide) (fun _ => ?_) (fun h9 => absurd h9 (by decide))
          refine S_iload_n X dX7_bytesIn_28 rfl rfl ?_
          exact S_iret X (nle rfl) (nle rfl) dX7_bytesIn_29 (hPo _ _ (⟨by unfold byn; omega, rfl⟩))
        ·
          have hz_c_8 := nz_1 c_8
          refine S_iincK (w := 1) X dX7_bytesIn_19 (nle rfl) rfl (by decide) ?_
          refine S_iincK (w := -8) X dX7_bytesIn_22 (nle rfl) rfl (by decide) ?_
          refine S_goto (tgt := 5) X dX7_bytesIn_25 (by decide) ?_
          refine S_iload_n X dX7_bytesIn_5 rfl rfl ?_
          refine S_if_lt (tgt := 28) X dX7_bytesIn_6 (by decide) (by decide) (fun _ => ?_) (fun h9 => absurd h9 (by decide))
          refine S_iload_n X dX7_bytesIn_28 rfl rfl ?_
          exact S_iret X (nle rfl) (nle rfl) dX7_bytesIn_29 (hPo _ _ (⟨by unfold byn; omega, rfl⟩))
      ·
        have hz_c_6 := nz_1 c_6
        refine S_iincK (w := 1) X dX7_bytesIn_19 (nle rfl) rfl (by decide) ?_
        refine S_iincK (w := 0) X dX7_bytesIn_22 (nle rfl) rfl (by decide) ?_
        refine S_goto (tgt := 5) X dX7_bytesIn_25 (by decide) ?_
        refine S_iload_n X dX7_bytesIn_5 rfl rfl ?_
        refine S_if_lt (tgt := 28) X dX7_bytesIn_6 (by decide) (by decide) (fun h9 => absurd h9 (by decide)) (fun _ => ?_)
        refine S_iload_n X dX7_bytesIn_9 rfl rfl ?_
        refine S_iload_n X dX7_bytesIn_10 rfl rfl ?_
        refine S_iushr X dX7_bytesIn_11 ?_
        refine S_sipush X dX7_bytesIn_12 rfl ?_
        refine S_iand X dX7_bytesIn_15 ?_
        have hr_11 := zAnd_r (zUshr x 0) 255
        refine S_if_eq (tgt := 22) X dX7_bytesIn_16 (by decide) (by omega) (fun c_12 => ?_) (fun c_12 => ?_)
        ·
          have hz_c_12 := nz_0 c_12
          refine S_iincK (w := -8) X dX7_bytesIn_22 (nle rfl) rfl (by decide) ?_
          refine S_goto (tgt := 5) X dX7_bytesIn_25 (by decide) ?_
          refine S_iload_n X dX7_bytesIn_5 rfl rfl ?_
          refine S_if_lt (tgt := 28) X dX7_bytesIn_6 (by decide) (by decide) (fun _ => ?_) (fun h9 => absurd h9 (by decide))
          refine S_iload_n X dX7_bytesIn_28 rfl rfl ?_
          exact S_iret X (nle rfl) (nle rfl) dX7_bytesIn_29 (hPo _ _ (⟨by unfold byn; omega, rfl⟩))
        ·
          have hz_c_12 := nz_1 c_12
          refine S_iincK (w := 2) X dX7_bytesIn_19 (nle rfl) rfl (by decide) ?_
          refine S_iincK (w := -8) X dX7_bytesIn_22 (nle rfl) rfl (by decide) ?_
          refine S_goto (tgt := 5) X dX7_bytesIn_25 (by decide) ?_
          refine S_iload_n X dX7_bytesIn_5 rfl rfl ?_
          refine S_if_lt (tgt := 28) X dX7_bytesIn_6 (by decide) (by decide) (fun _ => ?_) (fun h9 => absurd h9 (by decide))
          refine S_iload_n X dX7_bytesIn_28 rfl rfl ?_
          exact S_iret X (nle rfl) (nle rfl) dX7_bytesIn_29 (hPo _ _ (⟨by unfold byn; omega, rfl⟩))
    ·
      have hz_c_4 := nz_1 c_4
      refine S_iincK (w := 1) X dX7_bytesIn_19 (nle rfl) rfl (by decide) ?_
      refine S_iincK (w := 8) X dX7_bytesIn_22 (nle rfl) rfl (by decide) ?_
      refine S_goto (tgt := 5) X dX7_bytesIn_25 (by decide) ?_
      refine S_iload_n X dX7_bytesIn_5 rfl rfl ?_
      refine S_if_lt (tgt := 28) X dX7_bytesIn_6 (by decide) (by decide) (fun h9 => absurd h9 (by decide)) (fun _ => ?_)
      refine S_iload_n X dX7_bytesIn_9 rfl rfl ?_
      refine S_iload_n X dX7_bytesIn_10 rfl rfl ?_
      refine S_iushr X dX7_bytesIn_11 ?_
      refine S_sipush X dX7_bytesIn_12 rfl ?_
      refine S_iand X dX7_bytesIn_15 ?_
      have hr_15 := zAnd_r (zUshr x 8) 255
      refine S_if_eq (tgt := 22) X dX7_bytesIn_16 (by decide) (by omega) (fun c_16 => ?_) (fun c_16 => ?_)
      ·
        have hz_c_16 := nz_0 c_16
        refine S_iincK (w := 0) X dX7_bytesIn_22 (nle rfl) rfl (by decide) ?_
        refine S_goto (tgt := 5) X dX7_bytesIn_25 (by decide) ?_
        refine S_iload_n X dX7_bytesIn_5 rfl rfl ?_
        refine S_if_lt (tgt := 28) X dX7_bytesIn_6 (by decide) (by decide) (fun h9 => absurd h9 (by decide)) (fun _ => ?_)
        refine S_iload_n X dX7_bytesIn_9 rfl rfl ?_
        refine S_iload_n X dX7_bytesIn_10 rfl rfl ?_
        refine S_iushr X dX7_bytesIn_11 ?_
        refine S_sipush X dX7_bytesIn_12 rfl ?_
        refine S_iand X dX7_bytesIn_15 ?_
        have hr_17 := zAnd_r (zUshr x 0) 255
        refine S_if_eq (tgt := 22) X dX7_bytesIn_16 (by decide) (by omega) (fun c_18 => ?_) (fun c_18 => ?_)
        ·
          have hz_c_18 := nz_0 c_18
          refine S_iincK (w := -8) X dX7_bytesIn_22 (nle rfl) rfl (by decide) ?_
          refine S_goto (tgt := 5) X dX7_bytesIn_25 (by decide) ?_
          refine S_iload_n X dX7_bytesIn_5 rfl rfl ?_
          refine S_if_lt (tgt := 28) X dX7_bytesIn_6 (by decide) (by decide) (fun _ => ?_) (fun h9 => absurd h9 (by decide))
          refine S_iload_n X dX7_bytesIn_28 rfl rfl ?_
          exact S_iret X (nle rfl) (nle rfl) dX7_bytesIn_29 (hPo _ _ (⟨by unfold byn; omega, rfl⟩))
        ·
          have hz_c_18 := nz_1 c_18
          refine S_iincK (w := 2) X dX7_bytesIn_19 (nle rfl) rfl (by decide) ?_
          refine S_iincK (w := -8) X dX7_bytesIn_22 (nle rfl) rfl (by decide) ?_
          refine S_goto (tgt := 5) X dX7_bytesIn_25 (by decide) ?_
          refine S_iload_n X dX7_bytesIn_5 rfl rfl ?_
          refine S_if_lt (tgt := 28) X dX7_bytesIn_6 (by decide) (by decide) (fun _ => ?_) (fun h9 => absurd h9 (by decide))
          refine S_iload_n X dX7_bytesIn_28 rfl rfl ?_
          exact S_iret X (nle rfl) (nle rfl) dX7_bytesIn_29 (hPo _ _ (⟨by unfold byn; omega, rfl⟩))
      ·
        have hz_c_16 := nz_1 c_16
        refine S_iincK (w := 2) X dX7_bytesIn_19 (nle rfl) rfl (by decide) ?_
        refine S_iincK (w := 0) X dX7_bytesIn_22 (nle rfl) rfl (by decide) ?_
        refine S_goto (tgt := 5) X dX7_bytesIn_25 (by decide) ?_
        refine S_iload_n X dX7_bytesIn_5 rfl rfl ?_
        refine S_if_lt (tgt := 28) X dX7_bytesIn_6 (by decide) (by decide) (fun h9 => absurd h9 (by decide)) (fun _ => ?_)
        refine S_iload_n X dX7_bytesIn_9 rfl rfl ?_
        refine S_iload_n X dX7_bytesIn_10 rfl rfl ?_
        refine S_iushr X dX7_bytesIn_11 ?_
        refine S_sipush X dX7_bytesIn_12 rfl ?_
        refine S_iand X dX7_bytesIn_15 ?_
        have hr_21 := zAnd_r (zUshr x 0) 255
        refine S_if_eq (tgt := 22) X dX7_bytesIn_16 (by decide) (by omega) (fun c_22 => ?_) (fun c_22 => ?_)
        ·
          have hz_c_22 := nz_0 c_22
          refine S_iincK (w := -8) X dX7_bytesIn_22 (nle rfl) rfl (by decide) ?_
          refine S_goto (tgt := 5) X dX7_bytesIn_25 (by decide) ?_
          refine S_iload_n X dX7_bytesIn_5 rfl rfl ?_
          refine S_if_lt (tgt := 28) X dX7_bytesIn_6 (by decide) (by decide) (fun _ => ?_) (fun h9 => absurd h9 (by decide))
          refine S_iload_n X dX7_bytesIn_28 rfl rfl ?_
          exact S_iret X (nle rfl) (nle rfl) dX7_bytesIn_29 (hPo _ _ (⟨by unfold byn; omega, rfl⟩))
        ·
          have hz_c_22 := nz_1 c_22
          refine S_iincK (w := 3) X dX7_bytesIn_19 (nle rfl) rfl (by decide) ?_
          refine S_iincK (w := -8) X dX7_bytesIn_22 (nle rfl) rfl (by decide) ?_
          refine S_goto (tgt := 5) X dX7_bytesIn_25 (by decide) ?_
          refine S_iload_n X dX7_bytesIn_5 rfl rfl ?_
          refine S_if_lt (tgt := 28) X dX7_bytesIn_6 (by decide) (by decide) (fun _ => ?_) (fun h9 => absurd h9 (by decide))
          refine S_iload_n X dX7_bytesIn_28 rfl rfl ?_
          exact S_iret X (nle rfl) (nle rfl) dX7_bytesIn_29 (hPo _ _ (⟨by unfold byn; omega, rfl⟩))
  ·
    have hz_c_2 := nz_1 c_2
    refine S_iincK (w := 1) X dX7_bytesIn_19 (nle rfl) rfl (by decide) ?_
    refine S_iincK (w := 16) X dX7_bytesIn_22 (nle rfl) rfl (by decide) ?_
    refine S_goto (tgt := 5) X dX7_bytesIn_25 (by decide) ?_
    refine S_iload_n X dX7_bytesIn_5 rfl rfl ?_
    refine S_if_lt (tgt := 28) X dX7_bytesIn_6 (by decide) (by decide) (fun h9 => absurd h9 (by decide)) (fun _ => ?_)
    refine S_iload_n X dX7_bytesIn_9 rfl rfl ?_
    refine S_iload_n X dX7_bytesIn_10 rfl rfl ?_
    refine S_iushr X dX7_bytesIn_11 ?_
    refine S_sipush X dX7_bytesIn_12 rfl ?_
    refine S_iand X dX7_bytesIn_15 ?_
    have hr_25 := zAnd_r (zUshr x 16) 255
    refine S_if_eq (tgt := 22) X dX7_bytesIn_16 (by decide) (by omega) (fun c_26 => ?_) (fun c_26 => ?_)
    ·
      have hz_c_26 := nz_0 c_26
      refine S_iincK (w := 8) X dX7_bytesIn_22 (nle rfl) rfl (by decide) ?_
      refine S_goto (tgt := 5) X dX7_bytesIn_25 (by decide) ?_
      refine S_iload_n X dX7_bytesIn_5 rfl rfl ?_
      refine S_if_lt (tgt := 28) X dX7_bytesIn_6 (by decide) (by decide) (fun h9 => absurd h9 (by decide)) (fun _ => ?_)
      refine S_iload_n X dX7_bytesIn_9 rfl rfl ?_
      refine S_iload_n X dX7_bytesIn_10 rfl rfl ?_
      refine S_iushr X dX7_bytesIn_11 ?_
      refine S_sipush X dX7_bytesIn_12 rfl ?_
      refine S_iand X dX7_bytesIn_15 ?_
      have hr_27 := zAnd_r (zUshr x 8) 255
      refine S_if_eq (tgt := 22) X dX7_bytesIn_16 (by decide) (by omega) (fun c_28 => ?_) (fun c_28 => ?_)
      ·
        have hz_c_28 := nz_0 c_28
        refine S_iincK (w := 0) X dX7_bytesIn_22 (nle rfl) rfl (by decide) ?_
        refine S_goto (tgt := 5) X dX7_bytesIn_25 (by decide) ?_
        refine S_iload_n X dX7_bytesIn_5 rfl rfl ?_
        refine S_if_lt (tgt := 28) X dX7_bytesIn_6 (by decide) (by decide) (fun h9 => absurd h9 (by decide)) (fun _ => ?_)
        refine S_iload_n X dX7_bytesIn_9 rfl rfl ?_
        refine S_iload_n X dX7_bytesIn_10 rfl rfl ?_
        refine S_iushr X dX7_bytesIn_11 ?_
        refine S_sipush X dX7_bytesIn_12 rfl ?_
        refine S_iand X dX7_bytesIn_15 ?_
        have hr_29 := zAnd_r (zUshr x 0) 255
        refine S_if_eq (tgt := 22) X dX7_bytesIn_16 (by decide) (by omega) (fun c_30 => ?_) (fun c_30 => ?_)
        ·
          have hz_c_30 := nz_0 c_30
          refine S_iincK (w := -8) X dX7_bytesIn_22 (nle rfl) rfl (by decide) ?_
          refine S_goto (tgt := 5) X dX7_bytesIn_25 (by decide) ?_
          refine S_iload_n X dX7_bytesIn_5 rfl rfl ?_
          refine S_if_lt (tgt := 28) X dX7_bytesIn_6 (by decide) (by decide) (fun _ => ?_) (fun h9 => absurd h9 (by decide))
          refine S_iload_n X dX7_bytesIn_28 rfl rfl ?_
          exact S_iret X (nle rfl) (nle rfl) dX7_bytesIn_29 (hPo _ _ (⟨by unfold byn; omega, rfl⟩))
        ·
          have hz_c_30 := nz_1 c_30
          refine S_iincK (w := 2) X dX7_bytesIn_19 (nle rfl) rfl (by decide) ?_
          refine S_iincK (w := -8) X dX7_bytesIn_22 (nle rfl) rfl (by decide) ?_
          refine S_goto (tgt := 5) X dX7_bytesIn_25 (by decide) ?_
          refine S_iload_n X dX7_bytesIn_5 rfl rfl ?_
          refine S_if_lt (tgt := 28) X dX7_bytesIn_6 (by decide) (by decide) (fun _ => ?_) (fun h9 => absurd h9 (by decide))
          refine S_iload_n X dX7_bytesIn_28 rfl rfl ?_
          exact S_iret X (nle rfl) (nle rfl) dX7_bytesIn_29 (hPo _ _ (⟨by unfold byn; omega, rfl⟩))
      ·
        have hz_c_28 := nz_1 c_28
        refine S_iincK (w := 2) X dX7_bytesIn_19 (nle rfl) rfl (by decide) ?_
        refine S_iincK (w := 0) X dX7_bytesIn_22 (nle rfl) rfl (by decide) ?_
        refine S_goto (tgt := 5) X dX7_bytesIn_25 (by decide) ?_
        refine S_iload_n X dX7_bytesIn_5 rfl rfl ?_
        refine S_if_lt (tgt := 28) X dX7_bytesIn_6 (by decide) (by decide) (fun h9 => absurd h9 (by decide)) (fun _ => ?_)
        refine S_iload_n X dX7_bytesIn_9 rfl rfl ?_
        refine S_iload_n X dX7_bytesIn_10 rfl rfl ?_
        refine S_iushr X dX7_bytesIn_11 ?_
        refine S_sipush X dX7_bytesIn_12 rfl ?_
        refine S_iand X dX7_bytesIn_15 ?_
        have hr_33 := zAnd_r (zUshr x 0) 255
        refine S_if_eq (tgt := 22) X dX7_bytesIn_16 (by decide) (by omega) (fun c_34 => ?_) (fun c_34 => ?_)
        ·
          have hz_c_34 := nz_0 c_34
          refine S_iincK (w := -8) X dX7_bytesIn_22 (nle rfl) rfl (by decide) ?_
          refine S_goto (tgt := 5) X dX7_bytesIn_25 (by decide) ?_
          refine S_iload_n X dX7_bytesIn_5 rfl rfl ?_
          refine S_if_lt (tgt := 28) X dX7_bytesIn_6 (by decide) (by decide) (fun _ => ?_) (fun h9 => absurd h9 (by decide))
          refine S_iload_n X dX7_bytesIn_28 rfl rfl ?_
          exact S_iret X (nle rfl) (nle rfl) dX7_bytesIn_29 (hPo _ _ (⟨by unfold byn; omega, rfl⟩))
        ·
          have hz_c_34 := nz_1 c_34
          refine S_iincK (w := 3) X dX7_bytesIn_19 (nle rfl) rfl (by decide) ?_
          refine S_iincK (w := -8) X dX7_bytesIn_22 (nle rfl) rfl (by decide) ?_
          refine S_goto (tgt := 5) X dX7_bytesIn_25 (by decide) ?_
          refine S_iload_n X dX7_bytesIn_5 rfl rfl ?_
          refine S_if_lt (tgt := 28) X dX7_bytesIn_6 (by decide) (by decide) (fun _ => ?_) (fun h9 => absurd h9 (by decide))
          refine S_iload_n X dX7_bytesIn_28 rfl rfl ?_
          exact S_iret X (nle rfl) (nle rfl) dX7_bytesIn_29 (hPo _ _ (⟨by unfold byn; omega, rfl⟩))
    ·
      have hz_c_26 := nz_1 c_26
      refine S_iincK (w := 2) X dX7_bytesIn_19 (nle rfl) rfl (by decide) ?_
      refine S_iincK (w := 8) X dX7_bytesIn_22 (nle rfl) rfl (by decide) ?_
      refine S_goto (tgt := 5) X dX7_bytesIn_25 (by decide) ?_
      refine S_iload_n X dX7_bytesIn_5 rfl rfl ?_
      refine S_if_lt (tgt := 28) X dX7_bytesIn_6 (by decide) (by decide) (fun h9 => absurd h9 (by decide)) (fun _ => ?_)
      refine S_iload_n X dX7_bytesIn_9 rfl rfl ?_
      refine S_iload_n X dX7_bytesIn_10 rfl rfl ?_
      refine S_iushr X dX7_bytesIn_11 ?_
      refine S_sipush X dX7_bytesIn_12 rfl ?_
      refine S_iand X dX7_bytesIn_15 ?_
      have hr_37 := zAnd_r (zUshr x 8) 255
      refine S_if_eq (tgt := 22) X dX7_bytesIn_16 (by decide) (by omega) (fun c_38 => ?_) (fun c_38 => ?_)
      ·
        have hz_c_38 := nz_0 c_38
        refine S_iincK (w := 0) X dX7_bytesIn_22 (nle rfl) rfl (by decide) ?_
        refine S_goto (tgt := 5) X dX7_bytesIn_25 (by decide) ?_
        refine S_iload_n X dX7_bytesIn_5 rfl rfl ?_
        refine S_if_lt (tgt := 28) X dX7_bytesIn_6 (by decide) (by decide) (fun h9 => absurd h9 (by decide)) (fun _ => ?_)
        refine S_iload_n X dX7_bytesIn_9 rfl rfl ?_
        refine S_iload_n X dX7_bytesIn_10 rfl rfl ?_
        refine S_iushr X dX7_bytesIn_11 ?_
        refine S_sipush X dX7_bytesIn_12 rfl ?_
        refine S_iand X dX7_bytesIn_15 ?_
        have hr_39 := zAnd_r (zUshr x 0) 255
        refine S_if_eq (tgt := 22) X dX7_bytesIn_16 (by decide) (by omega) (fun c_40 => ?_) (fun c_40 => ?_)
        ·
          have hz_c_40 := nz_0 c_40
          refine S_iincK (w := -8) X dX7_bytesIn_22 (nle rfl) rfl (by decide) ?_
          refine S_goto (tgt := 5) X dX7_bytesIn_25 (by decide) ?_
          refine S_iload_n X dX7_bytesIn_5 rfl rfl ?_
          refine S_if_lt (tgt := 28) X dX7_bytesIn_6 (by decide) (by decide) (fun _ => ?_) (fun h9 => absurd h9 (by decide))
          refine S_iload_n X dX7_bytesIn_28 rfl rfl ?_
          exact S_iret X (nle rfl) (nle rfl) dX7_bytesIn_29 (hPo _ _ (⟨by unfold byn; omega, rfl⟩))
        ·
          have hz_c_40 := nz_1 c_40
          refine S_iincK (w := 3) X dX7_bytesIn_19 (nle rfl) rfl (by decide) ?_
          refine S_iincK (w := -8) X dX7_bytesIn_22 (nle rfl) rfl (by decide) ?_
          refine S_goto (tgt := 5) X dX7_bytesIn_25 (by decide) ?_
          refine S_iload_n X dX7_bytesIn_5 rfl rfl ?_
          refine S_if_lt (tgt := 28) X dX7_bytesIn_6 (by decide) (by decide) (fun _ => ?_) (fun h9 => absurd h9 (by decide))
          refine S_iload_n X dX7_bytesIn_28 rfl rfl ?_
          exact S_iret X (nle rfl) (nle rfl) dX7_bytesIn_29 (hPo _ _ (⟨by unfold byn; omega, rfl⟩))
      ·
        have hz_c_38 := nz_1 c_38
        refine S_iincK (w := 3) X dX7_bytesIn_19 (nle rfl) rfl (by decide) ?_
        refine S_iincK (w := 0) X dX7_bytesIn_22 (nle rfl) rfl (by decide) ?_
        refine S_goto (tgt := 5) X dX7_bytesIn_25 (by decide) ?_
        refine S_iload_n X dX7_bytesIn_5 rfl rfl ?_
        refine S_if_lt (tgt := 28) X dX7_bytesIn_6 (by decide) (by decide) (fun h9 => absurd h9 (by decide)) (fun _ => ?_)
        refine S_iload_n X dX7_bytesIn_9 rfl rfl ?_
        refine S_iload_n X dX7_bytesIn_10 rfl rfl ?_
        refine S_iushr X dX7_bytesIn_11 ?_
        refine S_sipush X dX7_bytesIn_12 rfl ?_
        refine S_iand X dX7_bytesIn_15 ?_
        have hr_43 := zAnd_r (zUshr x 0) 255
        refine S_if_eq (tgt := 22) X dX7_bytesIn_16 (by decide) (by omega) (fun c_44 => ?_) (fun c_44 => ?_)
        ·
          have hz_c_44 := nz_0 c_44
          refine S_iincK (w := -8) X dX7_bytesIn_22 (nle rfl) rfl (by decide) ?_
          refine S_goto (tgt := 5) X dX7_bytesIn_25 (by decide) ?_
          refine S_iload_n X dX7_bytesIn_5 rfl rfl ?_
          refine S_if_lt (tgt := 28) X dX7_bytesIn_6 (by decide) (by decide) (fun _ => ?_) (fun h9 => absurd h9 (by decide))
          refine S_iload_n X dX7_bytesIn_28 rfl rfl ?_
          exact S_iret X (nle rfl) (nle rfl) dX7_bytesIn_29 (hPo _ _ (⟨by unfold byn; omega, rfl⟩))
        ·
          have hz_c_44 := nz_1 c_44
          refine S_iincK (w := 4) X dX7_bytesIn_19 (nle rfl) rfl (by decide) ?_
          refine S_iincK (w := -8) X dX7_bytesIn_22 (nle rfl) rfl (by decide) ?_
          refine S_goto (tgt := 5) X dX7_bytesIn_25 (by decide) ?_
          refine S_iload_n X dX7_bytesIn_5 rfl rfl ?_
          refine S_if_lt (tgt := 28) X dX7_bytesIn_6 (by decide) (by decide) (fun _ => ?_) (fun h9 => absurd h9 (by decide))
          refine S_iload_n X dX7_bytesIn_28 rfl rfl ?_
          exact S_iret X (nle rfl) (nle rfl) dX7_bytesIn_29 (hPo _ _ (⟨by unfold byn; omega, rfl⟩))
set_option maxHeartbeats 4000000 in
set_option maxRecDepth 100000 in
theorem kX7_push (l : Launch) (h0 : Nat) (hb : Nat) (f : Nat → AV) (T : Int → Int) (n : Int) (x : Int) (hf0 : f 0 = rv hb) (hn : 0 ≤ n ∧ n + byn x ≤ 160) : AMv l yX7_push cX7_push 4 0 0 0 [rv h0, iv x] [(h0, ob 6 (uF f 1 (iv n))), (hb, ar 160 T)] (fun u => ∃ n2 : Int, ∃ T2 : Int → Int, u = [(h0, ob 6 (uF f 1 (iv n2))), (hb, ar 160 T2)] ∧ n2 = n + byn x ∧ T2 = wrL T n (bys x)) := by
  refine AMv.of2 rfl (nle rfl) ?_
  intro D G A p e s m args below meth c Po hPo hnm X
  unfold byn at hn
  have hn24 := nz_in (zAnd (zUshr x 24) 255)
  have hn16 := nz_in (zAnd (zUshr x 16) 255)
  have hn8 := nz_in (zAnd (zUshr x 8) 255)
  have hn0 := nz_in (zAnd (zUshr x 0) 255)
  refine S_bipush X dX7_push_0 rfl ?_
  refine S_istore_n X dX7_push_2 rfl (nle rfl) ?_
  refine S_iload_n X dX7_push_3 rfl rfl ?_
  refine S_if_lt (tgt := 55) X dX7_push_4 (by decide) (by decide) (fun h9 => absurd h9 (by decide)) (fun _ => ?_)
  refine S_iload_n X dX7_push_7 rfl rfl ?_
  refine S_iload_n X dX7_push_8 rfl rfl ?_
  refine S_iushr X dX7_push_9 ?_
  refine S_sipush X dX7_push_10 rfl ?_
  refine S_iand X dX7_push_13 ?_
  refine S_istore_n X dX7_push_14 rfl (nle rfl) ?_
  refine S_iload_n X dX7_push_15 rfl rfl ?_
  have hr_1 := zAnd_r (zUshr x 24) 255
  refine S_if_eq (tgt := 49) X dX7_push_16 (by decide) (by omega) (fun c_2 => ?_) (fun c_2 => ?_)
  ·
    have hz_c_2 := nz_0 c_2
    refine S_iincK (w := 16) X dX7_push_49 (nle rfl) rfl (by decide) ?_
    refine S_goto (tgt := 3) X dX7_push_52 (by decide) ?_
    refine S_iload_n X dX7_push_3 rfl rfl ?_
    refine S_if_lt (tgt := 55) X dX7_push_4 (by decide) (by decide) (fun h9 => absurd h9 (by decide)) (fun _ => ?_)
    refine S_iload_n X dX7_push_7 rfl rfl ?_
    refine S_iload_n X dX7_push_8 rfl rfl ?_
    refine S_iushr X dX7_push_9 ?_
    refine S_sipush X dX7_push_10 rfl ?_
    refine S_iand X dX7_push_13 ?_
    refine S_istore_n X dX7_push_14 rfl (nle rfl) ?_
    refine S_iload_n X dX7_push_15 rfl rfl ?_
    have hr_3 := zAnd_r (zUshr x 16) 255
    refine S_if_eq (tgt := 49) X dX7_push_16 (by decide) (by omega) (fun c_4 => ?_) (fun c_4 => ?_)
    ·
      have hz_c_4 := nz_0 c_4
      refine S_iincK (w := 8) X dX7_push_49 (nle rfl) rfl (by decide) ?_
      refine S_goto (tgt := 3) X dX7_push_52 (by decide) ?_
      refine S_iload_n X dX7_push_3 rfl rfl ?_
      refine S_if_lt (tgt := 55) X dX7_push_4 (by decide) (by decide) (fun h9 => absurd h9 (by decide)) (fun _ => ?_)
      refine S_iload_n X dX7_push_7 rfl rfl ?_
      refine S_iload_n X dX7_push_8 rfl rfl ?_
      refine S_iushr X dX7_push_9 ?_
      refine S_sipush X dX7_push_10 rfl ?_
      refine S_iand X dX7_push_13 ?_
      refine S_istore_n X dX7_push_14 rfl (nle rfl) ?_
      refine S_iload_n X dX7_push_15 rfl rfl ?_
      have hr_5 := zAnd_r (zUshr x 8) 255
      refine S_if_eq (tgt := 49) X dX7_push_16 (by decide) (by omega) (fun c_6 => ?_) (fun c_6 => ?_)
      ·
        have hz_c_6 := nz_0 c_6
        refine S_iincK (w := 0) X dX7_push_49 (nle rfl) rfl (by decide) ?_
        refine S_goto (tgt := 3) X dX7_push_52 (by decide) ?_
        refine S_iload_n X dX7_push_3 rfl rfl ?_
        refine S_if_lt (tgt := 55) X dX7_push_4 (by decide) (by decide) (fun h9 => absurd h9 (by decide)) (fun _ => ?_)
        refine S_iload_n X dX7_push_7 rfl rfl ?_
        refine S_iload_n X dX7_push_8 rfl rfl ?_
        refine S_iushr X dX7_push_9 ?_
        refine S_sipush X dX7_push_10 rfl ?_
        refine S_iand X dX7_push_13 ?_
        refine S_istore_n X dX7_push_14 rfl (nle rfl) ?_
        refine S_iload_n X dX7_push_15 rfl rfl ?_
        have hr_7 := zAnd_r (zUshr x 0) 255
        refine S_if_eq (tgt := 49) X dX7_push_16 (by decide) (by omega) (fun c_8 => ?_) (fun c_8 => ?_)
        ·
          have hz_c_8 := nz_0 c_8
          refine S_iincK (w := -8) X dX7_push_49 (nle rfl) rfl (by decide) ?_
          refine S_goto (tgt := 3) X dX7_push_52 (by decide) ?_
          refine S_iload_n X dX7_push_3 rfl rfl ?_
          refine S_if_lt (tgt := 55) X dX7_push_4 (by decide) (by decide) (fun _ => ?_) (fun h9 => absurd h9 (by decide))
          exact S_vret X (nle rfl) (nle rfl) dX7_push_55 (hPo _ (⟨_, _, rfl, by unfold byn; omega, by simp only [bys, cNZ_0 c_2, cNZ_0 c_4, cNZ_0 c_6, cNZ_0 c_8, wrL]⟩))
        ·
          have hz_c_8 := nz_1 c_8
          refine S_aload_n X dX7_push_19 rfl rfl ?_
          refine S_get (v := iv n) X fgX7_13_6 0 rfl rfl dX7_push_20 ?_
          refine S_sipush X dX7_push_23 rfl ?_
          refine S_icmp_ge (tgt := 49) X dX7_push_26 (by decide) (by omega) (by decide) (fun c_10 => by exfalso; omega) (fun c_10 => ?_)
          refine S_aload_n X dX7_push_29 rfl rfl ?_
          refine S_get X fgX7_9_6 0 rfl hf0 dX7_push_30 ?_
          refine S_aload_n X dX7_push_33 rfl rfl ?_
          refine S_get (v := iv n) X fgX7_13_6 0 rfl rfl dX7_push_34 ?_
          refine S_iload_n X dX7_push_37 rfl rfl ?_
          refine S_iast X 1 rfl (by omega) (by omega) (nle rfl) dX7_push_38 ?_
          refine S_w (ws' := [(h0, ob 6 (uF f 1 (iv n))), (hb, ar 160 (uZ T n (zAnd (zUshr x 0) 255)))]) rfl ?_
          refine S_aload_n X dX7_push_39 rfl rfl ?_
          refine S_dup X dX7_push_40 ?_
          refine S_get (v := iv n) X fgX7_13_6 0 rfl rfl dX7_push_41 ?_
          refine S_iconst X dX7_push_44 ?_
          refine S_iadd X dX7_push_45 ?_
          refine S_put X fpX7_13_6 0 rfl FT_i dX7_push_46 ?_
          refine S_w (ws' := [(h0, ob 6 (uF f 1 (iv (n + 1)))), (hb, ar 160 (uZ T n (zAnd (zUshr x 0) 255)))]) (by simp only [List.set]; rw [uF_same (k := 1)]) ?_
          refine S_iincK (w := -8) X dX7_push_49 (nle rfl) rfl (by decide) ?_
          refine S_goto (tgt := 3) X dX7_push_52 (by decide) ?_
          refine S_iload_n X dX7_push_3 rfl rfl ?_
          refine S_if_lt (tgt := 55) X dX7_push_4 (by decide) (by decide) (fun _ => ?_) (fun h9 => absurd h9 (by decide))
          exact S_vret X (nle rfl) (nle rfl) dX7_push_55 (hPo _ (⟨_, _, rfl, by unfold byn; omega, by simp only [bys, cNZ_0 c_2, cNZ_0 c_4, cNZ_0 c_6, cNZ_1 c_8, wrL]⟩))
      ·
        have hz_c_6 := nz_1 c_6
        refine S_aload_n X dX7_push_19 rfl rfl ?_
        refine S_get (v := iv n) X fgX7_13_6 0 rfl rfl dX7_push_20 ?_
        refine S_sipush X dX7_push_23 rfl ?_
        refine S_icmp_ge (tgt := 49) X dX7_push_26 (by decide) (by omega) (by decide) (fun c_12 => by exfalso; omega) (fun c_12 => ?_)
        refine S_aload_n X dX7_push_29 rfl rfl ?_
        refine S_get X fgX7_9_6 0 rfl hf0 dX7_push_30 ?_
        refine S_aload_n X dX7_push_33 rfl rfl ?_
        refine S_get (v := iv n) X fgX7_13_6 0 rfl rfl dX7_push_34 ?_
        refine S_iload_n X dX7_push_37 rfl rfl ?_
        refine S_iast X 1 rfl (by omega) (by omega) (nle rfl) dX7_push_38 ?_
        refine S_w (ws' := [(h0, ob 6 (uF f 1 (iv n))), (hb, ar 160 (uZ T n (zAnd (zUshr x 8) 255)))]) rfl ?_
        refine S_aload_n X dX7_push_39 rfl rfl ?_
        refine S_dup X dX7_push_40 ?_
        refine S_get (v := iv n) X fgX7_13_6 0 rfl rfl dX7_push_41 ?_
        refine S_iconst X dX7_push_44 ?_
        refine S_iadd X dX7_push_45 ?_
        refine S_put X fpX7_13_6 0 rfl FT_i dX7_push_46 ?_
        refine S_w (ws' := [(h0, ob 6 (uF f 1 (iv (n + 1)))), (hb, ar 160 (uZ T n (zAnd (zUshr x 8) 255)))]) (by simp only [List.set]; rw [uF_same (k := 1)]) ?_
        refine S_iincK (w := 0) X dX7_push_49 (nle rfl) rfl (by decide) ?_
        refine S_goto (tgt := 3) X dX7_push_52 (by decide) ?_
        refine S_iload_n X dX7_push_3 rfl rfl ?_
        refine S_if_lt (tgt := 55) X dX7_push_4 (by decide) (by decide) (fun h9 => absurd h9 (by decide)) (fun _ => ?_)
        refine S_iload_n X dX7_push_7 rfl rfl ?_
        refine S_iload_n X dX7_push_8 rfl rfl ?_
        refine S_iushr X dX7_push_9 ?_
        refine S_sipush X dX7_push_10 rfl ?_
        refine S_iand X dX7_push_13 ?_
        refine S_istore_n X dX7_push_14 rfl (nle rfl) ?_
        refine S_iload_n X dX7_push_15 rfl rfl ?_
        have hr_13 := zAnd_r (zUshr x 0) 255
        refine S_if_eq (tgt := 49) X dX7_push_16 (by decide) (by omega) (fun c_14 => ?_) (fun c_14 => ?_)
        ·
          have hz_c_14 := nz_0 c_14
          refine S_iincK (w := -8) X dX7_push_49 (nle rfl) rfl (by decide) ?_
          refine S_goto (tgt := 3) X dX7_push_52 (by decide) ?_
          refine S_iload_n X dX7_push_3 rfl rfl ?_
          refine S_if_lt (tgt := 55) X dX7_push_4 (by decide) (by decide) (fun _ => ?_) (fun h9 => absurd h9 (by decide))
          exact S_vret X (nle rfl) (nle rfl) dX7_push_55 (hPo _ (⟨_, _, rfl, by unfold byn; omega, by simp only [bys, cNZ_0 c_2, cNZ_0 c_4, cNZ_1 c_6, cNZ_0 c_14, wrL]⟩))
        ·
          have hz_c_14 := nz_1 c_14
          refine S_aload_n X dX7_push_19 rfl rfl ?_
          refine S_get (v := iv (n + 1)) X fgX7_13_6 0 rfl rfl dX7_push_20 ?_
          refine S_sipush X dX7_push_23 rfl ?_
          refine S_icmp_ge (tgt := 49) X dX7_push_26 (by decide) (by omega) (by decide) (fun c_16 => by exfalso; omega) (fun c_16 => ?_)
          refine S_aload_n X dX7_push_29 rfl rfl ?_
          refine S_get X fgX7_9_6 0 rfl hf0 dX7_push_30 ?_
          refine S_aload_n X dX7_push_33 rfl rfl ?_
          refine S_get (v := iv (n + 1)) X fgX7_13_6 0 rfl rfl dX7_push_34 ?_
          refine S_iload_n X dX7_push_37 rfl rfl ?_
          refine S_iast X 1 rfl (by omega) (by omega) (nle rfl) dX7_push_38 ?_
          refine S_w (ws' := [(h0, ob 6 (uF f 1 (iv (n + 1)))), (hb, ar 160 (uZ (uZ T n (zAnd (zUshr x 8) 255)) (n + 1) (zAnd (zUshr x 0) 255)))]) rfl ?_
          refine S_aload_n X dX7_push_39 rfl rfl ?_
          refine S_dup X dX7_push_40 ?_
          refine S_get (v := iv (n + 1)) X fgX7_13_6 0 rfl rfl dX7_push_41 ?_
          refine S_iconst X dX7_push_44 ?_
          refine S_iadd X dX7_push_45 ?_
          refine S_put X fpX7_13_6 0 rfl FT_i dX7_push_46 ?_
          refine S_w (ws' := [(h0, ob 6 (uF f 1 (iv ((n + 1) + 1)))), (hb, ar 160 (uZ (uZ T n (zAnd (zUshr x 8) 255)) (n + 1) (zAnd (zUshr x 0) 255)))]) (by simp only [List.set]; rw [uF_same (k := 1)]) ?_
          refine S_iincK (w := -8) X dX7_push_49 (nle rfl) rfl (by decide) ?_
          refine S_goto (tgt := 3) X dX7_push_52 (by decide) ?_
          refine S_iload_n X dX7_push_3 rfl rfl ?_
          refine S_if_lt (tgt := 55) X dX7_push_4 (by decide) (by decide) (fun _ => ?_) (fun h9 => absurd h9 (by decide))
          exact S_vret X (nle rfl) (nle rfl) dX7_push_55 (hPo _ (⟨_, _, rfl, by unfold byn; omega, by simp only [bys, cNZ_0 c_2, cNZ_0 c_4, cNZ_1 c_6, cNZ_1 c_14, wrL]⟩))
    ·
      have hz_c_4 := nz_1 c_4
      refine S_aload_n X dX7_push_19 rfl rfl ?_
      refine S_get (v := iv n) X fgX7_13_6 0 rfl rfl dX7_push_20 ?_
      refine S_sipush X dX7_push_23 rfl ?_
      refine S_icmp_ge (tgt := 49) X dX7_push_26 (by decide) (by omega) (by decide) (fun c_18 => by exfalso; omega) (fun c_18 => ?_)
      refine S_aload_n X dX7_push_29 rfl rfl ?_
      refine S_get X fgX7_9_6 0 rfl hf0 dX7_push_30 ?_
      refine S_aload_n X dX7_push_33 rfl rfl ?_
      refine S_get (v := iv n) X fgX7_13_6 0 rfl rfl dX7_push_34 ?_
      refine S_iload_n X dX7_push_37 rfl rfl ?_
      refine S_iast X 1 rfl (by omega) (by omega) (nle rfl) dX7_push_38 ?_
      refine S_w (ws' := [(h0, ob 6 (uF f 1 (iv n))), (hb, ar 160 (uZ T n (zAnd (zUshr x 16) 255)))]) rfl ?_
      refine S_aload_n X dX7_push_39 rfl rfl ?_
      refine S_dup X dX7_push_40 ?_
      refine S_get (v := iv n) X fgX7_13_6 0 rfl rfl dX7_push_41 ?_
      refine S_iconst X dX7_push_44 ?_
      refine S_iadd X dX7_push_45 ?_
      refine S_put X fpX7_13_6 0 rfl FT_i dX7_push_46 ?_
      refine S_w (ws' := [(h0, ob 6 (uF f 1 (iv (n + 1)))), (hb, ar 160 (uZ T n (zAnd (zUshr x 16) 255)))]) (by simp only [List.set]; rw [uF_same (k := 1)]) ?_
      refine S_iincK (w := 8) X dX7_push_49 (nle rfl) rfl (by decide) ?_
      refine S_goto (tgt := 3) X dX7_push_52 (by decide) ?_
      refine S_iload_n X dX7_push_3 rfl rfl ?_
      refine S_if_lt (tgt := 55) X dX7_push_4 (by decide) (by decide) (fun h9 => absurd h9 (by decide)) (fun _ => ?_)
      refine S_iload_n X dX7_push_7 rfl rfl ?_
      refine S_iload_n X dX7_push_8 rfl rfl ?_
      refine S_iushr X dX7_push_9 ?_
      refine S_sipush X dX7_push_10 rfl ?_
      refine S_iand X dX7_push_13 ?_
      refine S_istore_n X dX7_push_14 rfl (nle rfl) ?_
      refine S_iload_n X dX7_push_15 rfl rfl ?_
      have hr_19 := zAnd_r (zUshr x 8) 255
      refine S_if_eq (tgt := 49) X dX7_push_16 (by decide) (by omega) (fun c_20 => ?_) (fun c_20 => ?_)
      ·
        have hz_c_20 := nz_0 c_20
        refine S_iincK (w := 0) X dX7_push_49 (nle rfl) rfl (by decide) ?_
        refine S_goto (tgt := 3) X dX7_push_52 (by decide) ?_
        refine S_iload_n X dX7_push_3 rfl rfl ?_
        refine S_if_lt (tgt := 55) X dX7_push_4 (by decide) (by decide) (fun h9 => absurd h9 (by decide)) (fun _ => ?_)
        refine S_iload_n X dX7_push_7 rfl rfl ?_
        refine S_iload_n X dX7_push_8 rfl rfl ?_
        refine S_iushr X dX7_push_9 ?_
        refine S_sipush X dX7_push_10 rfl ?_
        refine S_iand X dX7_push_13 ?_
        refine S_istore_n X dX7_push_14 rfl (nle rfl) ?_
        refine S_iload_n X dX7_push_15 rfl rfl ?_
        have hr_21 := zAnd_r (zUshr x 0) 255
        refine S_if_eq (tgt := 49) X dX7_push_16 (by decide) (by omega) (fun c_22 => ?_) (fun c_22 => ?_)
        ·
          have hz_c_22 := nz_0 c_22
          refine S_iincK (w := -8) X dX7_push_49 (nle rfl) rfl (by decide) ?_
          refine S_goto (tgt := 3) X dX7_push_52 (by decide) ?_
          refine S_iload_n X dX7_push_3 rfl rfl ?_
          refine S_if_lt (tgt := 55) X dX7_push_4 (by decide) (by decide) (fun _ => ?_) (fun h9 => absurd h9 (by decide))
          exact S_vret X (nle rfl) (nle rfl) dX7_push_55 (hPo _ (⟨_, _, rfl, by unfold byn; omega, by simp only [bys, cNZ_0 c_2, cNZ_1 c_4, cNZ_0 c_20, cNZ_0 c_22, wrL]⟩))
        ·
          have hz_c_22 := nz_1 c_22
          refine S_aload_n X dX7_push_19 rfl rfl ?_
          refine S_get (v := iv (n + 1)) X fgX7_13_6 0 rfl rfl dX7_push_20 ?_
          refine S_sipush X dX7_push_23 rfl ?_
          refine S_icmp_ge (tgt := 49) X dX7_push_26 (by decide) (by omega) (by decide) (fun c_24 => by exfalso; omega) (fun c_24 => ?_)
          refine S_aload_n X dX7_push_29 rfl rfl ?_
          refine S_get X fgX7_9_6 0 rfl hf0 dX7_push_30 ?_
          refine S_aload_n X dX7_push_33 rfl rfl ?_
          refine S_get (v := iv (n + 1)) X fgX7_13_6 0 rfl rfl dX7_push_34 ?_
          refine S_iload_n X dX7_push_37 rfl rfl ?_
          refine S_iast X 1 rfl (by omega) (by omega) (nle rfl) dX7_push_38 ?_
          refine S_w (ws' := [(h0, ob 6 (uF f 1 (iv (n + 1)))), (hb, ar 160 (uZ (uZ T n (zAnd (zUshr x 16) 255)) (n + 1) (zAnd (zUshr x 0) 255)))]) rfl ?_
          refine S_aload_n X dX7_push_39 rfl rfl ?_
          refine S_dup X dX7_push_40 ?_
          refine S_get (v := iv (n + 1)) X fgX7_13_6 0 rfl rfl dX7_push_41 ?_
          refine S_iconst X dX7_push_44 ?_
          refine S_iadd X dX7_push_45 ?_
          refine S_put X fpX7_13_6 0 rfl FT_i dX7_push_46 ?_
          refine S_w (ws' := [(h0, ob 6 (uF f 1 (iv ((n + 1) + 1)))), (hb, ar 160 (uZ (uZ T n (zAnd (zUshr x 16) 255)) (n + 1) (zAnd (zUshr x 0) 255)))]) (by simp only [List.set]; rw [uF_same (k := 1)]) ?_
          refine S_iincK (w := -8) X dX7_push_49 (nle rfl) rfl (by decide) ?_
          refine S_goto (tgt := 3) X dX7_push_52 (by decide) ?_
          refine S_iload_n X dX7_push_3 rfl rfl ?_
          refine S_if_lt (tgt := 55) X dX7_push_4 (by decide) (by decide) (fun _ => ?_) (fun h9 => absurd h9 (by decide))
          exact S_vret X (nle rfl) (nle rfl) dX7_push_55 (hPo _ (⟨_, _, rfl, by unfold byn; omega, by simp only [bys, cNZ_0 c_2, cNZ_1 c_4, cNZ_0 c_20, cNZ_1 c_22, wrL]⟩))
      ·
        have hz_c_20 := nz_1 c_20
        refine S_aload_n X dX7_push_19 rfl rfl ?_
        refine S_get (v := iv (n + 1)) X fgX7_13_6 0 rfl rfl dX7_push_20 ?_
        refine S_sipush X dX7_push_23 rfl ?_
        refine S_icmp_ge (tgt := 49) X dX7_push_26 (by decide) (by omega) (by decide) (fun c_26 => by exfalso; omega) (fun c_26 => ?_)
        refine S_aload_n X dX7_push_29 rfl rfl ?_
        refine S_get X fgX7_9_6 0 rfl hf0 dX7_push_30 ?_
        refine S_aload_n X dX7_push_33 rfl rfl ?_
        refine S_get (v := iv (n + 1)) X fgX7_13_6 0 rfl rfl dX7_push_34 ?_
        refine S_iload_n X dX7_push_37 rfl rfl ?_
        refine S_iast X 1 rfl (by omega) (by omega) (nle rfl) dX7_push_38 ?_
        refine S_w (ws' := [(h0, ob 6 (uF f 1 (iv (n + 1)))), (hb, ar 160 (uZ (uZ T n (zAnd (zUshr x 16) 255)) (n + 1) (zAnd (zUshr x 8) 255)))]) rfl ?_
        refine S_aload_n X dX7_push_39 rfl rfl ?_
        refine S_dup X dX7_push_40 ?_
        refine S_get (v := iv (n + 1)) X fgX7_13_6 0 rfl rfl dX7_push_41 ?_
        refine S_iconst X dX7_push_44 ?_
        refine S_iadd X dX7_push_45 ?_
        refine S_put X fpX7_13_6 0 rfl FT_i dX7_push_46 ?_
        refine S_w (ws' := [(h0, ob 6 (uF f 1 (iv ((n + 1) + 1)))), (hb, ar 160 (uZ (uZ T n (zAnd (zUshr x 16) 255)) (n + 1) (zAnd (zUshr x 8) 255)))]) (by simp only [List.set]; rw [uF_same (k := 1)]) ?_
        refine S_iincK (w := 0) X dX7_push_49 (nle rfl) rfl (by decide) ?_
        refine S_goto (tgt := 3) X dX7_push_52 (by decide) ?_
        refine S_iload_n X dX7_push_3 rfl rfl ?_
        refine S_if_lt (tgt := 55) X dX7_push_4 (by decide) (by decide) (fun h9 => absurd h9 (by decide)) (fun _ => ?_)
        refine S_iload_n X dX7_push_7 rfl rfl ?_
        refine S_iload_n X dX7_push_8 rfl rfl ?_
        refine S_iushr X dX7_push_9 ?_
        refine S_sipush X dX7_push_10 rfl ?_
        refine S_iand X dX7_push_13 ?_
        refine S_istore_n X dX7_push_14 rfl (nle rfl) ?_
        refine S_iload_n X dX7_push_15 rfl rfl ?_
        have hr_27 := zAnd_r (zUshr x 0) 255
        refine S_if_eq (tgt := 49) X dX7_push_16 (by decide) (by omega) (fun c_28 => ?_) (fun c_28 => ?_)
        ·
          have hz_c_28 := nz_0 c_28
          refine S_iincK (w := -8) X dX7_push_49 (nle rfl) rfl (by decide) ?_
          refine S_goto (tgt := 3) X dX7_push_52 (by decide) ?_
          refine S_iload_n X dX7_push_3 rfl rfl ?_
          refine S_if_lt (tgt := 55) X dX7_push_4 (by decide) (by decide) (fun _ => ?_) (fun h9 => absurd h9 (by decide))
          exact S_vret X (nle rfl) (nle rfl) dX7_push_55 (hPo _ (⟨_, _, rfl, by unfold byn; omega, by simp only [bys, cNZ_0 c_2, cNZ_1 c_4, cNZ_1 c_20, cNZ_0 c_28, wrL]⟩))
        ·
          have hz_c_28 := nz_1 c_28
          refine S_aload_n X dX7_push_19 rfl rfl ?_
          refine S_get (v := iv ((n + 1) + 1)) X fgX7_13_6 0 rfl rfl dX7_push_20 ?_
          refine S_sipush X dX7_push_23 rfl ?_
          refine S_icmp_ge (tgt := 49) X dX7_push_26 (by decide) (by omega) (by decide) (fun c_30 => by exfalso; omega) (fun c_30 => ?_)
          refine S_aload_n X dX7_push_29 rfl rfl ?_
          refine S_get X fgX7_9_6 0 rfl hf0 dX7_push_30 ?_
          refine S_aload_n X dX7_push_33 rfl rfl ?_
          refine S_get (v := iv ((n + 1) + 1)) X fgX7_13_6 0 rfl rfl dX7_push_34 ?_
          refine S_iload_n X dX7_push_37 rfl rfl ?_
          refine S_iast X 1 rfl (by omega) (by omega) (nle rfl) dX7_push_38 ?_
          refine S_w (ws' := [(h0, ob 6 (uF f 1 (iv ((n + 1) + 1)))), (hb, ar 160 (uZ (uZ (uZ T n (zAnd (zUshr x 16) 255)) (n + 1) (zAnd (zUshr x 8) 255)) ((n + 1) + 1) (zAnd (zUshr x 0) 255)))]) rfl ?_
          refine S_aload_n X dX7_push_39 rfl rfl ?_
          refine S_dup X dX7_push_40 ?_
          refine S_get (v := iv ((n + 1) + 1)) X fgX7_13_6 0 rfl rfl dX7_push_41 ?_
          refine S_iconst X dX7_push_44 ?_
          refine S_iadd X dX7_push_45 ?_
          refine S_put X fpX7_13_6 0 rfl FT_i dX7_push_46 ?_
          refine S_w (ws' := [(h0, ob 6 (uF f 1 (iv (((n + 1) + 1) + 1)))), (hb, ar 160 (uZ (uZ (uZ T n (zAnd (zUshr x 16) 255)) (n + 1) (zAnd (zUshr x 8) 255)) ((n + 1) + 1) (zAnd (zUshr x 0) 255)))]) (by simp only [List.set]; rw [uF_same (k := 1)]) ?_
          refine S_iincK (w := -8) X dX7_push_49 (nle rfl) rfl (by decide) ?_
          refine S_goto (tgt := 3) X dX7_push_52 (by decide) ?_
          refine S_iload_n X dX7_push_3 rfl rfl ?_
          refine S_if_lt (tgt := 55) X dX7_push_4 (by decide) (by decide) (fun _ => ?_) (fun h9 => absurd h9 (by decide))
          exact S_vret X (nle rfl) (nle rfl) dX7_push_55 (hPo _ (⟨_, _, rfl, by unfold byn; omega, by simp only [bys, cNZ_0 c_2, cNZ_1 c_4, cNZ_1 c_20, cNZ_1 c_28, wrL]⟩))
  ·
    have hz_c_2 := nz_1 c_2
    refine S_aload_n X dX7_push_19 rfl rfl ?_
    refine S_get (v := iv n) X fgX7_13_6 0 rfl rfl dX7_push_20 ?_
    refine S_sipush X dX7_push_23 rfl ?_
    refine S_icmp_ge (tgt := 49) X dX7_push_26 (by decide) (by omega) (by decide) (fun c_32 => by exfalso; omega) (fun c_32 => ?_)
    refine S_aload_n X dX7_push_29 rfl rfl ?_
    refine S_get X fgX7_9_6 0 rfl hf0 dX7_push_30 ?_
    refine S_aload_n X dX7_push_33 rfl rfl ?_
    refine S_get (v := iv n) X fgX7_13_6 0 rfl rfl dX7_push_34 ?_
    refine S_iload_n X dX7_push_37 rfl rfl ?_
    refine S_iast X 1 rfl (by omega) (by omega) (nle rfl) dX7_push_38 ?_
    refine S_w (ws' := [(h0, ob 6 (uF f 1 (iv n))), (hb, ar 160 (uZ T n (zAnd (zUshr x 24) 255)))]) rfl ?_
    refine S_aload_n X dX7_push_39 rfl rfl ?_
    refine S_dup X dX7_push_40 ?_
    refine S_get (v := iv n) X fgX7_13_6 0 rfl rfl dX7_push_41 ?_
    refine S_iconst X dX7_push_44 ?_
    refine S_iadd X dX7_push_45 ?_
    refine S_put X fpX7_13_6 0 rfl FT_i dX7_push_46 ?_
    refine S_w (ws' := [(h0, ob 6 (uF f 1 (iv (n + 1)))), (hb, ar 160 (uZ T n (zAnd (zUshr x 24) 255)))]) (by simp only [List.set]; rw [uF_same (k := 1)]) ?_
    refine S_iincK (w := 16) X dX7_push_49 (nle rfl) rfl (by decide) ?_
    refine S_goto (tgt := 3) X dX7_push_52 (by decide) ?_
    refine S_iload_n X dX7_push_3 rfl rfl ?_
    refine S_if_lt (tgt := 55) X dX7_push_4 (by decide) (by decide) (fun h9 => absurd h9 (by decide)) (fun _ => ?_)
    refine S_iload_n X dX7_push_7 rfl rfl ?_
    refine S_iload_n X dX7_push_8 rfl rfl ?_
    refine S_iushr X dX7_push_9 ?_
    refine S_sipush X dX7_push_10 rfl ?_
    refine S_iand X dX7_push_13 ?_
    refine S_istore_n X dX7_push_14 rfl (nle rfl) ?_
    refine S_iload_n X dX7_push_15 rfl rfl ?_
    have hr_33 := zAnd_r (zUshr x 16) 255
    refine S_if_eq (tgt := 49) X dX7_push_16 (by decide) (by omega) (fun c_34 => ?_) (fun c_34 => ?_)
    ·
      have hz_c_34 := nz_0 c_34
      refine S_iincK (w := 8) X dX7_push_49 (nle rfl) rfl (by decide) ?_
      refine S_goto (tgt := 3) X dX7_push_52 (by decide) ?_
      refine S_iload_n X dX7_push_3 rfl rfl ?_
      refine S_if_lt (tgt := 55) X dX7_push_4 (by decide) (by decide) (fun h9 => absurd h9 (by decide)) (fun _ => ?_)
      refine S_iload_n X dX7_push_7 rfl rfl ?_
      refine S_iload_n X dX7_push_8 rfl rfl ?_
      refine S_iushr X dX7_push_9 ?_
      refine S_sipush X dX7_push_10 rfl ?_
      refine S_iand X dX7_push_13 ?_
      refine S_istore_n X dX7_push_14 rfl (nle rfl) ?_
      refine S_iload_n X dX7_push_15 rfl rfl ?_
      have hr_35 := zAnd_r (zUshr x 8) 255
      refine S_if_eq (tgt := 49) X dX7_push_16 (by decide) (by omega) (fun c_36 => ?_) (fun c_36 => ?_)
      ·
        have hz_c_36 := nz_0 c_36
        refine S_iincK (w := 0) X dX7_push_49 (nle rfl) rfl (by decide) ?_
        refine S_goto (tgt := 3) X dX7_push_52 (by decide) ?_
        refine S_iload_n X dX7_push_3 rfl rfl ?_
        refine S_if_lt (tgt := 55) X dX7_push_4 (by decide) (by decide) (fun h9 => absurd h9 (by decide)) (fun _ => ?_)
        refine S_iload_n X dX7_push_7 rfl rfl ?_
        refine S_iload_n X dX7_push_8 rfl rfl ?_
        refine S_iushr X dX7_push_9 ?_
        refine S_sipush X dX7_push_10 rfl ?_
        refine S_iand X dX7_push_13 ?_
        refine S_istore_n X dX7_push_14 rfl (nle rfl) ?_
        refine S_iload_n X dX7_push_15 rfl rfl ?_
        have hr_37 := zAnd_r (zUshr x 0) 255
        refine S_if_eq (tgt := 49) X dX7_push_16 (by decide) (by omega) (fun c_38 => ?_) (fun c_38 => ?_)
        ·
          have hz_c_38 := nz_0 c_38
          refine S_iincK (w := -8) X dX7_push_49 (nle rfl) rfl (by decide) ?_
          refine S_goto (tgt := 3) X dX7_push_52 (by decide) ?_
          refine S_iload_n X dX7_push_3 rfl rfl ?_
          refine S_if_lt (tgt := 55) X dX7_push_4 (by decide) (by decide) (fun _ => ?_) (fun h9 => absurd h9 (by decide))
          exact S_vret X (nle rfl) (nle rfl) dX7_push_55 (hPo _ (⟨_, _, rfl, by unfold byn; omega, by simp only [bys, cNZ_1 c_2, cNZ_0 c_34, cNZ_0 c_36, cNZ_0 c_38, wrL]⟩))
        ·
          have hz_c_38 := nz_1 c_38
          refine S_aload_n X dX7_push_19 rfl rfl ?_
          refine S_get (v := iv (n + 1)) X fgX7_13_6 0 rfl rfl dX7_push_20 ?_
          refine S_sipush X dX7_push_23 rfl ?_
          refine S_icmp_ge (tgt := 49) X dX7_push_26 (by decide) (by omega) (by decide) (fun c_40 => by exfalso; omega) (fun c_40 => ?_)
          refine S_aload_n X dX7_push_29 rfl rfl ?_
          refine S_get X fgX7_9_6 0 rfl hf0 dX7_push_30 ?_
          refine S_aload_n X dX7_push_33 rfl rfl ?_
          refine S_get (v := iv (n + 1)) X fgX7_13_6 0 rfl rfl dX7_push_34 ?_
          refine S_iload_n X dX7_push_37 rfl rfl ?_
          refine S_iast X 1 rfl (by omega) (by omega) (nle rfl) dX7_push_38 ?_
          refine S_w (ws' := [(h0, ob 6 (uF f 1 (iv (n + 1)))), (hb, ar 160 (uZ (uZ T n (zAnd (zUshr x 24) 255)) (n + 1) (zAnd (zUshr x 0) 255)))]) rfl ?_
          refine S_aload_n X dX7_push_39 rfl rfl ?_
          refine S_dup X dX7_push_40 ?_
          refine S_get (v := iv (n + 1)) X fgX7_13_6 0 rfl rfl dX7_push_41 ?_
          refine S_iconst X dX7_push_44 ?_
          refine S_iadd X dX7_push_45 ?_
          refine S_put X fpX7_13_6 0 rfl FT_i dX7_push_46 ?_
          refine S_w (ws' := [(h0, ob 6 (uF f 1 (iv ((n + 1) + 1)))), (hb, ar 160 (uZ (uZ T n (zAnd (zUshr x 24) 255)) (n + 1) (zAnd (zUshr x 0) 255)))]) (by simp only [List.set]; rw [uF_same (k := 1)]) ?_
          refine S_iincK (w := -8) X dX7_push_49 (nle rfl) rfl (by decide) ?_
          refine S_goto (tgt := 3) X dX7_push_52 (by decide) ?_
          refine S_iload_n X dX7_push_3 rfl rfl ?_
          refine S_if_lt (tgt := 55) X dX7_push_4 (by decide) (by decide) (fun _ => ?_) (fun h9 => absurd h9 (by decide))
          exact S_vret X (nle rfl) (nle rfl) dX7_push_55 (hPo _ (⟨_, _, rfl, by unfold byn; omega, by simp only [bys, cNZ_1 c_2, cNZ_0 c_34, cNZ_0 c_36, cNZ_1 c_38, wrL]⟩))
      ·
        have hz_c_36 := nz_1 c_36
        refine S_aload_n X dX7_push_19 rfl rfl ?_
        refine S_get (v := iv (n + 1)) X fgX7_13_6 0 rfl rfl dX7_push_20 ?_
        refine S_sipush X dX7_push_23 rfl ?_
        refine S_icmp_ge (tgt := 49) X dX7_push_26 (by decide) (by omega) (by decide) (fun c_42 => by exfalso; omega) (fun c_42 => ?_)
        refine S_aload_n X dX7_push_29 rfl rfl ?_
        refine S_get X fgX7_9_6 0 rfl hf0 dX7_push_30 ?_
        refine S_aload_n X dX7_push_33 rfl rfl ?_
        refine S_get (v := iv (n + 1)) X fgX7_13_6 0 rfl rfl dX7_push_34 ?_
        refine S_iload_n X dX7_push_37 rfl rfl ?_
        refine S_iast X 1 rfl (by omega) (by omega) (nle rfl) dX7_push_38 ?_
        refine S_w (ws' := [(h0, ob 6 (uF f 1 (iv (n + 1)))), (hb, ar 160 (uZ (uZ T n (zAnd (zUshr x 24) 255)) (n + 1) (zAnd (zUshr x 8) 255)))]) rfl ?_
        refine S_aload_n X dX7_push_39 rfl rfl ?_
        refine S_dup X dX7_push_40 ?_
        refine S_get (v := iv (n + 1)) X fgX7_13_6 0 rfl rfl dX7_push_41 ?_
        refine S_iconst X dX7_push_44 ?_
        refine S_iadd X dX7_push_45 ?_
        refine S_put X fpX7_13_6 0 rfl FT_i dX7_push_46 ?_
        refine S_w (ws' := [(h0, ob 6 (uF f 1 (iv ((n + 1) + 1)))), (hb, ar 160 (uZ (uZ T n (zAnd (zUshr x 24) 255)) (n + 1) (zAnd (zUshr x 8) 255)))]) (by simp only [List.set]; rw [uF_same (k := 1)]) ?_
        refine S_iincK (w := 0) X dX7_push_49 (nle rfl) rfl (by decide) ?_
        refine S_goto (tgt := 3) X dX7_push_52 (by decide) ?_
        refine S_iload_n X dX7_push_3 rfl rfl ?_
        refine S_if_lt (tgt := 55) X dX7_push_4 (by decide) (by decide) (fun h9 => absurd h9 (by decide)) (fun _ => ?_)
        refine S_iload_n X dX7_push_7 rfl rfl ?_
        refine S_iload_n X dX7_push_8 rfl rfl ?_
        refine S_iushr X dX7_push_9 ?_
        refine S_sipush X dX7_push_10 rfl ?_
        refine S_iand X dX7_push_13 ?_
        refine S_istore_n X dX7_push_14 rfl (nle rfl) ?_
        refine S_iload_n X dX7_push_15 rfl rfl ?_
        have hr_43 := zAnd_r (zUshr x 0) 255
        refine S_if_eq (tgt := 49) X dX7_push_16 (by decide) (by omega) (fun c_44 => ?_) (fun c_44 => ?_)
        ·
          have hz_c_44 := nz_0 c_44
          refine S_iincK (w := -8) X dX7_push_49 (nle rfl) rfl (by decide) ?_
          refine S_goto (tgt := 3) X dX7_push_52 (by decide) ?_
          refine S_iload_n X dX7_push_3 rfl rfl ?_
          refine S_if_lt (tgt := 55) X dX7_push_4 (by decide) (by decide) (fun _ => ?_) (fun h9 => absurd h9 (by decide))
          exact S_vret X (nle rfl) (nle rfl) dX7_push_55 (hPo _ (⟨_, _, rfl, by unfold byn; omega, by simp only [bys, cNZ_1 c_2, cNZ_0 c_34, cNZ_1 c_36, cNZ_0 c_44, wrL]⟩))
        ·
          have hz_c_44 := nz_1 c_44
          refine S_aload_n X dX7_push_19 rfl rfl ?_
          refine S_get (v := iv ((n + 1) + 1)) X fgX7_13_6 0 rfl rfl dX7_push_20 ?_
          refine S_sipush X dX7_push_23 rfl ?_
          refine S_icmp_ge (tgt := 49) X dX7_push_26 (by decide) (by omega) (by decide) (fun c_46 => by exfalso; omega) (fun c_46 => ?_)
          refine S_aload_n X dX7_push_29 rfl rfl ?_
          refine S_get X fgX7_9_6 0 rfl hf0 dX7_push_30 ?_
          refine S_aload_n X dX7_push_33 rfl rfl ?_
          refine S_get (v := iv ((n + 1) + 1)) X fgX7_13_6 0 rfl rfl dX7_push_34 ?_
          refine S_iload_n X dX7_push_37 rfl rfl ?_
          refine S_iast X 1 rfl (by omega) (by omega) (nle rfl) dX7_push_38 ?_
          refine S_w (ws' := [(h0, ob 6 (uF f 1 (iv ((n + 1) + 1)))), (hb, ar 160 (uZ (uZ (uZ T n (zAnd (zUshr x 24) 255)) (n + 1) (zAnd (zUshr x 8) 255)) ((n + 1) + 1) (zAnd (zUshr x 0) 255)))]) rfl ?_
          refine S_aload_n X dX7_push_39 rfl rfl ?_
          refine S_dup X dX7_push_40 ?_
          refine S_get (v := iv ((n + 1) + 1)) X fgX7_13_6 0 rfl rfl dX7_push_41 ?_
          refine S_iconst X dX7_push_44 ?_
          refine S_iadd X dX7_push_45 ?_
          refine S_put X fpX7_13_6 0 rfl FT_i dX7_push_46 ?_
          refine S_w (ws' := [(h0, ob 6 (uF f 1 (iv (((n + 1) + 1) + 1)))), (hb, ar 160 (uZ (uZ (uZ T n (zAnd (zUshr x 24) 255)) (n + 1) (zAnd (zUshr x 8) 255)) ((n + 1) + 1) (zAnd (zUshr x 0) 255)))]) (by simp only [List.set]; rw [uF_same (k := 1)]) ?_
          refine S_iincK (w := -8) X dX7_push_49 (nle rfl) rfl (by decide) ?_
          refine S_goto (tgt := 3) X dX7_push_52 (by decide) ?_
          refine S_iload_n X dX7_push_3 rfl rfl ?_
          refine S_if_lt (tgt := 55) X dX7_push_4 (by decide) (by decide) (fun _ => ?_) (fun h9 => absurd h9 (by decide))
          exact S_vret X (nle rfl) (nle rfl) dX7_push_55 (hPo _ (⟨_, _, rfl, by unfold byn; omega, by simp only [bys, cNZ_1 c_2, cNZ_0 c_34, cNZ_1 c_36, cNZ_1 c_44, wrL]⟩))
    ·
      have hz_c_34 := nz_1 c_34
      refine S_aload_n X dX7_push_19 rfl rfl ?_
      refine S_get (v := iv (n + 1)) X fgX7_13_6 0 rfl rfl dX7_push_20 ?_
      refine S_sipush X dX7_push_23 rfl ?_
      refine S_icmp_ge (tgt := 49) X dX7_push_26 (by decide) (by omega) (by decide) (fun c_48 => by exfalso; omega) (fun c_48 => ?_)
      refine S_aload_n X dX7_push_29 rfl rfl ?_
      refine S_get X fgX7_9_6 0 rfl hf0 dX7_push_30 ?_
      refine S_aload_n X dX7_push_33 rfl rfl ?_
      refine S_get (v := iv (n + 1)) X fgX7_13_6 0 rfl rfl dX7_push_34 ?_
      refine S_iload_n X dX7_push_37 rfl rfl ?_
      refine S_iast X 1 rfl (by omega) (by omega) (nle rfl) dX7_push_38 ?_
      refine S_w (ws' := [(h0, ob 6 (uF f 1 (iv (n + 1)))), (hb, ar 160 (uZ (uZ T n (zAnd (zUshr x 24) 255)) (n + 1) (zAnd (zUshr x 16) 255)))]) rfl ?_
      refine S_aload_n X dX7_push_39 rfl rfl ?_
      refine S_dup X dX7_push_40 ?_
      refine S_get (v := iv (n + 1)) X fgX7_13_6 0 rfl rfl dX7_push_41 ?_
      refine S_iconst X dX7_push_44 ?_
      refine S_iadd X dX7_push_45 ?_
      refine S_put X fpX7_13_6 0 rfl FT_i dX7_push_46 ?_
      refine S_w (ws' := [(h0, ob 6 (uF f 1 (iv ((n + 1) + 1)))), (hb, ar 160 (uZ (uZ T n (zAnd (zUshr x 24) 255)) (n + 1) (zAnd (zUshr x 16) 255)))]) (by simp only [List.set]; rw [uF_same (k := 1)]) ?_
      refine S_iincK (w := 8) X dX7_push_49 (nle rfl) rfl (by decide) ?_
      refine S_goto (tgt := 3) X dX7_push_52 (by decide) ?_
      refine S_iload_n X dX7_push_3 rfl rfl ?_
      refine S_if_lt (tgt := 55) X dX7_push_4 (by decide) (by decide) (fun h9 => absurd h9 (by decide)) (fun _ => ?_)
      refine S_iload_n X dX7_push_7 rfl rfl ?_
      refine S_iload_n X dX7_push_8 rfl rfl ?_
      refine S_iushr X dX7_push_9 ?_
      refine S_sipush X dX7_push_10 rfl ?_
      refine S_iand X dX7_push_13 ?_
      refine S_istore_n X dX7_push_14 rfl (nle rfl) ?_
      refine S_iload_n X dX7_push_15 rfl rfl ?_
      have hr_49 := zAnd_r (zUshr x 8) 255
      refine S_if_eq (tgt := 49) X dX7_push_16 (by decide) (by omega) (fun c_50 => ?_) (fun c_50 => ?_)
      ·
        have hz_c_50 := nz_0 c_50
        refine S_iincK (w := 0) X dX7_push_49 (nle rfl) rfl (by decide) ?_
        refine S_goto (tgt := 3) X dX7_push_52 (by decide) ?_
        refine S_iload_n X dX7_push_3 rfl rfl ?_
        refine S_if_lt (tgt := 55) X dX7_push_4 (by decide) (by decide) (fun h9 => absurd h9 (by decide)) (fun _ => ?_)
        refine S_iload_n X dX7_push_7 rfl rfl ?_
        refine S_iload_n X dX7_push_8 rfl rfl ?_
        refine S_iushr X dX7_push_9 ?_
        refine S_sipush X dX7_push_10 rfl ?_
        refine S_iand X dX7_push_13 ?_
        refine S_istore_n X dX7_push_14 rfl (nle rfl) ?_
        refine S_iload_n X dX7_push_15 rfl rfl ?_
        have hr_51 := zAnd_r (zUshr x 0) 255
        refine S_if_eq (tgt := 49) X dX7_push_16 (by decide) (by omega) (fun c_52 => ?_) (fun c_52 => ?_)
        ·
          have hz_c_52 := nz_0 c_52
          refine S_iincK (w := -8) X dX7_push_49 (nle rfl) rfl (by decide) ?_
          refine S_goto (tgt := 3) X dX7_push_52 (by decide) ?_
          refine S_iload_n X dX7_push_3 rfl rfl ?_
          refine S_if_lt (tgt := 55) X dX7_push_4 (by decide) (by decide) (fun _ => ?_) (fun h9 => absurd h9 (by decide))
          exact S_vret X (nle rfl) (nle rfl) dX7_push_55 (hPo _ (⟨_, _, rfl, by unfold byn; omega, by simp only [bys, cNZ_1 c_2, cNZ_1 c_34, cNZ_0 c_50, cNZ_0 c_52, wrL]⟩))
        ·
          have hz_c_52 := nz_1 c_52
          refine S_aload_n X dX7_push_19 rfl rfl ?_
          refine S_get (v := iv ((n + 1) + 1)) X fgX7_13_6 0 rfl rfl dX7_push_20 ?_
          refine S_sipush X dX7_push_23 rfl ?_
          refine S_icmp_ge (tgt := 49) X dX7_push_26 (by decide) (by omega) (by decide) (fun c_54 => by exfalso; omega) (fun c_54 => ?_)
          refine S_aload_n X dX7_push_29 rfl rfl ?_
          refine S_get X fgX7_9_6 0 rfl hf0 dX7_push_30 ?_
          refine S_aload_n X dX7_push_33 rfl rfl ?_
          refine S_get (v := iv ((n + 1) + 1)) X fgX7_13_6 0 rfl rfl dX7_push_34 ?_
          refine S_iload_n X dX7_push_37 rfl rfl ?_
          refine S_iast X 1 rfl (by omega) (by omega) (nle rfl) dX7_push_38 ?_
          refine S_w (ws' := [(h0, ob 6 (uF f 1 (iv ((n + 1) + 1)))), (hb, ar 160 (uZ (uZ (uZ T n (zAnd (zUshr x 24) 255)) (n + 1) (zAnd (zUshr x 16) 255)) ((n + 1) + 1) (zAnd (zUshr x 0) 255)))]) rfl ?_
          refine S_aload_n X dX7_push_39 rfl rfl ?_
          refine S_dup X dX7_push_40 ?_
          refine S_get (v := iv ((n + 1) + 1)) X fgX7_13_6 0 rfl rfl dX7_push_41 ?_
          refine S_iconst X dX7_push_44 ?_
          refine S_iadd X dX7_push_45 ?_
          refine S_put X fpX7_13_6 0 rfl FT_i dX7_push_46 ?_
          refine S_w (ws' := [(h0, ob 6 (uF f 1 (iv (((n + 1) + 1) + 1)))), (hb, ar 160 (uZ (uZ (uZ T n (zAnd (zUshr x 24) 255)) (n + 1) (zAnd (zUshr x 16) 255)) ((n + 1) + 1) (zAnd (zUshr x 0) 255)))]) (by simp only [List.set]; rw [uF_same (k := 1)]) ?_
          refine S_iincK (w := -8) X dX7_push_49 (nle rfl) rfl (by decide) ?_
          refine S_goto (tgt := 3) X dX7_push_52 (by decide) ?_
          refine S_iload_n X dX7_push_3 rfl rfl ?_
          refine S_if_lt (tgt := 55) X dX7_push_4 (by decide) (by decide) (fun _ => ?_) (fun h9 => absurd h9 (by decide))
          exact S_vret X (nle rfl) (nle rfl) dX7_push_55 (hPo _ (⟨_, _, rfl, by unfold byn; omega, by simp only [bys, cNZ_1 c_2, cNZ_1 c_34, cNZ_0 c_50, cNZ_1 c_52, wrL]⟩))
      ·
        have hz_c_50 := nz_1 c_50
        refine S_aload_n X dX7_push_19 rfl rfl ?_
        refine S_get (v := iv ((n + 1) + 1)) X fgX7_13_6 0 rfl rfl dX7_push_20 ?_
        refine S_sipush X dX7_push_23 rfl ?_
        refine S_icmp_ge (tgt := 49) X dX7_push_26 (by decide) (by omega) (by decide) (fun c_56 => by exfalso; omega) (fun c_56 => ?_)
        refine S_aload_n X dX7_push_29 rfl rfl ?_
        refine S_get X fgX7_9_6 0 rfl hf0 dX7_push_30 ?_
        refine S_aload_n X dX7_push_33 rfl rfl ?_
        refine S_get (v := iv ((n + 1) + 1)) X fgX7_13_6 0 rfl rfl dX7_push_34 ?_
        refine S_iload_n X dX7_push_37 rfl rfl ?_
        refine S_iast X 1 rfl (by omega) (by omega) (nle rfl) dX7_push_38 ?_
        refine S_w (ws' := [(h0, ob 6 (uF f 1 (iv ((n + 1) + 1)))), (hb, ar 160 (uZ (uZ (uZ T n (zAnd (zUshr x 24) 255)) (n + 1) (zAnd (zUshr x 16) 255)) ((n + 1) + 1) (zAnd (zUshr x 8) 255)))]) rfl ?_
        refine S_aload_n X dX7_push_39 rfl rfl ?_
        refine S_dup X dX7_push_40 ?_
        refine S_get (v := iv ((n + 1) + 1)) X fgX7_13_6 0 rfl rfl dX7_push_41 ?_
        refine S_iconst X dX7_push_44 ?_
        refine S_iadd X dX7_push_45 ?_
        refine S_put X fpX7_13_6 0 rfl FT_i dX7_push_46 ?_
        refine S_w (ws' := [(h0, ob 6 (uF f 1 (iv (((n + 1) + 1) + 1)))), (hb, ar 160 (uZ (uZ (uZ T n (zAnd (zUshr x 24) 255)) (n + 1) (zAnd (zUshr x 16) 255)) ((n + 1) + 1) (zAnd (zUshr x 8) 255)))]) (by simp only [List.set]; rw [uF_same (k := 1)]) ?_
        refine S_iincK (w := 0) X dX7_push_49 (nle rfl) rfl (by decide) ?_
        refine S_goto (tgt := 3) X dX7_push_52 (by decide) ?_
        refine S_iload_n X dX7_push_3 rfl rfl ?_
        refine S_if_lt (tgt := 55) X dX7_push_4 (by decide) (by decide) (fun h9 => absurd h9 (by decide)) (fun _ => ?_)
        refine S_iload_n X dX7_push_7 rfl rfl ?_
        refine S_iload_n X dX7_push_8 rfl rfl ?_
        refine S_iushr X dX7_push_9 ?_
        refine S_sipush X dX7_push_10 rfl ?_
        refine S_iand X dX7_push_13 ?_
        refine S_istore_n X dX7_push_14 rfl (nle rfl) ?_
        refine S_iload_n X dX7_push_15 rfl rfl ?_
        have hr_57 := zAnd_r (zUshr x 0) 255
        refine S_if_eq (tgt := 49) X dX7_push_16 (by decide) (by omega) (fun c_58 => ?_) (fun c_58 => ?_)
        ·
          have hz_c_58 := nz_0 c_58
          refine S_iincK (w := -8) X dX7_push_49 (nle rfl) rfl (by decide) ?_
          refine S_goto (tgt := 3) X dX7_push_52 (by decide) ?_
          refine S_iload_n X dX7_push_3 rfl rfl ?_
          refine S_if_lt (tgt := 55) X dX7_push_4 (by decide) (by decide) (fun _ => ?_) (fun h9 => absurd h9 (by decide))
          exact S_vret X (nle rfl) (nle rfl) dX7_push_55 (hPo _ (⟨_, _, rfl, by unfold byn; omega, by simp only [bys, cNZ_1 c_2, cNZ_1 c_34, cNZ_1 c_50, cNZ_0 c_58, wrL]⟩))
        ·
          have hz_c_58 := nz_1 c_58
          refine S_aload_n X dX7_push_19 rfl rfl ?_
          refine S_get (v := iv (((n + 1) + 1) + 1)) X fgX7_13_6 0 rfl rfl dX7_push_20 ?_
          refine S_sipush X dX7_push_23 rfl ?_
          refine S_icmp_ge (tgt := 49) X dX7_push_26 (by decide) (by omega) (by decide) (fun c_60 => by exfalso; omega) (fun c_60 => ?_)
          refine S_aload_n X dX7_push_29 rfl rfl ?_
          refine S_get X fgX7_9_6 0 rfl hf0 dX7_push_30 ?_
          refine S_aload_n X dX7_push_33 rfl rfl ?_
          refine S_get (v := iv (((n + 1) + 1) + 1)) X fgX7_13_6 0 rfl rfl dX7_push_34 ?_
          refine S_iload_n X dX7_push_37 rfl rfl ?_
          refine S_iast X 1 rfl (by omega) (by omega) (nle rfl) dX7_push_38 ?_
          refine S_w (ws' := [(h0, ob 6 (uF f 1 (iv (((n + 1) + 1) + 1)))), (hb, ar 160 (uZ (uZ (uZ (uZ T n (zAnd (zUshr x 24) 255)) (n + 1) (zAnd (zUshr x 16) 255)) ((n + 1) + 1) (zAnd (zUshr x 8) 255)) (((n + 1) + 1) + 1) (zAnd (zUshr x 0) 255)))]) rfl ?_
          refine S_aload_n X dX7_push_39 rfl rfl ?_
          refine S_dup X dX7_push_40 ?_
          refine S_get (v := iv (((n + 1) + 1) + 1)) X fgX7_13_6 0 rfl rfl dX7_push_41 ?_
          refine S_iconst X dX7_push_44 ?_
          refine S_iadd X dX7_push_45 ?_
          refine S_put X fpX7_13_6 0 rfl FT_i dX7_push_46 ?_
          refine S_w (ws' := [(h0, ob 6 (uF f 1 (iv ((((n + 1) + 1) + 1) + 1)))), (hb, ar 160 (uZ (uZ (uZ (uZ T n (zAnd (zUshr x 24) 255)) (n + 1) (zAnd (zUshr x 16) 255)) ((n + 1) + 1) (zAnd (zUshr x 8) 255)) (((n + 1) + 1) + 1) (zAnd (zUshr x 0) 255)))]) (by simp only [List.set]; rw [uF_same (k := 1)]) ?_
          refine S_iincK (w := -8) X dX7_push_49 (nle rfl) rfl (by decide) ?_
          refine S_goto (tgt := 3) X dX7_push_52 (by decide) ?_
          refine S_iload_n X dX7_push_3 rfl rfl ?_
          refine S_if_lt (tgt := 55) X dX7_push_4 (by decide) (by decide) (fun _ => ?_) (fun h9 => absurd h9 (by decide))
          exact S_vret X (nle rfl) (nle rfl) dX7_push_55 (hPo _ (⟨_, _, rfl, by unfold byn; omega, by simp only [bys, cNZ_1 c_2, cNZ_1 c_34, cNZ_1 c_50, cNZ_1 c_58, wrL]⟩))
set_option maxHeartbeats 4000000 in
set_option maxRecDepth 100000 in
theorem kX11_feed (l : Launch) (h0 : Nat) (ht : Nat) (hb : Nat) (f : Nat → AV) (ft : Nat → AV) (T : Int → Int) (n : Int) (x1 : Int) (x2 : Int) (x3 : Int) (x4 : Int) (x5 : Int) (hf0 : f 0 = rv ht) (hf1 : ft 0 = rv hb) (hn : 0 ≤ n ∧ n ≤ 160) : AMi l yX11_feed cX11_feed 7 .int 1 0 0 [rv h0, iv x1, iv x2, iv x3, iv x4, iv x5] [(h0, ob 10 f), (ht, ob 6 (uF ft 1 (iv n))), (hb, ar 160 T)] (fun z u => (z = -1 ∧ u = [(h0, ob 10 f), (ht, ob 6 (uF ft 1 (iv n))), (hb, ar 160 T)] ∧ 160 < n + fbn x1 x2 x3 x4 x5) ∨ (∃ n2 : Int, ∃ T2 : Int → Int, z = n2 ∧ u = [(h0, ob 10 f), (ht, ob 6 (uF ft 1 (iv n2))), (hb, ar 160 T2)] ∧ n + fbn x1 x2 x3 x4 x5 ≤ 160 ∧ n2 = n + fbn x1 x2 x3 x4 x5 ∧ T2 = wrL T n (fbs x1 x2 x3 x4 x5))) := by
  refine AMi.of2 rfl (nle rfl) ?_
  intro D G A p e s m args below meth c Po hPo X
  have hb1 := byn_in x1
  have hb2 := byn_in x2
  have hb3 := byn_in x3
  have hb4 := byn_in x4
  have hb5 := byn_in x5
  refine S_iload_n X dX11_feed_0 rfl rfl ?_
  refine S_calli X (kX7_bytesIn l x1 ) (is := []) rfl (run_S X lkX11_96 (is := []) (avs := [iv x1]) (rest := []) rfl rfl (nle rfl) ⟨nle rfl, nle rfl⟩ ⟨nle rfl, nle rfl⟩ dX11_feed_1 (by decide) rfl) (fun z_3 u_1 hp_2 => ?_)
  obtain ⟨hz_4, hu_5⟩ := hp_2
  subst hz_4
  subst hu_5
  refine ⟨rfl, ?_⟩
  refine S_w (ws' := [(h0, ob 10 f), (ht, ob 6 (uF ft 1 (iv n))), (hb, ar 160 T)]) rfl ?_
  refine S_iload_n X dX11_feed_4 rfl rfl ?_
  refine S_calli X (kX7_bytesIn l x2 ) (is := []) rfl (run_S X lkX11_96 (is := []) (avs := [iv x2]) (rest := [iv (byn x1)]) rfl rfl (nle rfl) ⟨nle rfl, nle rfl⟩ ⟨nle rfl, nle rfl⟩ dX11_feed_5 (by decide) rfl) (fun z_8 u_6 hp_7 => ?_)
  obtain ⟨hz_9, hu_10⟩ := hp_7
  subst hz_9
  subst hu_10
  refine ⟨rfl, ?_⟩
  refine S_w (ws' := [(h0, ob 10 f), (ht, ob 6 (uF ft 1 (iv n))), (hb, ar 160 T)]) rfl ?_
  refine S_iadd X dX11_feed_8 ?_
  refine S_iload_n X dX11_feed_9 rfl rfl ?_
  refine S_calli X (kX7_bytesIn l x3 ) (is := []) rfl (run_S X lkX11_96 (is := []) (avs := [iv x3]) (rest := [iv ((byn x1) + (byn x2))]) rfl rfl (nle rfl) ⟨nle rfl, nle rfl⟩ ⟨nle rfl, nle rfl⟩ dX11_feed_10 (by decide) rfl) (fun z_13 u_11 hp_12 => ?_)
  obtain ⟨hz_14, hu_15⟩ := hp_12
  subst hz_14
  subst hu_15
  refine ⟨rfl, ?_⟩
  refine S_w (ws' := [(h0, ob 10 f), (ht, ob 6 (uF ft 1 (iv n))), (hb, ar 160 T)]) rfl ?_
  refine S_iadd X dX11_feed_13 ?_
  refine S_iload X dX11_feed_14 rfl ?_
  refine S_calli X (kX7_bytesIn l x4 ) (is := []) rfl (run_S X lkX11_96 (is := []) (avs := [iv x4]) (rest := [iv (((byn x1) + (byn x2)) + (byn x3))]) rfl rfl (nle rfl) ⟨nle rfl, nle rfl⟩ ⟨nle rfl, nle rfl⟩ dX11_feed_16 (by decide) rfl) (fun z_18 u_16 hp_17 => ?_)
  obtain ⟨hz_19, hu_20⟩ := hp_17
  subst hz_19
  subst hu_20
  refine ⟨rfl, ?_⟩
  refine S_w (ws' := [(h0, ob 10 f), (ht, ob 6 (uF ft 1 (iv n))), (hb, ar 160 T)]) rfl ?_
  refine S_iadd X dX11_feed_19 ?_
  refine S_iload X dX11_feed_20 rfl ?_
  refine S_calli X (kX7_bytesIn l x5 ) (is := []) rfl (run_S X lkX11_96 (is := []) (avs := [iv x5]) (rest := [iv ((((byn x1) + (byn x2)) + (byn x3)) + (byn x4))]) rfl rfl (nle rfl) ⟨nle rfl, nle rfl⟩ ⟨nle rfl, nle rfl⟩ dX11_feed_22 (by decide) rfl) (fun z_23 u_21 hp_22 => ?_)
  obtain ⟨hz_24, hu_25⟩ := hp_22
  subst hz_24
  subst hu_25
  refine ⟨rfl, ?_⟩
  refine S_w (ws' := [(h0, ob 10 f), (ht, ob 6 (uF ft 1 (iv n))), (hb, ar 160 T)]) rfl ?_
  refine S_iadd X dX11_feed_25 ?_
  refine S_istore X dX11_feed_26 (nle rfl) ?_
  refine S_aload_n X dX11_feed_28 rfl rfl ?_
  refine S_get X fgX11_10_10 0 rfl hf0 dX11_feed_29 ?_
  refine S_get (v := iv n) X fgX11_100_6 1 rfl rfl dX11_feed_32 ?_
  refine S_iload X dX11_feed_35 rfl ?_
  refine S_iadd X dX11_feed_37 ?_
  refine S_sipush X dX11_feed_38 rfl ?_
  refine S_icmp_le (tgt := 46) X dX11_feed_41 (by decide) (by omega) (by decide) (fun c_26 => ?_) (fun c_26 => ?_)
  ·
    refine S_aload_n X dX11_feed_46 rfl rfl ?_
    refine S_get X fgX11_10_10 0 rfl hf0 dX11_feed_47 ?_
    refine S_iload_n X dX11_feed_50 rfl rfl ?_
    refine S_callv X (kX7_push l ht hb ft T n x1 hf1 (by omega)) (is := [1, 2]) rfl (run_V X lkX11_103 1 rfl rfl (is := [1, 2]) (avs := [iv x1]) (rest := []) rfl rfl (nle rfl) ⟨nle rfl, nle rfl⟩ ⟨nle rfl, nle rfl⟩ dX11_feed_51 (by decide) rfl) (fun u_27 hp_28 => ?_)
    obtain ⟨n2_30, T2_31, hu_33, h2_34, h3_35⟩ := hp_28
    subst hu_33
    refine ⟨rfl, ?_⟩
    refine S_w (ws' := [(h0, ob 10 f), (ht, ob 6 (uF ft 1 (iv n2_30))), (hb, ar 160 T2_31)]) rfl ?_
    refine S_aload_n X dX11_feed_54 rfl rfl ?_
    refine S_get X fgX11_10_10 0 rfl hf0 dX11_feed_55 ?_
    refine S_iload_n X dX11_feed_58 rfl rfl ?_
    refine S_callv X (kX7_push l ht hb ft T2_31 n2_30 x2 hf1 (by omega)) (is := [1, 2]) rfl (run_V X lkX11_103 1 rfl rfl (is := [1, 2]) (avs := [iv x2]) (rest := []) rfl rfl (nle rfl) ⟨nle rfl, nle rfl⟩ ⟨nle rfl, nle rfl⟩ dX11_feed_59 (by decide) rfl) (fun u_36 hp_37 => ?_)
    obtain ⟨n2_39, T2_40, hu_42, h2_43, h3_44⟩ := hp_37
    subst hu_42
    refine ⟨rfl, ?_⟩
    refine S_w (ws' := [(h0, ob 10 f), (ht, ob 6 (uF ft 1 (iv n2_39))), (hb, ar 160 T2_40)]) rfl ?_
    refine S_aload_n X dX11_feed_62 rfl rfl ?_
    refine S_get X fgX11_10_10 0 rfl hf0 dX11_feed_63 ?_
    refine S_iload_n X dX11_feed_66 rfl rfl ?_
    refine S_callv X (kX7_push l ht hb ft T2_40 n2_39 x3 hf1 (by omega)) (is := [1, 2]) rfl (run_V X lkX11_103 1 rfl rfl (is := [1, 2]) (avs := [iv x3]) (rest := []) rfl rfl (nle rfl) ⟨nle rfl, nle rfl⟩ ⟨nle rfl, nle rfl⟩ dX11_feed_67 (by decide) rfl) (fun u_45 hp_46 => ?_)
    obtain ⟨n2_48, T2_49, hu_51, h2_52, h3_53⟩ := hp_46
    subst hu_51
    refine ⟨rfl, ?_⟩
    refine S_w (ws' := [(h0, ob 10 f), (ht, ob 6 (uF ft 1 (iv n2_48))), (hb, ar 160 T2_49)]) rfl ?_
    refine S_aload_n X dX11_feed_70 rfl rfl ?_
    refine S_get X fgX11_10_10 0 rfl hf0 dX11_feed_71 ?_
    refine S_iload X dX11_feed_74 rfl ?_
    refine S_callv X (kX7_push l ht hb ft T2_49 n2_48 x4 hf1 (by omega)) (is := [1, 2]) rfl (run_V X lkX11_103 1 rfl rfl (is := [1, 2]) (avs := [iv x4]) (rest := []) rfl rfl (nle rfl) ⟨nle rfl, nle rfl⟩ ⟨nle rfl, nle rfl⟩ dX11_feed_76 (by decide) rfl) (fun u_54 hp_55 => ?_)
    obtain ⟨n2_57, T2_58, hu_60, h2_61, h3_62⟩ := hp_55
    subst hu_60
    refine ⟨rfl, ?_⟩
    refine S_w (ws' := [(h0, ob 10 f), (ht, ob 6 (uF ft 1 (iv n2_57))), (hb, ar 160 T2_58)]) rfl ?_
    refine S_aload_n X dX11_feed_79 rfl rfl ?_
    refine S_get X fgX11_10_10 0 rfl hf0 dX11_feed_80 ?_
    refine S_iload X dX11_feed_83 rfl ?_
    refine S_callv X (kX7_push l ht hb ft T2_58 n2_57 x5 hf1 (by omega)) (is := [1, 2]) rfl (run_V X lkX11_103 1 rfl rfl (is := [1, 2]) (avs := [iv x5]) (rest := []) rfl rfl (nle rfl) ⟨nle rfl, nle rfl⟩ ⟨nle rfl, nle rfl⟩ dX11_feed_85 (by decide) rfl) (fun u_63 hp_64 => ?_)
    obtain ⟨n2_66, T2_67, hu_69, h2_70, h3_71⟩ := hp_64
    subst hu_69
    refine ⟨rfl, ?_⟩
    refine S_w (ws' := [(h0, ob 10 f), (ht, ob 6 (uF ft 1 (iv n2_66))), (hb, ar 160 T2_67)]) rfl ?_
    refine S_aload_n X dX11_feed_88 rfl rfl ?_
    refine S_get X fgX11_10_10 0 rfl hf0 dX11_feed_89 ?_
    refine S_get (v := iv n2_66) X fgX11_100_6 1 rfl rfl dX11_feed_92 ?_
    exact S_iret X (nle rfl) (nle rfl) dX11_feed_95 (hPo _ _ (Or.inr (⟨_, _, by first | rfl | omega, rfl, by unfold fbn; omega, by unfold fbn; omega, by rw [h3_71, h2_61, h3_62, h2_52, h3_53, h2_43, h3_44, h2_34, h3_35]; unfold fbs; simp only [wrL_app, bys_len, Int.add_assoc]⟩)))
  ·
    refine S_iconst X dX11_feed_44 ?_
    exact S_iret X (nle rfl) (nle rfl) dX11_feed_45 (hPo _ _ (Or.inl (⟨by first | rfl | omega, rfl, by unfold fbn; omega⟩)))
set_option maxHeartbeats 4000000 in
set_option maxRecDepth 100000 in
theorem kX11_end (l : Launch) (h0 : Nat) (ht : Nat) (f : Nat → AV) (ft : Nat → AV) (n : Int) (m0 : Int) (hf0 : f 0 = rv ht) (hn : 0 ≤ n ∧ n ≤ 160) (hm : inR m0) : AMi l yX11_end cX11_end 2 .boolean 0 0 0 [rv h0, iv m0] [(h0, ob 10 f), (ht, ob 6 (uF ft 1 (iv n)))] (fun z u => (z = 0 ∧ u = [(h0, ob 10 f), (ht, ob 6 (uF ft 1 (iv n)))] ∧ (¬ (0 ≤ m0 ∧ m0 ≤ n))) ∨ (z = 1 ∧ u = [(h0, ob 10 f), (ht, ob 6 (uF ft 1 (iv m0)))] ∧ (0 ≤ m0 ∧ m0 ≤ n))) := by
  refine AMi.of2 rfl (nle rfl) ?_
  intro D G A p e s m args below meth c Po hPo X
  refine S_iload_n X dX11_end_0 rfl rfl ?_
  refine S_if_lt (tgt := 15) X dX11_end_1 (by decide) (by omega) (fun c_1 => ?_) (fun c_1 => ?_)
  ·
    refine S_iconst X dX11_end_15 ?_
    exact S_zret X (Or.inl rfl) (nle rfl) (nle rfl) dX11_end_16 (hPo _ _ (Or.inl (⟨by first | rfl | omega, rfl, by first | rfl | assumption | omega⟩)))
  ·
    refine S_iload_n X dX11_end_4 rfl rfl ?_
    refine S_aload_n X dX11_end_5 rfl rfl ?_
    refine S_get X fgX11_10_10 0 rfl hf0 dX11_end_6 ?_
    refine S_get (v := iv n) X fgX11_100_6 1 rfl rfl dX11_end_9 ?_
    refine S_icmp_le (tgt := 17) X dX11_end_12 (by decide) (by omega) (by omega) (fun c_2 => ?_) (fun c_2 => ?_)
    ·
      refine S_aload_n X dX11_end_17 rfl rfl ?_
      refine S_get X fgX11_10_10 0 rfl hf0 dX11_end_18 ?_
      refine S_iload_n X dX11_end_21 rfl rfl ?_
      refine S_put X fpX11_100_6 1 rfl FT_i dX11_end_22 ?_
      refine S_w (ws' := [(h0, ob 10 f), (ht, ob 6 (uF ft 1 (iv m0)))]) (by simp only [List.set]; rw [uF_same (k := 1)]) ?_
      refine S_iconst X dX11_end_25 ?_
      exact S_zret X (Or.inr rfl) (nle rfl) (nle rfl) dX11_end_26 (hPo _ _ (Or.inr (⟨by first | rfl | omega, rfl, by first | rfl | assumption | omega⟩)))
    ·
      refine S_iconst X dX11_end_15 ?_
      exact S_zret X (Or.inl rfl) (nle rfl) (nle rfl) dX11_end_16 (hPo _ _ (Or.inl (⟨by first | rfl | omega, rfl, by first | rfl | assumption | omega⟩)))
