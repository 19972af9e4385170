theorem in_step {g : Int → Int} {q pl be le be2 le2 v : Int} (hq : 0 ≤ q ∧ q ≤ 5) (h : (q = 0 ∧ be = 0 ∧ le = 1000000000) ∨ (1 ≤ q ∧ be = amI (fun p => -apI g pl p) q ∧ le = apI g pl be ∧ 0 ≤ le ∧ le ≤ 44820 ∧ 0 ≤ be ∧ be ≤ 6)) (hcr : 0 ≤ apI g pl q ∧ apI g pl q ≤ 7470 * pl) (hv : v = apI g pl q) (hp : pl ≤ 6)
    (h2 : be2 = q ∧ le2 = v ∧ v < le ∨ be2 = be ∧ le2 = le ∧ le ≤ v) : (q + 1 = 0 ∧ be2 = 0 ∧ le2 = 1000000000) ∨ (1 ≤ q + 1 ∧ be2 = amI (fun p => -apI g pl p) (q + 1) ∧ le2 = apI g pl be2 ∧ 0 ≤ le2 ∧ le2 ≤ 44820 ∧ 0 ≤ be2 ∧ be2 ≤ 6) := by
  refine Or.inr ⟨by omega, ?_⟩
  rcases h with ⟨a1, a2, a3⟩ | ⟨a1, a2, a3, a4, a5, a6, a7⟩
  · rcases h2 with ⟨b1, b2, b3⟩ | ⟨b1, b2, b3⟩
    · refine ⟨?_, by rw [b2, b1, hv], by omega, by omega, by omega, by omega⟩
      rw [b1, a1]
      exact amI_1.symm
    · omega
  · rw [amI_S hq.1, ← a2, ← a3, ← hv]
    rcases h2 with ⟨b1, b2, b3⟩ | ⟨b1, b2, b3⟩
    · rw [if_pos (by omega), b2, b1]
      exact ⟨rfl, hv, by omega, by omega, by omega, by omega⟩
    · rw [if_neg (by omega), b1, b2]
      exact ⟨rfl, a3, by omega, by omega, by omega, by omega⟩
theorem pf_o1 {A : Int → Int} {ec pl : Int} {Fo Ho B : Int → Int} (h : ∀ x, 0 ≤ x → x < 6 → A x = B x) (hp : pl ≤ 6 := by omega) : reg A (bF ec Fo Ho B) pl 1 0 := (pf_o h hp).lo (by omega)
set_option maxHeartbeats 4000000 in
set_option maxRecDepth 100000 in
theorem kX4_beatIn (l : Launch) (fP : Nat → AV) (oP : Nat) (aA : Nat) (Ab : Int → Int) (q : Int) (b : Int) (hf0 : fP 0 = rv aA) (hq : 0 ≤ q ∧ q ≤ 5 ∧ 0 ≤ b ∧ b ≤ 200) : AMi l yX4_beatIn cX4_beatIn 3 .int 0 0 0 [rv oP, iv q, iv b] [(oP, ob 4 fP), (aA, ar 1206 Ab)] (fun z u => z = Ab (b * 6 + q) ∧ u = [(oP, ob 4 fP), (aA, ar 1206 Ab)]) := by
  refine AMi.of2 rfl (nle rfl) ?_
  intro D G A p e s m args below meth c Po hPo X
  refine S_aload_n X dX4_beatIn_0 rfl rfl ?_
  refine S_get X fgX4_11_4 0 rfl hf0 dX4_beatIn_1 ?_
  refine S_iload_n X dX4_beatIn_4 rfl rfl ?_
  refine S_bipush X dX4_beatIn_5 rfl ?_
  refine S_imul X dX4_beatIn_7 ?_
  refine S_iload_n X dX4_beatIn_8 rfl rfl ?_
  refine S_iadd X dX4_beatIn_9 ?_
  refine S_iald X 1 rfl (by omega) (by omega) (nle rfl) dX4_beatIn_10 ?_
  exact S_iret X (nle rfl) (nle rfl) dX4_beatIn_11 (hPo _ _ (⟨by first | rfl | omega, rfl⟩))
set_option maxHeartbeats 4000000 in
set_option maxRecDepth 100000 in
theorem kX4_aheadOfWaiting (l : Launch) (fP : Nat → AV) (oP : Nat) (aT : Nat) (Tm : Int → Int) (q : Int) (b : Int) (hf0 : fP 1 = rv aT) (hq : 0 ≤ q ∧ q ≤ 5 ∧ 0 ≤ b ∧ b ≤ 29) : AMi l yX4_aheadOfWaiting cX4_aheadOfWaiting 3 .int 0 0 0 [rv oP, iv q, iv b] [(oP, ob 4 fP), (aT, ar 180 Tm)] (fun z u => z = Tm (b * 6 + q) ∧ u = [(oP, ob 4 fP), (aT, ar 180 Tm)]) := by
  refine AMi.of2 rfl (nle rfl) ?_
  intro D G A p e s m args below meth c Po hPo X
  refine S_aload_n X dX4_aheadOfWaiting_0 rfl rfl ?_
  refine S_get X fgX4_15_4 0 rfl hf0 dX4_aheadOfWaiting_1 ?_
  refine S_iload_n X dX4_aheadOfWaiting_4 rfl rfl ?_
  refine S_bipush X dX4_aheadOfWaiting_5 rfl ?_
  refine S_imul X dX4_aheadOfWaiting_7 ?_
  refine S_iload_n X dX4_aheadOfWaiting_8 rfl rfl ?_
  refine S_iadd X dX4_aheadOfWaiting_9 ?_
  refine S_iald X 1 rfl (by omega) (by omega) (nle rfl) dX4_aheadOfWaiting_10 ?_
  exact S_iret X (nle rfl) (nle rfl) dX4_aheadOfWaiting_11 (hPo _ _ (⟨by first | rfl | omega, rfl⟩))
set_option maxHeartbeats 4000000 in
set_option maxRecDepth 100000 in
theorem kX4_lastIn (l : Launch) (fP : Nat → AV) (pl : Int) (n : Int) (ec : Int) (mk : Int) (oP : Nat) (aT : Nat) (Tm : Int → Int) (B : Int → Int) (Fo : Int → Int) (Ho : Int → Int) (Lt : Int → Int) (b : Int) (hf0 : fP 1 = rv aT) (hf1 : fP 6 = iv pl) (hok : okS pl n ec Fo Ho B Lt) (hT : reg Tm (tS pl ec mk Fo Ho B Lt) pl n 0) (hb : 0 ≤ b ∧ b < n) : AMi l yX4_lastIn cX4_lastIn 4 .int 1 0 0 [rv oP, iv b] [(oP, ob 4 fP), (aT, ar 180 Tm)] (fun z u => z = amI ((tS pl ec mk Fo Ho B Lt) b) pl ∧ u = [(oP, ob 4 fP), (aT, ar 180 Tm)]) := by
  refine AMi.of2 rfl (nle rfl) ?_
  intro D G A p e s m args below meth c Po hPo X
  have hpl := hok.2.1
  have hpl1 := hok.1
  have hn1 := hok.2.2.1
  have hn2 := hok.2.2.2.1
  have hec := hok.2.2.2.2
  refine S_iconst X dX4_lastIn_0 ?_
  refine S_istore_n X dX4_lastIn_1 rfl (nle rfl) ?_
  refine S_iconst X dX4_lastIn_2 ?_
  refine S_istore_n X dX4_lastIn_3 rfl (nle rfl) ?_
  have lp4_0 : ∀ (N : Nat) (i : Int) (k : Int) (L : Nat → Option AV), 1 ≤ i ∧ i ≤ pl → k = amI ((tS pl ec mk Fo Ho B Lt) b) i → L 0 = some (rv oP) → L 1 = some (iv b) → L 2 = some (iv k) → L 3 = some (iv i) → pl + 1 - i < (N : Int) → S_ p l e (rmD 1 0 0) s m args below meth c (MQ below (QcI D G A Po) args s 0 0 A) D G A 4 0 0 4 L [] [(oP, ob 4 fP), (aT, ar 180 Tm)] := by
    intro N
    induction N with
    | zero =>
      intro i k L4 hi hk hL4_0 hL4_1 hL4_2 hL4_3 hN4
      exfalso; omega
    | succ N ih4 =>
      intro i k L4 hi hk hL4_0 hL4_1 hL4_2 hL4_3 hN4
      refine S_iload_n X dX4_lastIn_4 rfl hL4_3 ?_
      refine S_aload_n X dX4_lastIn_5 rfl hL4_0 ?_
      refine S_get X fgX4_51_4 0 rfl hf1 dX4_lastIn_6 ?_
      refine S_icmp_ge (tgt := 35) X dX4_lastIn_9 (by decide) (by omega) (by omega) (fun c_1 => ?_) (fun c_1 => ?_)
      ·
        refine S_iload_n X dX4_lastIn_35 rfl hL4_2 ?_
        exact S_iret X (nle rfl) (nle rfl) dX4_lastIn_36 (hPo _ _ (⟨by rw [hk, show i = pl by omega], rfl⟩))
      ·
        have hk2 := amI_lt (g := ((tS pl ec mk Fo Ho B Lt) b)) (p := i) (by omega)
        have h1 := hT.at (z := b * 6 + i) (x := b) (y := i) (by omega) (by omega) (by omega) (by omega) (by omega)
        have h2 := hT.at (z := b * 6 + k) (x := b) (y := k) (by omega) (by omega) (by omega) (by omega) (by omega)
        have h3 := hok.time (mk := mk) b i (by omega) (by omega) (by omega)
        have h4 := hok.time (mk := mk) b k (by omega) (by omega) (by omega)
        refine S_aload_n X dX4_lastIn_12 rfl hL4_0 ?_
        refine S_iload_n X dX4_lastIn_13 rfl hL4_3 ?_
        refine S_iload_n X dX4_lastIn_14 rfl hL4_1 ?_
        refine S_calli X (kX4_aheadOfWaiting l fP oP aT Tm i b hf0 (by omega)) (is := [0, 1]) rfl (run_V X lkX4_89 0 rfl rfl (is := [0, 1]) (avs := [iv i, iv b]) (rest := []) rfl rfl (nle rfl) ⟨nle rfl, nle rfl⟩ ⟨nle rfl, nle rfl⟩ dX4_lastIn_15 (by decide) rfl) (fun z_4 u_2 hp_3 => ?_)
        obtain ⟨hz_5, hu_6⟩ := hp_3
        subst hz_5
        subst hu_6
        refine ⟨rfl, ?_⟩
        refine S_w (ws' := [(oP, ob 4 fP), (aT, ar 180 Tm)]) rfl ?_
        refine S_aload_n X dX4_lastIn_18 rfl hL4_0 ?_
        refine S_iload_n X dX4_lastIn_19 rfl hL4_2 ?_
        refine S_iload_n X dX4_lastIn_20 rfl hL4_1 ?_
        refine S_calli X (kX4_aheadOfWaiting l fP oP aT Tm k b hf0 (by omega)) (is := [0, 1]) rfl (run_V X lkX4_89 0 rfl rfl (is := [0, 1]) (avs := [iv k, iv b]) (rest := [iv (Tm (b * 6 + i))]) rfl rfl (nle rfl) ⟨nle rfl, nle rfl⟩ ⟨nle rfl, nle rfl⟩ dX4_lastIn_21 (by decide) rfl) (fun z_9 u_7 hp_8 => ?_)
        obtain ⟨hz_10, hu_11⟩ := hp_8
        subst hz_10
        subst hu_11
        refine ⟨rfl, ?_⟩
        refine S_w (ws' := [(oP, ob 4 fP), (aT, ar 180 Tm)]) rfl ?_
        refine S_icmp_le (tgt := 29) X dX4_lastIn_24 (by decide) (by omega) (by omega) (fun c_12 => ?_) (fun c_12 => ?_)
        ·
          refine S_iinc X dX4_lastIn_29 (nle rfl) hL4_3 ?_
          refine S_goto (tgt := 4) X dX4_lastIn_32 (by decide) ?_
          exact ih4 (i + 1) k _ (by omega) (by rw [amI_S (by omega), ← hk, if_neg (by omega)]) hL4_0 hL4_1 hL4_2 rfl (by omega)
        ·
          refine S_iload_n X dX4_lastIn_27 rfl hL4_3 ?_
          refine S_istore_n X dX4_lastIn_28 rfl (nle rfl) ?_
          refine S_iinc X dX4_lastIn_29 (nle rfl) hL4_3 ?_
          refine S_goto (tgt := 4) X dX4_lastIn_32 (by decide) ?_
          exact ih4 (i + 1) i _ (by omega) (by rw [amI_S (by omega), ← hk, if_pos (by omega)]) hL4_0 hL4_1 rfl rfl (by omega)
  exact lp4_0 (Int.toNat (pl + 1 - 1) + 1) 1 0 _ (by omega) (amI_1.symm) rfl rfl rfl rfl (by omega)
set_option maxHeartbeats 4000000 in
set_option maxRecDepth 100000 in
theorem kX4_greatestIn (l : Launch) (fP : Nat → AV) (pl : Int) (n : Int) (ec : Int) (mk : Int) (oP : Nat) (aT : Nat) (Tm : Int → Int) (B : Int → Int) (Fo : Int → Int) (Ho : Int → Int) (Lt : Int → Int) (b : Int) (hf0 : fP 1 = rv aT) (hf1 : fP 6 = iv pl) (hok : okS pl n ec Fo Ho B Lt) (hT : reg Tm (tS pl ec mk Fo Ho B Lt) pl n 0) (hb : 0 ≤ b ∧ b < n) : AMi l yX4_greatestIn cX4_greatestIn 2 .int 2 0 0 [rv oP, iv b] [(oP, ob 4 fP), (aT, ar 180 Tm)] (fun z u => z = mxI ((tS pl ec mk Fo Ho B Lt) b) pl ∧ u = [(oP, ob 4 fP), (aT, ar 180 Tm)]) := by
  refine AMi.of2 rfl (nle rfl) ?_
  intro D G A p e s m args below meth c Po hPo X
  have hpl := hok.2.1
  have hpl1 := hok.1
  have hn1 := hok.2.2.1
  have hn2 := hok.2.2.2.1
  have hec := hok.2.2.2.2
  have hal := amI_lt (g := ((tS pl ec mk Fo Ho B Lt) b)) (p := pl) (by omega)
  have hl8 := hT.at (z := b * 6 + amI ((tS pl ec mk Fo Ho B Lt) b) pl) (x := b) (y := amI ((tS pl ec mk Fo Ho B Lt) b) pl) (by omega) (by omega) (by omega) (by omega) (by omega)
  have hl7 : ((tS pl ec mk Fo Ho B Lt) b) (amI ((tS pl ec mk Fo Ho B Lt) b) pl) = mxI ((tS pl ec mk Fo Ho B Lt) b) pl := mxI_am (by omega) (fun y y0 y1 => by have := hok.time (mk := mk) b y (by omega) y0 y1; omega)
  refine S_aload_n X dX4_greatestIn_0 rfl rfl ?_
  refine S_aload_n X dX4_greatestIn_1 rfl rfl ?_
  refine S_iload_n X dX4_greatestIn_2 rfl rfl ?_
  refine S_calli X (kX4_lastIn l fP pl n ec mk oP aT Tm B Fo Ho Lt b hf0 hf1 (by omega) (by omega) (by omega)) (is := [0, 1]) rfl (run_V X lkX4_92 0 rfl rfl (is := [0, 1]) (avs := [iv b]) (rest := [rv oP]) rfl rfl (nle rfl) ⟨nle rfl, nle rfl⟩ ⟨nle rfl, nle rfl⟩ dX4_greatestIn_3 (by decide) rfl) (fun z_3 u_1 hp_2 => ?_)
  obtain ⟨hz_4, hu_5⟩ := hp_2
  subst hz_4
  subst hu_5
  refine ⟨rfl, ?_⟩
  refine S_w (ws' := [(oP, ob 4 fP), (aT, ar 180 Tm)]) rfl ?_
  refine S_iload_n X dX4_greatestIn_6 rfl rfl ?_
  refine S_calli X (kX4_aheadOfWaiting l fP oP aT Tm (amI ((tS pl ec mk Fo Ho B Lt) b) pl) b hf0 (by omega)) (is := [0, 1]) rfl (run_V X lkX4_89 0 rfl rfl (is := [0, 1]) (avs := [iv (amI ((tS pl ec mk Fo Ho B Lt) b) pl), iv b]) (rest := []) rfl rfl (nle rfl) ⟨nle rfl, nle rfl⟩ ⟨nle rfl, nle rfl⟩ dX4_greatestIn_7 (by decide) rfl) (fun z_8 u_6 hp_7 => ?_)
  obtain ⟨hz_9, hu_10⟩ := hp_7
  subst hz_9
  subst hu_10
  refine ⟨rfl, ?_⟩
  refine S_w (ws' := [(oP, ob 4 fP), (aT, ar 180 Tm)]) rfl ?_
  exact S_iret X (nle rfl) (nle rfl) dX4_greatestIn_10 (hPo _ _ (⟨by rw [hl8, hl7], rfl⟩))
set_option maxHeartbeats 4000000 in
set_option maxRecDepth 100000 in
theorem kX4_behindWaiting (l : Launch) (fP : Nat → AV) (pl : Int) (n : Int) (ec : Int) (mk : Int) (oP : Nat) (aT : Nat) (Tm : Int → Int) (B : Int → Int) (Fo : Int → Int) (Ho : Int → Int) (Lt : Int → Int) (q : Int) (b : Int) (hf0 : fP 1 = rv aT) (hf1 : fP 6 = iv pl) (hf2 : fP 8 = iv mk) (hok : okS pl n ec Fo Ho B Lt) (hT : reg Tm (tS pl ec mk Fo Ho B Lt) pl n 0) (hb : 0 ≤ b ∧ b < n) (hq : 0 ≤ q ∧ q < pl) : AMi l yX4_behindWaiting cX4_behindWaiting 3 .int 3 0 0 [rv oP, iv q, iv b] [(oP, ob 4 fP), (aT, ar 180 Tm)] (fun z u => z = (wS pl ec mk Fo Ho B Lt) b q ∧ u = [(oP, ob 4 fP), (aT, ar 180 Tm)]) := by
  refine AMi.of2 rfl (nle rfl) ?_
  intro D G A p e s m args below meth c Po hPo X
  have hpl := hok.2.1
  have hpl1 := hok.1
  have hn1 := hok.2.2.1
  have hn2 := hok.2.2.2.1
  have hec := hok.2.2.2.2
  refine S_aload_n X dX4_behindWaiting_0 rfl rfl ?_
  refine S_get X fgX4_56_4 0 rfl hf2 dX4_behindWaiting_1 ?_
  refine S_iload_n X dX4_behindWaiting_4 rfl rfl ?_
  refine S_ishr X dX4_behindWaiting_5 ?_
  refine S_iconst X dX4_behindWaiting_6 ?_
  refine S_iand X dX4_behindWaiting_7 ?_
  have hr := zAnd_r (zShr mk b) 1
  have hz := zAnd1 (zShr mk b)
  refine S_if_eq (tgt := 19) X dX4_behindWaiting_8 (by decide) (by omega) (fun c_1 => ?_) (fun c_1 => ?_)
  ·
    refine S_aload_n X dX4_behindWaiting_19 rfl rfl ?_
    refine S_iload_n X dX4_behindWaiting_20 rfl rfl ?_
    refine S_iload_n X dX4_behindWaiting_21 rfl rfl ?_
    refine S_calli X (kX4_aheadOfWaiting l fP oP aT Tm q b hf0 (by omega)) (is := [0, 1]) rfl (run_V X lkX4_89 0 rfl rfl (is := [0, 1]) (avs := [iv q, iv b]) (rest := []) rfl rfl (nle rfl) ⟨nle rfl, nle rfl⟩ ⟨nle rfl, nle rfl⟩ dX4_behindWaiting_22 (by decide) rfl) (fun z_4 u_2 hp_3 => ?_)
    obtain ⟨hz_5, hu_6⟩ := hp_3
    subst hz_5
    subst hu_6
    refine ⟨rfl, ?_⟩
    refine S_w (ws' := [(oP, ob 4 fP), (aT, ar 180 Tm)]) rfl ?_
    exact S_iret X (nle rfl) (nle rfl) dX4_behindWaiting_25 (hPo _ _ (⟨(hT.at (by omega) (by omega) (by omega) (by omega) (by omega)).trans (wF_0 (zMk_0 (by omega))).symm, rfl⟩))
  ·
    refine S_aload_n X dX4_behindWaiting_11 rfl rfl ?_
    refine S_iload_n X dX4_behindWaiting_12 rfl rfl ?_
    refine S_calli X (kX4_greatestIn l fP pl n ec mk oP aT Tm B Fo Ho Lt b hf0 hf1 (by omega) (by omega) (by omega)) (is := [0, 1]) rfl (run_V X lkX4_85 0 rfl rfl (is := [0, 1]) (avs := [iv b]) (rest := []) rfl rfl (nle rfl) ⟨nle rfl, nle rfl⟩ ⟨nle rfl, nle rfl⟩ dX4_behindWaiting_13 (by decide) rfl) (fun z_9 u_7 hp_8 => ?_)
    obtain ⟨hz_10, hu_11⟩ := hp_8
    subst hz_10
    subst hu_11
    refine ⟨rfl, ?_⟩
    refine S_w (ws' := [(oP, ob 4 fP), (aT, ar 180 Tm)]) rfl ?_
    refine S_goto (tgt := 25) X dX4_behindWaiting_16 (by decide) ?_
    exact S_iret X (nle rfl) (nle rfl) dX4_behindWaiting_25 (hPo _ _ (⟨(wF_1 (zMk_1 (by omega))).symm, rfl⟩))
set_option maxHeartbeats 4000000 in
set_option maxRecDepth 100000 in
theorem kX4_isAloneLast (l : Launch) (fP : Nat → AV) (pl : Int) (n : Int) (ec : Int) (mk : Int) (oP : Nat) (aT : Nat) (Tm : Int → Int) (B : Int → Int) (Fo : Int → Int) (Ho : Int → Int) (Lt : Int → Int) (q : Int) (b : Int) (hf0 : fP 1 = rv aT) (hf1 : fP 6 = iv pl) (hok : okS pl n ec Fo Ho B Lt) (hT : reg Tm (tS pl ec mk Fo Ho B Lt) pl n 0) (hb : 0 ≤ b ∧ b < n) (hq : 0 ≤ q ∧ q < pl) : AMi l yX4_isAloneLast cX4_isAloneLast 4 .boolean 1 0 0 [rv oP, iv q, iv b] [(oP, ob 4 fP), (aT, ar 180 Tm)] (fun z u => (z = 0 ∧ u = [(oP, ob 4 fP), (aT, ar 180 Tm)] ∧ (¬ (∀ o, 0 ≤ o → o < pl → o ≠ q → ((tS pl ec mk Fo Ho B Lt) b) o < ((tS pl ec mk Fo Ho B Lt) b) q))) ∨ (z = 1 ∧ u = [(oP, ob 4 fP), (aT, ar 180 Tm)] ∧ (∀ o, 0 ≤ o → o < pl → o ≠ q → ((tS pl ec mk Fo Ho B Lt) b) o < ((tS pl ec mk Fo Ho B Lt) b) q))) := by
  refine AMi.of2 rfl (nle rfl) ?_
  intro D G A p e s m args below meth c Po hPo X
  have hpl := hok.2.1
  have hpl1 := hok.1
  have hn1 := hok.2.2.1
  have hn2 := hok.2.2.2.1
  have hec := hok.2.2.2.2
  have h2 := hT.at (z := b * 6 + q) (x := b) (y := q) (by omega) (by omega) (by omega) (by omega) (by omega)
  have h4 := hok.time (mk := mk) b q (by omega) (by omega) (by omega)
  refine S_iconst X dX4_isAloneLast_0 ?_
  refine S_istore_n X dX4_isAloneLast_1 rfl (nle rfl) ?_
  have lp2_0 : ∀ (N : Nat) (o : Int) (L : Nat → Option AV), 0 ≤ o ∧ o ≤ pl → (∀ y, 0 ≤ y → y < o → y ≠ q → ((tS pl ec mk Fo Ho B Lt) b) y < ((tS pl ec mk Fo Ho B Lt) b) q) → L 0 = some (rv oP) → L 1 = some (iv q) → L 2 = some (iv b) → L 3 = some (iv o) → pl + 1 - o < (N : Int) → S_ p l e (rmD 1 0 0) s m args below meth c (MQ below (QcI D G A Po) args s 0 0 A) D G A 4 0 0 2 L [] [(oP, ob 4 fP), (aT, ar 180 Tm)] := by
    intro N
    induction N with
    | zero =>
      intro o L2 ho hal hL2_0 hL2_1 hL2_2 hL2_3 hN2
      exfalso; omega
    | succ N ih2 =>
      intro o L2 ho hal hL2_0 hL2_1 hL2_2 hL2_3 hN2
      refine S_iload_n X dX4_isAloneLast_2 rfl hL2_3 ?_
      refine S_aload_n X dX4_isAloneLast_3 rfl hL2_0 ?_
      refine S_get X fgX4_51_4 0 rfl hf1 dX4_isAloneLast_4 ?_
      refine S_icmp_ge (tgt := 38) X dX4_isAloneLast_7 (by decide) (by omega) (by omega) (fun c_1 => ?_) (fun c_1 => ?_)
      ·
        refine S_iconst X dX4_isAloneLast_38 ?_
        exact S_zret X (Or.inr rfl) (nle rfl) (nle rfl) dX4_isAloneLast_39 (hPo _ _ (Or.inr ⟨rfl, rfl, fun y h0 h1 hne => hal y h0 (by omega) hne⟩))
      ·
        refine S_iload_n X dX4_isAloneLast_10 rfl hL2_3 ?_
        refine S_iload_n X dX4_isAloneLast_11 rfl hL2_1 ?_
        refine S_icmp_eq (tgt := 32) X dX4_isAloneLast_12 (by decide) (by omega) (by omega) (fun c_2 => ?_) (fun c_2 => ?_)
        ·
          refine S_iinc X dX4_isAloneLast_32 (nle rfl) hL2_3 ?_
          refine S_goto (tgt := 2) X dX4_isAloneLast_35 (by decide) ?_
          exact ih2 (o + 1) _ (by omega) (fun y h0 h1 hne => (by omega : y < o ∨ y = o).elim (fun q9 => hal y h0 q9 hne) (fun q9 => by subst q9; first | exact absurd (by assumption) hne | omega)) hL2_0 hL2_1 hL2_2 rfl (by omega)
        ·
          have h1 := hT.at (z := b * 6 + o) (x := b) (y := o) (by omega) (by omega) (by omega) (by omega) (by omega)
          have h3 := hok.time (mk := mk) b o (by omega) (by omega) (by omega)
          refine S_aload_n X dX4_isAloneLast_15 rfl hL2_0 ?_
          refine S_iload_n X dX4_isAloneLast_16 rfl hL2_3 ?_
          refine S_iload_n X dX4_isAloneLast_17 rfl hL2_2 ?_
          refine S_calli X (kX4_aheadOfWaiting l fP oP aT Tm o b hf0 (by omega)) (is := [0, 1]) rfl (run_V X lkX4_89 0 rfl rfl (is := [0, 1]) (avs := [iv o, iv b]) (rest := []) rfl rfl (nle rfl) ⟨nle rfl, nle rfl⟩ ⟨nle rfl, nle rfl⟩ dX4_isAloneLast_18 (by decide) rfl) (fun z_5 u_3 hp_4 => ?_)
          obtain ⟨hz_6, hu_7⟩ := hp_4
          subst hz_6
          subst hu_7
          refine ⟨rfl, ?_⟩
          refine S_w (ws' := [(oP, ob 4 fP), (aT, ar 180 Tm)]) rfl ?_
          refine S_aload_n X dX4_isAloneLast_21 rfl hL2_0 ?_
          refine S_iload_n X dX4_isAloneLast_22 rfl hL2_1 ?_
          refine S_iload_n X dX4_isAloneLast_23 rfl hL2_2 ?_
          refine S_calli X (kX4_aheadOfWaiting l fP oP aT Tm q b hf0 (by omega)) (is := [0, 1]) rfl (run_V X lkX4_89 0 rfl rfl (is := [0, 1]) (avs := [iv q, iv b]) (rest := [iv (Tm (b * 6 + o))]) rfl rfl (nle rfl) ⟨nle rfl, nle rfl⟩ ⟨nle rfl, nle rfl⟩ dX4_isAloneLast_24 (by decide) rfl) (fun z_10 u_8 hp_9 => ?_)
          obtain ⟨hz_11, hu_12⟩ := hp_9
          subst hz_11
          subst hu_12
          refine ⟨rfl, ?_⟩
          refine S_w (ws' := [(oP, ob 4 fP), (aT, ar 180 Tm)]) rfl ?_
          refine S_icmp_lt (tgt := 32) X dX4_isAloneLast_27 (by decide) (by omega) (by omega) (fun c_13 => ?_) (fun c_13 => ?_)
          ·
            refine S_iinc X dX4_isAloneLast_32 (nle rfl) hL2_3 ?_
            refine S_goto (tgt := 2) X dX4_isAloneLast_35 (by decide) ?_
            exact ih2 (o + 1) _ (by omega) (fun y h0 h1 hne => (by omega : y < o ∨ y = o).elim (fun q9 => hal y h0 q9 hne) (fun q9 => by subst q9; first | exact absurd (by assumption) hne | omega)) hL2_0 hL2_1 hL2_2 rfl (by omega)
          ·
            refine S_iconst X dX4_isAloneLast_30 ?_
            exact S_zret X (Or.inl rfl) (nle rfl) (nle rfl) dX4_isAloneLast_31 (hPo _ _ (Or.inl ⟨rfl, rfl, fun h9 => by have := h9 o (by omega) (by omega) (by omega); omega⟩))
  exact lp2_0 (Int.toNat (pl + 1 - 0) + 1) 0 _ (by omega) (fun y h0 h1 => by omega) rfl rfl rfl rfl (by omega)
set_option maxHeartbeats 4000000 in
set_option maxRecDepth 100000 in
theorem kX4_firstSpreadAbove (l : Launch) (fP : Nat → AV) (n : Int) (oP : Nat) (aS : Nat) (Sp : Int → Int) (v : Int) (g9 : Int → Int) (hf0 : fP 3 = rv aS) (hf1 : fP 7 = iv n) (hn : 1 ≤ n ∧ n ≤ 30) (hg : ∀ x, 0 ≤ x → x < n → Sp x = g9 x ∧ 0 ≤ g9 x ∧ g9 x ≤ 7470) (hv : -1 ≤ v ∧ v ≤ 7470) : AMi l yX4_firstSpreadAbove cX4_firstSpreadAbove 3 .int 0 0 0 [rv oP, iv v] [(oP, ob 4 fP), (aS, ar 30 Sp)] (fun z u => z = fsI g9 v n ∧ u = [(oP, ob 4 fP), (aS, ar 30 Sp)]) := by
  refine AMi.of2 rfl (nle rfl) ?_
  intro D G A p e s m args below meth c Po hPo X
  refine S_iconst X dX4_firstSpreadAbove_0 ?_
  refine S_istore_n X dX4_firstSpreadAbove_1 rfl (nle rfl) ?_
  have lp2_0 : ∀ (N : Nat) (b : Int) (L : Nat → Option AV), 0 ≤ b ∧ b ≤ n → fsI g9 v b = -1 → L 0 = some (rv oP) → L 1 = some (iv v) → L 2 = some (iv b) → n + 1 - b < (N : Int) → S_ p l e (rmD 0 0 0) s m args below meth c (MQ below (QcI D G A Po) args s 0 0 A) D G A 3 0 0 2 L [] [(oP, ob 4 fP), (aS, ar 30 Sp)] := by
    intro N
    induction N with
    | zero =>
      intro b L2 hb hfs hL2_0 hL2_1 hL2_2 hN2
      exfalso; omega
    | succ N ih2 =>
      intro b L2 hb hfs hL2_0 hL2_1 hL2_2 hN2
      refine S_iload_n X dX4_firstSpreadAbove_2 rfl hL2_2 ?_
      refine S_aload_n X dX4_firstSpreadAbove_3 rfl hL2_0 ?_
      refine S_get X fgX4_28_4 0 rfl hf1 dX4_firstSpreadAbove_4 ?_
      refine S_icmp_ge (tgt := 34) X dX4_firstSpreadAbove_7 (by decide) (by omega) (by omega) (fun c_1 => ?_) (fun c_1 => ?_)
      ·
        refine S_iconst X dX4_firstSpreadAbove_34 ?_
        exact S_iret X (nle rfl) (nle rfl) dX4_firstSpreadAbove_35 (hPo _ _ (⟨by have h9 := hfs; rw [show b = n by omega] at h9; exact h9.symm, rfl⟩))
      ·
        refine S_iload_n X dX4_firstSpreadAbove_10 rfl hL2_2 ?_
        refine S_bipush X dX4_firstSpreadAbove_11 rfl ?_
        refine S_icmp_ge (tgt := 34) X dX4_firstSpreadAbove_13 (by decide) (by omega) (by decide) (fun c_2 => by exfalso; omega) (fun c_2 => ?_)
        have hgb := hg b (by omega) (by omega)
        refine S_aload_n X dX4_firstSpreadAbove_16 rfl hL2_0 ?_
        refine S_get X fgX4_21_4 0 rfl hf0 dX4_firstSpreadAbove_17 ?_
        refine S_iload_n X dX4_firstSpreadAbove_20 rfl hL2_2 ?_
        refine S_iald X 1 rfl (by omega) (by omega) (nle rfl) dX4_firstSpreadAbove_21 ?_
        refine S_iload_n X dX4_firstSpreadAbove_22 rfl hL2_1 ?_
        refine S_icmp_le (tgt := 28) X dX4_firstSpreadAbove_23 (by decide) (by omega) (by omega) (fun c_3 => ?_) (fun c_3 => ?_)
        ·
          refine S_iinc X dX4_firstSpreadAbove_28 (nle rfl) hL2_2 ?_
          refine S_goto (tgt := 2) X dX4_firstSpreadAbove_31 (by decide) ?_
          exact ih2 (b + 1) _ (by omega) (fsI_skip (by omega) hfs (by omega)) hL2_0 hL2_1 rfl (by omega)
        ·
          refine S_iload_n X dX4_firstSpreadAbove_26 rfl hL2_2 ?_
          exact S_iret X (nle rfl) (nle rfl) dX4_firstSpreadAbove_27 (hPo _ _ (⟨(fsI_hit (by omega) hfs (by omega) n (by omega) (by omega)).symm, rfl⟩))
  exact lp2_0 (Int.toNat (n + 1 - 0) + 1) 0 _ (by omega) (fsI_0) rfl rfl rfl (by omega)
set_option maxHeartbeats 4000000 in
set_option maxRecDepth 100000 in
theorem kX4_placeOf (l : Launch) (fP : Nat → AV) (pl : Int) (n : Int) (ec : Int) (mk : Int) (oP : Nat) (aT : Nat) (Tm : Int → Int) (B : Int → Int) (Fo : Int → Int) (Ho : Int → Int) (Lt : Int → Int) (b : Int) (q : Int) (hf0 : fP 1 = rv aT) (hf1 : fP 6 = iv pl) (hok : okS pl n ec Fo Ho B Lt) (hT : reg Tm (tS pl ec mk Fo Ho B Lt) pl n 0) (hb : 0 ≤ b ∧ b < n) (hq : 0 ≤ q ∧ q < pl) : AMi l yX4_placeOf cX4_placeOf 7 .int 1 0 0 [rv oP, iv b, iv q] [(oP, ob 4 fP), (aT, ar 180 Tm)] (fun z u => z = rkI ((tS pl ec mk Fo Ho B Lt) b) pl q ∧ u = [(oP, ob 4 fP), (aT, ar 180 Tm)]) := by
  refine AMi.of2 rfl (nle rfl) ?_
  intro D G A p e s m args below meth c Po hPo X
  have hpl := hok.2.1
  have hpl1 := hok.1
  have hn1 := hok.2.2.1
  have hn2 := hok.2.2.2.1
  have hec := hok.2.2.2.2
  have h1 := hT.at (z := b * 6 + q) (x := b) (y := q) (by omega) (by omega) (by omega) (by omega) (by omega)
  have h3 := hok.time (mk := mk) b q (by omega) (by omega) (by omega)
  refine S_aload_n X dX4_placeOf_0 rfl rfl ?_
  refine S_iload_n X dX4_placeOf_1 rfl rfl ?_
  refine S_iload_n X dX4_placeOf_2 rfl rfl ?_
  refine S_calli X (kX4_aheadOfWaiting l fP oP aT Tm q b hf0 (by omega)) (is := [0, 1]) rfl (run_V X lkX4_89 0 rfl rfl (is := [0, 1]) (avs := [iv q, iv b]) (rest := []) rfl rfl (nle rfl) ⟨nle rfl, nle rfl⟩ ⟨nle rfl, nle rfl⟩ dX4_placeOf_3 (by decide) rfl) (fun z_3 u_1 hp_2 => ?_)
  obtain ⟨hz_4, hu_5⟩ := hp_2
  subst hz_4
  subst hu_5
  refine ⟨rfl, ?_⟩
  refine S_w (ws' := [(oP, ob 4 fP), (aT, ar 180 Tm)]) rfl ?_
  refine S_istore_n X dX4_placeOf_6 rfl (nle rfl) ?_
  refine S_iconst X dX4_placeOf_7 ?_
  refine S_istore X dX4_placeOf_8 (nle rfl) ?_
  refine S_iconst X dX4_placeOf_10 ?_
  refine S_istore X dX4_placeOf_11 (nle rfl) ?_
  have lp13_0 : ∀ (N : Nat) (o : Int) (cnt : Int) (L : Nat → Option AV), 0 ≤ o ∧ o ≤ pl → cnt = smI (fun o => if ((tS pl ec mk Fo Ho B Lt) b) o < ((tS pl ec mk Fo Ho B Lt) b) q ∨ ((tS pl ec mk Fo Ho B Lt) b) q = ((tS pl ec mk Fo Ho B Lt) b) o ∧ o < q then 1 else 0) o → L 0 = some (rv oP) → L 1 = some (iv b) → L 2 = some (iv q) → L 3 = some (iv (Tm (b * 6 + q))) → L 4 = some (iv cnt) → L 5 = some (iv o) → pl + 1 - o < (N : Int) → S_ p l e (rmD 1 0 0) s m args below meth c (MQ below (QcI D G A Po) args s 0 0 A) D G A 7 0 0 13 L [] [(oP, ob 4 fP), (aT, ar 180 Tm)] := by
    intro N
    induction N with
    | zero =>
      intro o cnt L13 ho hcnt hL13_0 hL13_1 hL13_2 hL13_3 hL13_4 hL13_5 hN13
      exfalso; omega
    | succ N ih13 =>
      intro o cnt L13 ho hcnt hL13_0 hL13_1 hL13_2 hL13_3 hL13_4 hL13_5 hN13
      refine S_iload X dX4_placeOf_13 hL13_5 ?_
      refine S_aload_n X dX4_placeOf_15 rfl hL13_0 ?_
      refine S_get X fgX4_51_4 0 rfl hf1 dX4_placeOf_16 ?_
      refine S_icmp_ge (tgt := 58) X dX4_placeOf_19 (by decide) (by omega) (by omega) (fun c_6 => ?_) (fun c_6 => ?_)
      ·
        refine S_iload X dX4_placeOf_58 hL13_4 ?_
        exact S_iret X (nle rfl) (nle rfl) dX4_placeOf_60 (hPo _ _ (⟨by rw [hcnt]; unfold rkI; rw [show o = pl by omega], rfl⟩))
      ·
        have h2 := hT.at (z := b * 6 + o) (x := b) (y := o) (by omega) (by omega) (by omega) (by omega) (by omega)
        have h4 := hok.time (mk := mk) b o (by omega) (by omega) (by omega)
        refine S_aload_n X dX4_placeOf_22 rfl hL13_0 ?_
        refine S_iload X dX4_placeOf_23 hL13_5 ?_
        refine S_iload_n X dX4_placeOf_25 rfl hL13_1 ?_
        refine S_calli X (kX4_aheadOfWaiting l fP oP aT Tm o b hf0 (by omega)) (is := [0, 1]) rfl (run_V X lkX4_89 0 rfl rfl (is := [0, 1]) (avs := [iv o, iv b]) (rest := []) rfl rfl (nle rfl) ⟨nle rfl, nle rfl⟩ ⟨nle rfl, nle rfl⟩ dX4_placeOf_26 (by decide) rfl) (fun z_9 u_7 hp_8 => ?_)
        obtain ⟨hz_10, hu_11⟩ := hp_8
        subst hz_10
        subst hu_11
        refine ⟨rfl, ?_⟩
        refine S_w (ws' := [(oP, ob 4 fP), (aT, ar 180 Tm)]) rfl ?_
        refine S_istore X dX4_placeOf_29 (nle rfl) ?_
        refine S_iload X dX4_placeOf_31 rfl ?_
        refine S_iload_n X dX4_placeOf_33 rfl hL13_3 ?_
        refine S_icmp_lt (tgt := 49) X dX4_placeOf_34 (by decide) (by omega) (by omega) (fun c_12 => ?_) (fun c_12 => ?_)
        ·
          refine S_iinc X dX4_placeOf_49 (nle rfl) hL13_4 ?_
          refine S_iinc X dX4_placeOf_52 (nle rfl) hL13_5 ?_
          refine S_goto (tgt := 13) X dX4_placeOf_55 (by decide) ?_
          exact ih13 (o + 1) (cnt + 1) _ (by omega) (by rw [smI_S (by omega), ← hcnt, if_pos (by omega)]) hL13_0 hL13_1 hL13_2 hL13_3 rfl rfl (by omega)
        ·
          refine S_iload X dX4_placeOf_37 rfl ?_
          refine S_iload_n X dX4_placeOf_39 rfl hL13_3 ?_
          refine S_icmp_ne (tgt := 52) X dX4_placeOf_40 (by decide) (by omega) (by omega) (fun c_13 => ?_) (fun c_13 => ?_)
          ·
            refine S_iinc X dX4_placeOf_52 (nle rfl) hL13_5 ?_
            refine S_goto (tgt := 13) X dX4_placeOf_55 (by decide) ?_
            exact ih13 (o + 1) cnt _ (by omega) (by rw [smI_S (by omega), ← hcnt, if_neg (by omega)]; omega) hL13_0 hL13_1 hL13_2 hL13_3 hL13_4 rfl (by omega)
          ·
            refine S_iload X dX4_placeOf_43 hL13_5 ?_
            refine S_iload_n X dX4_placeOf_45 rfl hL13_2 ?_
            refine S_icmp_ge (tgt := 52) X dX4_placeOf_46 (by decide) (by omega) (by omega) (fun c_14 => ?_) (fun c_14 => ?_)
            ·
              refine S_iinc X dX4_placeOf_52 (nle rfl) hL13_5 ?_
              refine S_goto (tgt := 13) X dX4_placeOf_55 (by decide) ?_
              exact ih13 (o + 1) cnt _ (by omega) (by rw [smI_S (by omega), ← hcnt, if_neg (by omega)]; omega) hL13_0 hL13_1 hL13_2 hL13_3 hL13_4 rfl (by omega)
            ·
              refine S_iinc X dX4_placeOf_49 (nle rfl) hL13_4 ?_
              refine S_iinc X dX4_placeOf_52 (nle rfl) hL13_5 ?_
              refine S_goto (tgt := 13) X dX4_placeOf_55 (by decide) ?_
              exact ih13 (o + 1) (cnt + 1) _ (by omega) (by rw [smI_S (by omega), ← hcnt, if_pos (by omega)]) hL13_0 hL13_1 hL13_2 hL13_3 rfl rfl (by omega)
  exact lp13_0 (Int.toNat (pl + 1 - 0) + 1) 0 0 _ (by omega) (rfl) rfl rfl rfl rfl rfl rfl (by omega)
set_option maxHeartbeats 4000000 in
set_option maxRecDepth 100000 in
theorem kX4_inPlace (l : Launch) (fP : Nat → AV) (pl : Int) (n : Int) (ec : Int) (mk : Int) (oP : Nat) (aT : Nat) (Tm : Int → Int) (B : Int → Int) (Fo : Int → Int) (Ho : Int → Int) (Lt : Int → Int) (b : Int) (i : Int) (hf0 : fP 1 = rv aT) (hf1 : fP 6 = iv pl) (hok : okS pl n ec Fo Ho B Lt) (hT : reg Tm (tS pl ec mk Fo Ho B Lt) pl n 0) (hb : 0 ≤ b ∧ b < n) (hi : inR i) : AMi l yX4_inPlace cX4_inPlace 4 .int 2 0 0 [rv oP, iv b, iv i] [(oP, ob 4 fP), (aT, ar 180 Tm)] (fun z u => z = fiI (fun p => decide (rkI ((tS pl ec mk Fo Ho B Lt) b) pl p = i)) pl ∧ u = [(oP, ob 4 fP), (aT, ar 180 Tm)]) := by
  refine AMi.of2 rfl (nle rfl) ?_
  intro D G A p e s m args below meth c Po hPo X
  have hpl := hok.2.1
  have hpl1 := hok.1
  have hn1 := hok.2.2.1
  have hn2 := hok.2.2.2.1
  have hec := hok.2.2.2.2
  refine S_iconst X dX4_inPlace_0 ?_
  refine S_istore_n X dX4_inPlace_1 rfl (nle rfl) ?_
  have lp2_0 : ∀ (N : Nat) (q : Int) (L : Nat → Option AV), 0 ≤ q ∧ q ≤ pl → fiI (fun p => decide (rkI ((tS pl ec mk Fo Ho B Lt) b) pl p = i)) q = -1 → L 0 = some (rv oP) → L 1 = some (iv b) → L 2 = some (iv i) → L 3 = some (iv q) → pl + 1 - q < (N : Int) → S_ p l e (rmD 2 0 0) s m args below meth c (MQ below (QcI D G A Po) args s 0 0 A) D G A 4 0 0 2 L [] [(oP, ob 4 fP), (aT, ar 180 Tm)] := by
    intro N
    induction N with
    | zero =>
      intro q L2 hq hfi hL2_0 hL2_1 hL2_2 hL2_3 hN2
      exfalso; omega
    | succ N ih2 =>
      intro q L2 hq hfi hL2_0 hL2_1 hL2_2 hL2_3 hN2
      refine S_iload_n X dX4_inPlace_2 rfl hL2_3 ?_
      refine S_aload_n X dX4_inPlace_3 rfl hL2_0 ?_
      refine S_get X fgX4_51_4 0 rfl hf1 dX4_inPlace_4 ?_
      refine S_icmp_ge (tgt := 28) X dX4_inPlace_7 (by decide) (by omega) (by omega) (fun c_1 => ?_) (fun c_1 => ?_)
      ·
        refine S_iconst X dX4_inPlace_28 ?_
        exact S_iret X (nle rfl) (nle rfl) dX4_inPlace_29 (hPo _ _ (⟨by have h9 := hfi; rw [show q = pl by omega] at h9; exact h9.symm, rfl⟩))
      ·
        refine S_aload_n X dX4_inPlace_10 rfl hL2_0 ?_
        refine S_iload_n X dX4_inPlace_11 rfl hL2_1 ?_
        refine S_iload_n X dX4_inPlace_12 rfl hL2_3 ?_
        refine S_calli X (kX4_placeOf l fP pl n ec mk oP aT Tm B Fo Ho Lt b q hf0 hf1 (by omega) (by omega) (by omega) (by omega)) (is := [0, 1]) rfl (run_V X lkX4_95 0 rfl rfl (is := [0, 1]) (avs := [iv b, iv q]) (rest := []) rfl rfl (nle rfl) ⟨nle rfl, nle rfl⟩ ⟨nle rfl, nle rfl⟩ dX4_inPlace_13 (by decide) rfl) (fun z_4 u_2 hp_3 => ?_)
        obtain ⟨hz_5, hu_6⟩ := hp_3
        subst hz_5
        subst hu_6
        refine ⟨rfl, ?_⟩
        refine S_w (ws' := [(oP, ob 4 fP), (aT, ar 180 Tm)]) rfl ?_
        have hrk := sm01 (rk01 (g := ((tS pl ec mk Fo Ho B Lt) b)) (p := q)) pl (by omega)
        have hrk2 : rkI ((tS pl ec mk Fo Ho B Lt) b) pl q = smI (fun o => if ((tS pl ec mk Fo Ho B Lt) b) o < ((tS pl ec mk Fo Ho B Lt) b) q ∨ ((tS pl ec mk Fo Ho B Lt) b) q = ((tS pl ec mk Fo Ho B Lt) b) o ∧ o < q then 1 else 0) pl := rfl
        refine S_iload_n X dX4_inPlace_16 rfl hL2_2 ?_
        refine S_icmp_ne (tgt := 22) X dX4_inPlace_17 (by decide) (by omega) (by omega) (fun c_7 => ?_) (fun c_7 => ?_)
        ·
          refine S_iinc X dX4_inPlace_22 (nle rfl) hL2_3 ?_
          refine S_goto (tgt := 2) X dX4_inPlace_25 (by decide) ?_
          exact ih2 (q + 1) _ (by omega) (fiI_skip (by omega) hfi (decide_eq_false (by omega))) hL2_0 hL2_1 hL2_2 rfl (by omega)
        ·
          refine S_iload_n X dX4_inPlace_20 rfl hL2_3 ?_
          exact S_iret X (nle rfl) (nle rfl) dX4_inPlace_21 (hPo _ _ (⟨(fiI_hit (by omega) hfi (decide_eq_true (by omega)) pl (by omega) (by omega)).symm, rfl⟩))
  exact lp2_0 (Int.toNat (pl + 1 - 0) + 1) 0 _ (by omega) (fiI_0) rfl rfl rfl rfl (by omega)
set_option maxHeartbeats 4000000 in
set_option maxRecDepth 100000 in
theorem kX4_order (l : Launch) (fP : Nat → AV) (pl : Int) (n : Int) (ec : Int) (mk : Int) (oP : Nat) (aT : Nat) (Tm : Int → Int) (B : Int → Int) (Fo : Int → Int) (Ho : Int → Int) (Lt : Int → Int) (i : Int) (j : Int) (b : Int) (hf0 : fP 1 = rv aT) (hok : okS pl n ec Fo Ho B Lt) (hT : reg Tm (tS pl ec mk Fo Ho B Lt) pl n 0) (hb : 0 ≤ b ∧ b < n) (hi : 0 ≤ i ∧ i < pl) (hj : 0 ≤ j ∧ j < pl) : AMi l yX4_order cX4_order 4 .int 1 0 0 [rv oP, iv i, iv j, iv b] [(oP, ob 4 fP), (aT, ar 180 Tm)] (fun z u => z = cmI ((tS pl ec mk Fo Ho B Lt) b i) ((tS pl ec mk Fo Ho B Lt) b j) ∧ u = [(oP, ob 4 fP), (aT, ar 180 Tm)]) := by
  refine AMi.of2 rfl (nle rfl) ?_
  intro D G A p e s m args below meth c Po hPo X
  have hpl := hok.2.1
  have hpl1 := hok.1
  have hn1 := hok.2.2.1
  have hn2 := hok.2.2.2.1
  have hec := hok.2.2.2.2
  have h1 := hT.at (z := b * 6 + i) (x := b) (y := i) (by omega) (by omega) (by omega) (by omega) (by omega)
  have h2 := hT.at (z := b * 6 + j) (x := b) (y := j) (by omega) (by omega) (by omega) (by omega) (by omega)
  have h3 := hok.time (mk := mk) b i (by omega) (by omega) (by omega)
  have h4 := hok.time (mk := mk) b j (by omega) (by omega) (by omega)
  refine S_aload_n X dX4_order_0 rfl rfl ?_
  refine S_iload_n X dX4_order_1 rfl rfl ?_
  refine S_iload_n X dX4_order_2 rfl rfl ?_
  refine S_calli X (kX4_aheadOfWaiting l fP oP aT Tm i b hf0 (by omega)) (is := [0, 1]) rfl (run_V X lkX4_89 0 rfl rfl (is := [0, 1]) (avs := [iv i, iv b]) (rest := []) rfl rfl (nle rfl) ⟨nle rfl, nle rfl⟩ ⟨nle rfl, nle rfl⟩ dX4_order_3 (by decide) rfl) (fun z_3 u_1 hp_2 => ?_)
  obtain ⟨hz_4, hu_5⟩ := hp_2
  subst hz_4
  subst hu_5
  refine ⟨rfl, ?_⟩
  refine S_w (ws' := [(oP, ob 4 fP), (aT, ar 180 Tm)]) rfl ?_
  refine S_aload_n X dX4_order_6 rfl rfl ?_
  refine S_iload_n X dX4_order_7 rfl rfl ?_
  refine S_iload_n X dX4_order_8 rfl rfl ?_
  refine S_calli X (kX4_aheadOfWaiting l fP oP aT Tm j b hf0 (by omega)) (is := [0, 1]) rfl (run_V X lkX4_89 0 rfl rfl (is := [0, 1]) (avs := [iv j, iv b]) (rest := [iv (Tm (b * 6 + i))]) rfl rfl (nle rfl) ⟨nle rfl, nle rfl⟩ ⟨nle rfl, nle rfl⟩ dX4_order_9 (by decide) rfl) (fun z_8 u_6 hp_7 => ?_)
  obtain ⟨hz_9, hu_10⟩ := hp_7
  subst hz_9
  subst hu_10
  refine ⟨rfl, ?_⟩
  refine S_w (ws' := [(oP, ob 4 fP), (aT, ar 180 Tm)]) rfl ?_
  refine S_calli X (kJ6_compare_7cf53 l (Tm (b * 6 + i)) (Tm (b * 6 + j)) (by omega) (by omega)) (is := []) rfl (run_S X lkX4_101 (is := []) (avs := [iv (Tm (b * 6 + i)), iv (Tm (b * 6 + j))]) (rest := []) rfl rfl (nle rfl) ⟨nle rfl, nle rfl⟩ ⟨nle rfl, nle rfl⟩ dX4_order_12 (by decide) rfl) (fun z_13 u_11 hp_12 => ?_)
  obtain ⟨hz_14, hu_15⟩ := hp_12
  subst hz_14
  subst hu_15
  refine ⟨rfl, ?_⟩
  refine S_w (ws' := [(oP, ob 4 fP), (aT, ar 180 Tm)]) rfl ?_
  exact S_iret X (nle rfl) (nle rfl) dX4_order_15 (hPo _ _ (⟨by unfold cmI; rw [h1, h2], rfl⟩))
set_option maxHeartbeats 4000000 in
set_option maxRecDepth 100000 in
theorem kX4_turns (l : Launch) (fP : Nat → AV) (pl : Int) (n : Int) (ec : Int) (mk : Int) (oP : Nat) (aT : Nat) (Tm : Int → Int) (B : Int → Int) (Fo : Int → Int) (Ho : Int → Int) (Lt : Int → Int) (i : Int) (j : Int) (hf0 : fP 1 = rv aT) (hf1 : fP 6 = iv pl) (hf2 : fP 7 = iv n) (hok : okS pl n ec Fo Ho B Lt) (hT : reg Tm (tS pl ec mk Fo Ho B Lt) pl n 0) (hi : 0 ≤ i ∧ i < pl) (hj : 0 ≤ j ∧ j < pl) : AMi l yX4_turns cX4_turns 7 .int 2 0 0 [rv oP, iv i, iv j] [(oP, ob 4 fP), (aT, ar 180 Tm)] (fun z u => z = ovI (tS pl ec mk Fo Ho B Lt) i j n ∧ u = [(oP, ob 4 fP), (aT, ar 180 Tm)]) := by
  refine AMi.of2 rfl (nle rfl) ?_
  intro D G A p e s m args below meth c Po hPo X
  have hpl := hok.2.1
  have hpl1 := hok.1
  have hn1 := hok.2.2.1
  have hn2 := hok.2.2.2.1
  have hec := hok.2.2.2.2
  refine S_iconst X dX4_turns_0 ?_
  refine S_istore_n X dX4_turns_1 rfl (nle rfl) ?_
  refine S_aload_n X dX4_turns_2 rfl rfl ?_
  refine S_iload_n X dX4_turns_3 rfl rfl ?_
  refine S_iload_n X dX4_turns_4 rfl rfl ?_
  refine S_iconst X dX4_turns_5 ?_
  refine S_calli X (kX4_order l fP pl n ec mk oP aT Tm B Fo Ho Lt i j 0 hf0 (by omega) (by omega) (by omega) (by omega) (by omega)) (is := [0, 1]) rfl (run_V X lkX4_98 0 rfl rfl (is := [0, 1]) (avs := [iv i, iv j, iv 0]) (rest := []) rfl rfl (nle rfl) ⟨nle rfl, nle rfl⟩ ⟨nle rfl, nle rfl⟩ dX4_turns_6 (by decide) rfl) (fun z_3 u_1 hp_2 => ?_)
  obtain ⟨hz_4, hu_5⟩ := hp_2
  subst hz_4
  subst hu_5
  refine ⟨rfl, ?_⟩
  refine S_w (ws' := [(oP, ob 4 fP), (aT, ar 180 Tm)]) rfl ?_
  refine S_istore X dX4_turns_9 (nle rfl) ?_
  refine S_iconst X dX4_turns_11 ?_
  refine S_istore X dX4_turns_12 (nle rfl) ?_
  have lp14_0 : ∀ (N : Nat) (b : Int) (cnt : Int) (be : Int) (L : Nat → Option AV), 1 ≤ b ∧ b ≤ n → be = cmI ((tS pl ec mk Fo Ho B Lt) (b - 1) i) ((tS pl ec mk Fo Ho B Lt) (b - 1) j) → cnt = smI (fun b => if 1 ≤ b ∧ cmI ((tS pl ec mk Fo Ho B Lt) b i) ((tS pl ec mk Fo Ho B Lt) b j) ≠ 0 ∧ cmI ((tS pl ec mk Fo Ho B Lt) b i) ((tS pl ec mk Fo Ho B Lt) b j) ≠ cmI ((tS pl ec mk Fo Ho B Lt) (b - 1) i) ((tS pl ec mk Fo Ho B Lt) (b - 1) j) then 1 else 0) b → L 0 = some (rv oP) → L 1 = some (iv i) → L 2 = some (iv j) → L 3 = some (iv cnt) → L 4 = some (iv be) → L 5 = some (iv b) → n + 1 - b < (N : Int) → S_ p l e (rmD 2 0 0) s m args below meth c (MQ below (QcI D G A Po) args s 0 0 A) D G A 7 0 0 14 L [] [(oP, ob 4 fP), (aT, ar 180 Tm)] := by
    intro N
    induction N with
    | zero =>
      intro b cnt be L14 hb hbe hcnt hL14_0 hL14_1 hL14_2 hL14_3 hL14_4 hL14_5 hN14
      exfalso; omega
    | succ N ih14 =>
      intro b cnt be L14 hb hbe hcnt hL14_0 hL14_1 hL14_2 hL14_3 hL14_4 hL14_5 hN14
      refine S_iload X dX4_turns_14 hL14_5 ?_
      refine S_aload_n X dX4_turns_16 rfl hL14_0 ?_
      refine S_get X fgX4_28_4 0 rfl hf2 dX4_turns_17 ?_
      refine S_icmp_ge (tgt := 65) X dX4_turns_20 (by decide) (by omega) (by omega) (fun c_6 => ?_) (fun c_6 => ?_)
      ·
        refine S_iload_n X dX4_turns_65 rfl hL14_3 ?_
        exact S_iret X (nle rfl) (nle rfl) dX4_turns_66 (hPo _ _ (⟨by unfold ovI; rw [hcnt, show b = n by omega], rfl⟩))
      ·
        refine S_iload X dX4_turns_23 hL14_5 ?_
        refine S_bipush X dX4_turns_25 rfl ?_
        refine S_icmp_ge (tgt := 65) X dX4_turns_27 (by decide) (by omega) (by decide) (fun c_7 => by exfalso; omega) (fun c_7 => ?_)
        refine S_aload_n X dX4_turns_30 rfl hL14_0 ?_
        refine S_iload_n X dX4_turns_31 rfl hL14_1 ?_
        refine S_iload_n X dX4_turns_32 rfl hL14_2 ?_
        refine S_iload X dX4_turns_33 hL14_5 ?_
        refine S_calli X (kX4_order l fP pl n ec mk oP aT Tm B Fo Ho Lt i j b hf0 (by omega) (by omega) (by omega) (by omega) (by omega)) (is := [0, 1]) rfl (run_V X lkX4_98 0 rfl rfl (is := [0, 1]) (avs := [iv i, iv j, iv b]) (rest := []) rfl rfl (nle rfl) ⟨nle rfl, nle rfl⟩ ⟨nle rfl, nle rfl⟩ dX4_turns_35 (by decide) rfl) (fun z_10 u_8 hp_9 => ?_)
        obtain ⟨hz_11, hu_12⟩ := hp_9
        subst hz_11
        subst hu_12
        refine ⟨rfl, ?_⟩
        refine S_w (ws' := [(oP, ob 4 fP), (aT, ar 180 Tm)]) rfl ?_
        have hc1 := cmI_in ((tS pl ec mk Fo Ho B Lt) b i) ((tS pl ec mk Fo Ho B Lt) b j)
        have hc2 := cmI_in ((tS pl ec mk Fo Ho B Lt) (b - 1) i) ((tS pl ec mk Fo Ho B Lt) (b - 1) j)
        refine S_istore X dX4_turns_38 (nle rfl) ?_
        refine S_iload X dX4_turns_40 rfl ?_
        refine S_if_eq (tgt := 55) X dX4_turns_42 (by decide) (by omega) (fun c_13 => ?_) (fun c_13 => ?_)
        ·
          refine S_iload X dX4_turns_55 rfl ?_
          refine S_istore X dX4_turns_57 (nle rfl) ?_
          refine S_iinc X dX4_turns_59 (nle rfl) hL14_5 ?_
          refine S_goto (tgt := 14) X dX4_turns_62 (by decide) ?_
          exact ih14 (b + 1) cnt (cmI ((tS pl ec mk Fo Ho B Lt) b i) ((tS pl ec mk Fo Ho B Lt) b j)) _ (by omega) (by rw [Int.add_sub_cancel]) (by rw [smI_S (by omega), ← hcnt, if_neg (by omega)]; omega) hL14_0 hL14_1 hL14_2 hL14_3 rfl rfl (by omega)
        ·
          refine S_iload X dX4_turns_45 rfl ?_
          refine S_iload X dX4_turns_47 hL14_4 ?_
          refine S_icmp_eq (tgt := 55) X dX4_turns_49 (by decide) (by omega) (by omega) (fun c_14 => ?_) (fun c_14 => ?_)
          ·
            refine S_iload X dX4_turns_55 rfl ?_
            refine S_istore X dX4_turns_57 (nle rfl) ?_
            refine S_iinc X dX4_turns_59 (nle rfl) hL14_5 ?_
            refine S_goto (tgt := 14) X dX4_turns_62 (by decide) ?_
            exact ih14 (b + 1) cnt (cmI ((tS pl ec mk Fo Ho B Lt) b i) ((tS pl ec mk Fo Ho B Lt) b j)) _ (by omega) (by rw [Int.add_sub_cancel]) (by rw [smI_S (by omega), ← hcnt, if_neg (by omega)]; omega) hL14_0 hL14_1 hL14_2 hL14_3 rfl rfl (by omega)
          ·
            refine S_iinc X dX4_turns_52 (nle rfl) hL14_3 ?_
            refine S_iload X dX4_turns_55 rfl ?_
            refine S_istore X dX4_turns_57 (nle rfl) ?_
            refine S_iinc X dX4_turns_59 (nle rfl) hL14_5 ?_
            refine S_goto (tgt := 14) X dX4_turns_62 (by decide) ?_
            exact ih14 (b + 1) (cnt + 1) (cmI ((tS pl ec mk Fo Ho B Lt) b i) ((tS pl ec mk Fo Ho B Lt) b j)) _ (by omega) (by rw [Int.add_sub_cancel]) (by rw [smI_S (by omega), ← hcnt, if_pos (by omega)]) hL14_0 hL14_1 hL14_2 rfl rfl rfl (by omega)
  exact lp14_0 (Int.toNat (n + 1 - 1) + 1) 1 0 (cmI ((tS pl ec mk Fo Ho B Lt) 0 i) ((tS pl ec mk Fo Ho B Lt) 0 j)) _ (by omega) (rfl) (by rw [smI_1, if_neg (by omega)]; rfl) rfl rfl rfl rfl rfl rfl (by omega)
set_option maxHeartbeats 4000000 in
set_option maxRecDepth 100000 in
theorem kX4_apartFromAll (l : Launch) (fP : Nat → AV) (pl : Int) (n : Int) (ec : Int) (mk : Int) (oP : Nat) (aT : Nat) (Tm : Int → Int) (B : Int → Int) (Fo : Int → Int) (Ho : Int → Int) (Lt : Int → Int) (q : Int) (b : Int) (hf0 : fP 1 = rv aT) (hf1 : fP 6 = iv pl) (hok : okS pl n ec Fo Ho B Lt) (hT : reg Tm (tS pl ec mk Fo Ho B Lt) pl n 0) (hb : 0 ≤ b ∧ b < n) (hq : 0 ≤ q ∧ q < pl) : AMi l yX4_apartFromAll cX4_apartFromAll 5 .int 1 0 0 [rv oP, iv q, iv b] [(oP, ob 4 fP), (aT, ar 180 Tm)] (fun z u => z = apI ((tS pl ec mk Fo Ho B Lt) b) pl q ∧ u = [(oP, ob 4 fP), (aT, ar 180 Tm)]) := by
  refine AMi.of2 rfl (nle rfl) ?_
  intro D G A p e s m args below meth c Po hPo X
  have hpl := hok.2.1
  have hpl1 := hok.1
  have hn1 := hok.2.2.1
  have hn2 := hok.2.2.2.1
  have hec := hok.2.2.2.2
  have h2 := hT.at (z := b * 6 + q) (x := b) (y := q) (by omega) (by omega) (by omega) (by omega) (by omega)
  have h4 := hok.time (mk := mk) b q (by omega) (by omega) (by omega)
  refine S_iconst X dX4_apartFromAll_0 ?_
  refine S_istore_n X dX4_apartFromAll_1 rfl (nle rfl) ?_
  refine S_iconst X dX4_apartFromAll_2 ?_
  refine S_istore X dX4_apartFromAll_3 (nle rfl) ?_
  have lp5_0 : ∀ (N : Nat) (o : Int) (cnt : Int) (L : Nat → Option AV), 0 ≤ o ∧ o ≤ pl → cnt = smI (fun o => ((((tS pl ec mk Fo Ho B Lt) b) o - ((tS pl ec mk Fo Ho B Lt) b) q).natAbs : Int)) o → L 0 = some (rv oP) → L 1 = some (iv q) → L 2 = some (iv b) → L 3 = some (iv cnt) → L 4 = some (iv o) → pl + 1 - o < (N : Int) → S_ p l e (rmD 1 0 0) s m args below meth c (MQ below (QcI D G A Po) args s 0 0 A) D G A 5 0 0 5 L [] [(oP, ob 4 fP), (aT, ar 180 Tm)] := by
    intro N
    induction N with
    | zero =>
      intro o cnt L5 ho hcnt hL5_0 hL5_1 hL5_2 hL5_3 hL5_4 hN5
      exfalso; omega
    | succ N ih5 =>
      intro o cnt L5 ho hcnt hL5_0 hL5_1 hL5_2 hL5_3 hL5_4 hN5
      refine S_iload X dX4_apartFromAll_5 hL5_4 ?_
      refine S_aload_n X dX4_apartFromAll_7 rfl hL5_0 ?_
      refine S_get X fgX4_51_4 0 rfl hf1 dX4_apartFromAll_8 ?_
      refine S_icmp_ge (tgt := 40) X dX4_apartFromAll_11 (by decide) (by omega) (by omega) (fun c_1 => ?_) (fun c_1 => ?_)
      ·
        refine S_iload_n X dX4_apartFromAll_40 rfl hL5_3 ?_
        exact S_iret X (nle rfl) (nle rfl) dX4_apartFromAll_41 (hPo _ _ (⟨by rw [hcnt]; unfold apI; rw [show o = pl by omega], rfl⟩))
      ·
        have h1 := hT.at (z := b * 6 + o) (x := b) (y := o) (by omega) (by omega) (by omega) (by omega) (by omega)
        have h3 := hok.time (mk := mk) b o (by omega) (by omega) (by omega)
        refine S_iload_n X dX4_apartFromAll_14 rfl hL5_3 ?_
        refine S_aload_n X dX4_apartFromAll_15 rfl hL5_0 ?_
        refine S_iload X dX4_apartFromAll_16 hL5_4 ?_
        refine S_iload_n X dX4_apartFromAll_18 rfl hL5_2 ?_
        refine S_calli X (kX4_aheadOfWaiting l fP oP aT Tm o b hf0 (by omega)) (is := [0, 1]) rfl (run_V X lkX4_89 0 rfl rfl (is := [0, 1]) (avs := [iv o, iv b]) (rest := [iv cnt]) rfl rfl (nle rfl) ⟨nle rfl, nle rfl⟩ ⟨nle rfl, nle rfl⟩ dX4_apartFromAll_19 (by decide) rfl) (fun z_4 u_2 hp_3 => ?_)
        obtain ⟨hz_5, hu_6⟩ := hp_3
        subst hz_5
        subst hu_6
        refine ⟨rfl, ?_⟩
        refine S_w (ws' := [(oP, ob 4 fP), (aT, ar 180 Tm)]) rfl ?_
        refine S_aload_n X dX4_apartFromAll_22 rfl hL5_0 ?_
        refine S_iload_n X dX4_apartFromAll_23 rfl hL5_1 ?_
        refine S_iload_n X dX4_apartFromAll_24 rfl hL5_2 ?_
        refine S_calli X (kX4_aheadOfWaiting l fP oP aT Tm q b hf0 (by omega)) (is := [0, 1]) rfl (run_V X lkX4_89 0 rfl rfl (is := [0, 1]) (avs := [iv q, iv b]) (rest := [iv (Tm (b * 6 + o)), iv cnt]) rfl rfl (nle rfl) ⟨nle rfl, nle rfl⟩ ⟨nle rfl, nle rfl⟩ dX4_apartFromAll_25 (by decide) rfl) (fun z_9 u_7 hp_8 => ?_)
        obtain ⟨hz_10, hu_11⟩ := hp_8
        subst hz_10
        subst hu_11
        refine ⟨rfl, ?_⟩
        refine S_w (ws' := [(oP, ob 4 fP), (aT, ar 180 Tm)]) rfl ?_
        refine S_isub X dX4_apartFromAll_28 ?_
        refine S_mabs X lkX4_109 rfl rfl (by omega) (nle rfl) (nle rfl) (nle rfl) (nle rfl) dX4_apartFromAll_29 ?_
        refine S_iadd X dX4_apartFromAll_32 ?_
        refine S_istore_n X dX4_apartFromAll_33 rfl (nle rfl) ?_
        refine S_iinc X dX4_apartFromAll_34 (nle rfl) hL5_4 ?_
        refine S_goto (tgt := 5) X dX4_apartFromAll_37 (by decide) ?_
        exact ih5 (o + 1) (cnt + (((Tm (b * 6 + o)) - (Tm (b * 6 + q))).natAbs : Int)) _ (by omega) (by rw [smI_S (by omega), ← hcnt, h1, h2]) hL5_0 hL5_1 hL5_2 rfl rfl (by omega)
  exact lp5_0 (Int.toNat (pl + 1 - 0) + 1) 0 0 _ (by omega) (rfl) rfl rfl rfl rfl rfl (by omega)
set_option maxHeartbeats 4000000 in
set_option maxRecDepth 100000 in
theorem kX4_innermost (l : Launch) (fP : Nat → AV) (pl : Int) (n : Int) (ec : Int) (mk : Int) (oP : Nat) (aT : Nat) (Tm : Int → Int) (B : Int → Int) (Fo : Int → Int) (Ho : Int → Int) (Lt : Int → Int) (hf0 : fP 1 = rv aT) (hf1 : fP 6 = iv pl) (hf2 : fP 7 = iv n) (hok : okS pl n ec Fo Ho B Lt) (hT : reg Tm (tS pl ec mk Fo Ho B Lt) pl n 0) : AMi l yX4_innermost cX4_innermost 5 .int 2 0 0 [rv oP] [(oP, ob 4 fP), (aT, ar 180 Tm)] (fun z u => z = amI (fun p => -apI ((tS pl ec mk Fo Ho B Lt) (n - 1)) pl p) pl ∧ u = [(oP, ob 4 fP), (aT, ar 180 Tm)]) := by
  refine AMi.of2 rfl (nle rfl) ?_
  intro D G A p e s m args below meth c Po hPo X
  have hpl := hok.2.1
  have hpl1 := hok.1
  have hn1 := hok.2.2.1
  have hn2 := hok.2.2.2.1
  have hec := hok.2.2.2.2
  refine S_iconst X dX4_innermost_0 ?_
  refine S_istore_n X dX4_innermost_1 rfl (nle rfl) ?_
  refine S_ldc (n := 1000000000) X m834 dX4_innermost_2 ?_
  refine S_istore_n X dX4_innermost_4 rfl (nle rfl) ?_
  refine S_iconst X dX4_innermost_5 ?_
  refine S_istore_n X dX4_innermost_6 rfl (nle rfl) ?_
  have lp7_0 : ∀ (N : Nat) (q : Int) (be : Int) (le : Int) (L : Nat → Option AV), 0 ≤ q ∧ q ≤ pl → (q = 0 ∧ be = 0 ∧ le = 1000000000) ∨ (1 ≤ q ∧ be = amI (fun p => -apI ((tS pl ec mk Fo Ho B Lt) (n - 1)) pl p) q ∧ le = apI ((tS pl ec mk Fo Ho B Lt) (n - 1)) pl be ∧ 0 ≤ le ∧ le ≤ 44820 ∧ 0 ≤ be ∧ be ≤ 6) → L 0 = some (rv oP) → L 1 = some (iv be) → L 2 = some (iv le) → L 3 = some (iv q) → pl + 1 - q < (N : Int) → S_ p l e (rmD 2 0 0) s m args below meth c (MQ below (QcI D G A Po) args s 0 0 A) D G A 5 0 0 7 L [] [(oP, ob 4 fP), (aT, ar 180 Tm)] := by
    intro N
    induction N with
    | zero =>
      intro q be le L7 hq hbe hL7_0 hL7_1 hL7_2 hL7_3 hN7
      exfalso; omega
    | succ N ih7 =>
      intro q be le L7 hq hbe hL7_0 hL7_1 hL7_2 hL7_3 hN7
      refine S_iload_n X dX4_innermost_7 rfl hL7_3 ?_
      refine S_aload_n X dX4_innermost_8 rfl hL7_0 ?_
      refine S_get X fgX4_51_4 0 rfl hf1 dX4_innermost_9 ?_
      refine S_icmp_ge (tgt := 45) X dX4_innermost_12 (by decide) (by omega) (by omega) (fun c_1 => ?_) (fun c_1 => ?_)
      ·
        refine S_iload_n X dX4_innermost_45 rfl hL7_1 ?_
        exact S_iret X (nle rfl) (nle rfl) dX4_innermost_46 (hPo _ _ (⟨by rcases hbe with h9 | h9; (exfalso; omega); rw [h9.2.1, show q = pl by omega], rfl⟩))
      ·
        refine S_aload_n X dX4_innermost_15 rfl hL7_0 ?_
        refine S_iload_n X dX4_innermost_16 rfl hL7_3 ?_
        refine S_aload_n X dX4_innermost_17 rfl hL7_0 ?_
        refine S_get X fgX4_28_4 0 rfl hf2 dX4_innermost_18 ?_
        refine S_iconst X dX4_innermost_21 ?_
        refine S_isub X dX4_innermost_22 ?_
        refine S_calli X (kX4_apartFromAll l fP pl n ec mk oP aT Tm B Fo Ho Lt q (n - 1) hf0 hf1 (by omega) hT (by omega) (by omega)) (is := [0, 1]) rfl (run_V X lkX4_106 0 rfl rfl (is := [0, 1]) (avs := [iv q, iv (n - 1)]) (rest := []) rfl rfl (nle rfl) ⟨nle rfl, nle rfl⟩ ⟨nle rfl, nle rfl⟩ dX4_innermost_23 (by decide) rfl) (fun z_4 u_2 hp_3 => ?_)
        obtain ⟨hz_5, hu_6⟩ := hp_3
        subst hz_5
        subst hu_6
        refine ⟨rfl, ?_⟩
        refine S_w (ws' := [(oP, ob 4 fP), (aT, ar 180 Tm)]) rfl ?_
        have hap := sm_le (f := (fun o => ((((tS pl ec mk Fo Ho B Lt) (n - 1)) o - ((tS pl ec mk Fo Ho B Lt) (n - 1)) q).natAbs : Int))) (K := 7470) pl (by omega) (fun y y0 y1 => by have a1 := hok.time (mk := mk) (n - 1) y (by omega) y0 (by omega); have a2 := hok.time (mk := mk) (n - 1) q (by omega) (by omega) (by omega); omega)
        have hap2 : apI ((tS pl ec mk Fo Ho B Lt) (n - 1)) pl q = smI (fun o => ((((tS pl ec mk Fo Ho B Lt) (n - 1)) o - ((tS pl ec mk Fo Ho B Lt) (n - 1)) q).natAbs : Int)) pl := rfl
        rw [← hap2] at hap
        refine S_istore X dX4_innermost_26 (nle rfl) ?_
        refine S_iload X dX4_innermost_28 rfl ?_
        refine S_iload_n X dX4_innermost_30 rfl hL7_2 ?_
        refine S_icmp_ge (tgt := 39) X dX4_innermost_31 (by decide) (by omega) (by omega) (fun c_7 => ?_) (fun c_7 => ?_)
        ·
          refine S_iinc X dX4_innermost_39 (nle rfl) hL7_3 ?_
          refine S_goto (tgt := 7) X dX4_innermost_42 (by decide) ?_
          exact ih7 (q + 1) be le _ (by omega) (in_step (by omega) hbe hap rfl (by omega) (by exact Or.inr ⟨rfl, rfl, by omega⟩)) hL7_0 hL7_1 hL7_2 rfl (by omega)
        ·
          refine S_iload X dX4_innermost_34 rfl ?_
          refine S_istore_n X dX4_innermost_36 rfl (nle rfl) ?_
          refine S_iload_n X dX4_innermost_37 rfl hL7_3 ?_
          refine S_istore_n X dX4_innermost_38 rfl (nle rfl) ?_
          refine S_iinc X dX4_innermost_39 (nle rfl) hL7_3 ?_
          refine S_goto (tgt := 7) X dX4_innermost_42 (by decide) ?_
          exact ih7 (q + 1) q (apI ((tS pl ec mk Fo Ho B Lt) (n - 1)) pl q) _ (by omega) (in_step (by omega) hbe hap rfl (by omega) (by exact Or.inl ⟨rfl, rfl, by omega⟩)) hL7_0 rfl rfl rfl (by omega)
  exact lp7_0 (Int.toNat (pl + 1 - 0) + 1) 0 0 1000000000 _ (by omega) (Or.inl ⟨rfl, rfl, rfl⟩) rfl rfl rfl rfl (by omega)
set_option maxHeartbeats 4000000 in
set_option maxRecDepth 100000 in
theorem kX4_firstChange (l : Launch) (fP : Nat → AV) (pl : Int) (n : Int) (ec : Int) (oP : Nat) (aA : Nat) (Ab : Int → Int) (B : Int → Int) (Fo : Int → Int) (Ho : Int → Int) (Lt : Int → Int) (q : Int) (v : Int) (hf0 : fP 0 = rv aA) (hf1 : fP 7 = iv n) (hok : okS pl n ec Fo Ho B Lt) (hA : reg Ab (bF ec Fo Ho B) pl n 0) (hq : 0 ≤ q ∧ q < pl) (hv : 1 ≤ v ∧ v ≤ 99) : AMi l yX4_firstChange cX4_firstChange 4 .int 1 0 0 [rv oP, iv q, iv v] [(oP, ob 4 fP), (aA, ar 1206 Ab)] (fun z u => z = srI (bF ec Fo Ho B) q v n ∧ u = [(oP, ob 4 fP), (aA, ar 1206 Ab)]) := by
  refine AMi.of2 rfl (nle rfl) ?_
  intro D G A p e s m args below meth c Po hPo X
  have hpl := hok.2.1
  have hpl1 := hok.1
  have hn1 := hok.2.2.1
  have hn2 := hok.2.2.2.1
  have hec := hok.2.2.2.2
  refine S_iconst X dX4_firstChange_0 ?_
  refine S_istore_n X dX4_firstChange_1 rfl (nle rfl) ?_
  have lp2_0 : ∀ (N : Nat) (b : Int) (L : Nat → Option AV), 1 ≤ b ∧ b ≤ n → fiI (fun b => decide (1 ≤ b ∧ v ≤ (((bF ec Fo Ho B) b q - (bF ec Fo Ho B) (b - 1) q).natAbs : Int))) b = -1 → L 0 = some (rv oP) → L 1 = some (iv q) → L 2 = some (iv v) → L 3 = some (iv b) → n + 1 - b < (N : Int) → S_ p l e (rmD 1 0 0) s m args below meth c (MQ below (QcI D G A Po) args s 0 0 A) D G A 4 0 0 2 L [] [(oP, ob 4 fP), (aA, ar 1206 Ab)] := by
    intro N
    induction N with
    | zero =>
      intro b L2 hb hfi hL2_0 hL2_1 hL2_2 hL2_3 hN2
      exfalso; omega
    | succ N ih2 =>
      intro b L2 hb hfi hL2_0 hL2_1 hL2_2 hL2_3 hN2
      refine S_iload_n X dX4_firstChange_2 rfl hL2_3 ?_
      refine S_aload_n X dX4_firstChange_3 rfl hL2_0 ?_
      refine S_get X fgX4_28_4 0 rfl hf1 dX4_firstChange_4 ?_
      refine S_icmp_ge (tgt := 46) X dX4_firstChange_7 (by decide) (by omega) (by omega) (fun c_1 => ?_) (fun c_1 => ?_)
      ·
        refine S_iconst X dX4_firstChange_46 ?_
        exact S_iret X (nle rfl) (nle rfl) dX4_firstChange_47 (hPo _ _ (⟨by unfold srI; have h9 := hfi; rw [show b = n by omega] at h9; exact h9.symm, rfl⟩))
      ·
        refine S_iload_n X dX4_firstChange_10 rfl hL2_3 ?_
        refine S_bipush X dX4_firstChange_11 rfl ?_
        refine S_icmp_ge (tgt := 46) X dX4_firstChange_13 (by decide) (by omega) (by decide) (fun c_2 => by exfalso; omega) (fun c_2 => ?_)
        have h1 := hA.at (z := b * 6 + q) (x := b) (y := q) (by omega) (by omega) (by omega) (by omega) (by omega)
        have h2 := hA.at (z := (b - 1) * 6 + q) (x := b - 1) (y := q) (by omega) (by omega) (by omega) (by omega) (by omega)
        have h3 := hok.beat b q (by omega) (by omega) (by omega)
        have h4 := hok.beat (b - 1) q (by omega) (by omega) (by omega)
        refine S_aload_n X dX4_firstChange_16 rfl hL2_0 ?_
        refine S_iload_n X dX4_firstChange_17 rfl hL2_1 ?_
        refine S_iload_n X dX4_firstChange_18 rfl hL2_3 ?_
        refine S_calli X (kX4_beatIn l fP oP aA Ab q b hf0 (by omega)) (is := [0, 1]) rfl (run_V X lkX4_112 0 rfl rfl (is := [0, 1]) (avs := [iv q, iv b]) (rest := []) rfl rfl (nle rfl) ⟨nle rfl, nle rfl⟩ ⟨nle rfl, nle rfl⟩ dX4_firstChange_19 (by decide) rfl) (fun z_5 u_3 hp_4 => ?_)
        obtain ⟨hz_6, hu_7⟩ := hp_4
        subst hz_6
        subst hu_7
        refine ⟨rfl, ?_⟩
        refine S_w (ws' := [(oP, ob 4 fP), (aA, ar 1206 Ab)]) rfl ?_
        refine S_aload_n X dX4_firstChange_22 rfl hL2_0 ?_
        refine S_iload_n X dX4_firstChange_23 rfl hL2_1 ?_
        refine S_iload_n X dX4_firstChange_24 rfl hL2_3 ?_
        refine S_iconst X dX4_firstChange_25 ?_
        refine S_isub X dX4_firstChange_26 ?_
        refine S_calli X (kX4_beatIn l fP oP aA Ab q (b - 1) hf0 (by omega)) (is := [0, 1]) rfl (run_V X lkX4_112 0 rfl rfl (is := [0, 1]) (avs := [iv q, iv (b - 1)]) (rest := [iv (Ab (b * 6 + q))]) rfl rfl (nle rfl) ⟨nle rfl, nle rfl⟩ ⟨nle rfl, nle rfl⟩ dX4_firstChange_27 (by decide) rfl) (fun z_10 u_8 hp_9 => ?_)
        obtain ⟨hz_11, hu_12⟩ := hp_9
        subst hz_11
        subst hu_12
        refine ⟨rfl, ?_⟩
        refine S_w (ws' := [(oP, ob 4 fP), (aA, ar 1206 Ab)]) rfl ?_
        refine S_isub X dX4_firstChange_30 ?_
        refine S_mabs X lkX4_109 rfl rfl (by omega) (nle rfl) (nle rfl) (nle rfl) (nle rfl) dX4_firstChange_31 ?_
        refine S_iload_n X dX4_firstChange_34 rfl hL2_2 ?_
        refine S_icmp_lt (tgt := 40) X dX4_firstChange_35 (by decide) (by omega) (by omega) (fun c_13 => ?_) (fun c_13 => ?_)
        ·
          refine S_iinc X dX4_firstChange_40 (nle rfl) hL2_3 ?_
          refine S_goto (tgt := 2) X dX4_firstChange_43 (by decide) ?_
          exact ih2 (b + 1) _ (by omega) (fiI_skip (by omega) hfi (decide_eq_false (by omega))) hL2_0 hL2_1 hL2_2 rfl (by omega)
        ·
          refine S_iload_n X dX4_firstChange_38 rfl hL2_3 ?_
          exact S_iret X (nle rfl) (nle rfl) dX4_firstChange_39 (hPo _ _ (⟨by unfold srI; exact (fiI_hit (by omega) hfi (decide_eq_true (by omega)) n (by omega) (by omega)).symm, rfl⟩))
  exact lp2_0 (Int.toNat (n + 1 - 1) + 1) 1 _ (by omega) (fiI_1 (decide_eq_false (by omega))) rfl rfl rfl rfl (by omega)
set_option maxHeartbeats 4000000 in
set_option maxRecDepth 100000 in
theorem kX4_soundsLike (l : Launch) (fP : Nat → AV) (pl : Int) (n : Int) (ec : Int) (oP : Nat) (aA : Nat) (Ab : Int → Int) (B : Int → Int) (Fo : Int → Int) (Ho : Int → Int) (Lt : Int → Int) (j : Int) (i : Int) (hf0 : fP 0 = rv aA) (hf1 : fP 6 = iv pl) (hok : okS pl n ec Fo Ho B Lt) (hA : reg Ab (bF ec Fo Ho B) pl (j + 1) 0) (hj : 1 ≤ j ∧ j ≤ 200) (hi : 0 ≤ i ∧ i < j) : AMi l yX4_soundsLike cX4_soundsLike 7 .boolean 1 0 0 [rv oP, iv j, iv i] [(oP, ob 4 fP), (aA, ar 1206 Ab)] (fun z u => (z = 0 ∧ u = [(oP, ob 4 fP), (aA, ar 1206 Ab)] ∧ ¬ lkR pl ec Fo Ho B i j) ∨ (z = 1 ∧ u = [(oP, ob 4 fP), (aA, ar 1206 Ab)] ∧ lkR pl ec Fo Ho B i j)) := by
  refine AMi.of2 rfl (nle rfl) ?_
  intro D G A p e s m args below meth c Po hPo X
  have hpl := hok.2.1
  have hpl1 := hok.1
  have hn1 := hok.2.2.1
  have hn2 := hok.2.2.2.1
  have hec := hok.2.2.2.2
  refine S_iconst X dX4_soundsLike_0 ?_
  refine S_istore_n X dX4_soundsLike_1 rfl (nle rfl) ?_
  have lp2_0 : ∀ (N : Nat) (k : Int) (L : Nat → Option AV), 0 ≤ k ∧ k ≤ 4 → (∀ x, 0 ≤ x → x < k → ∀ y, 0 ≤ y → y < pl → bF ec Fo Ho B (max 0 (i - x)) y = bF ec Fo Ho B (max 0 (j - x)) y) → L 0 = some (rv oP) → L 1 = some (iv j) → L 2 = some (iv i) → L 3 = some (iv k) → 5 - k < (N : Int) → S_ p l e (rmD 1 0 0) s m args below meth c (MQ below (QcI D G A Po) args s 0 0 A) D G A 7 0 0 2 L [] [(oP, ob 4 fP), (aA, ar 1206 Ab)] := by
    intro N
    induction N with
    | zero =>
      intro k L2 hk hlk hL2_0 hL2_1 hL2_2 hL2_3 hN2
      exfalso; omega
    | succ N ih2 =>
      intro k L2 hk hlk hL2_0 hL2_1 hL2_2 hL2_3 hN2
      refine S_iload_n X dX4_soundsLike_2 rfl hL2_3 ?_
      refine S_iconst X dX4_soundsLike_3 ?_
      refine S_icmp_gt (tgt := 80) X dX4_soundsLike_4 (by decide) (by omega) (by decide) (fun c_1 => ?_) (fun c_1 => ?_)
      ·
        refine S_iconst X dX4_soundsLike_80 ?_
        exact S_zret X (Or.inr rfl) (nle rfl) (nle rfl) dX4_soundsLike_81 (hPo _ _ (Or.inr ⟨rfl, rfl, fun x h0 h1 y h2 h3 => hlk x h0 (by omega) y h2 h3⟩))
      ·
        refine S_iload_n X dX4_soundsLike_7 rfl hL2_1 ?_
        refine S_iload_n X dX4_soundsLike_8 rfl hL2_3 ?_
        refine S_isub X dX4_soundsLike_9 ?_
        refine S_iconst X dX4_soundsLike_10 ?_
        refine S_mmax X lkX4_40 rfl rfl (by omega) (by decide) (nle rfl) (nle rfl) (nle rfl) (nle rfl) dX4_soundsLike_11 ?_
        refine S_bipush X dX4_soundsLike_14 rfl ?_
        refine S_imul X dX4_soundsLike_16 ?_
        refine S_istore X dX4_soundsLike_17 (nle rfl) ?_
        refine S_iload_n X dX4_soundsLike_19 rfl hL2_2 ?_
        refine S_iload_n X dX4_soundsLike_20 rfl hL2_3 ?_
        refine S_isub X dX4_soundsLike_21 ?_
        refine S_iconst X dX4_soundsLike_22 ?_
        refine S_mmax X lkX4_40 rfl rfl (by omega) (by decide) (nle rfl) (nle rfl) (nle rfl) (nle rfl) dX4_soundsLike_23 ?_
        refine S_bipush X dX4_soundsLike_26 rfl ?_
        refine S_imul X dX4_soundsLike_28 ?_
        refine S_istore X dX4_soundsLike_29 (nle rfl) ?_
        refine S_iconst X dX4_soundsLike_31 ?_
        refine S_istore X dX4_soundsLike_32 (nle rfl) ?_
        have lp34_3 : ∀ (N : Nat) (q : Int) (L : Nat → Option AV), 0 ≤ q ∧ q ≤ pl → (∀ y, 0 ≤ y → y < q → bF ec Fo Ho B (max 0 (i - k)) y = bF ec Fo Ho B (max 0 (j - k)) y) → L 0 = some (rv oP) → L 1 = some (iv j) → L 2 = some (iv i) → L 3 = some (iv k) → L 4 = some (iv ((max (j - k) 0) * 6)) → L 5 = some (iv ((max (i - k) 0) * 6)) → L 6 = some (iv q) → pl + 1 - q < (N : Int) → S_ p l e (rmD 1 0 0) s m args below meth c (MQ below (QcI D G A Po) args s 0 0 A) D G A 7 0 0 34 L [] [(oP, ob 4 fP), (aA, ar 1206 Ab)] := by
          intro N
          induction N with
          | zero =>
            intro q L34 hq hlq hL34_0 hL34_1 hL34_2 hL34_3 hL34_4 hL34_5 hL34_6 hN34
            exfalso; omega
          | succ N ih34 =>
            intro q L34 hq hlq hL34_0 hL34_1 hL34_2 hL34_3 hL34_4 hL34_5 hL34_6 hN34
            refine S_iload X dX4_soundsLike_34 hL34_6 ?_
            refine S_aload_n X dX4_soundsLike_36 rfl hL34_0 ?_
            refine S_get X fgX4_51_4 0 rfl hf1 dX4_soundsLike_37 ?_
            refine S_icmp_ge (tgt := 74) X dX4_soundsLike_40 (by decide) (by omega) (by omega) (fun c_2 => ?_) (fun c_2 => ?_)
            ·
              refine S_iinc X dX4_soundsLike_74 (nle rfl) hL34_3 ?_
              refine S_goto (tgt := 2) X dX4_soundsLike_77 (by decide) ?_
              exact ih2 (k + 1) _ (by omega) (fun x h0 h1 y h2 h3 => (by omega : x < k ∨ x = k).elim (fun q9 => hlk x h0 q9 y h2 h3) (fun q9 => by rw [q9]; exact hlq y h2 (by omega))) hL34_0 hL34_1 hL34_2 rfl (by omega)
            ·
              have h1 := hA.at (z := max (j - k) 0 * 6 + q) (x := max 0 (j - k)) (y := q) (by omega) (by omega) (by omega) (by omega) (by omega)
              have h2 := hA.at (z := max (i - k) 0 * 6 + q) (x := max 0 (i - k)) (y := q) (by omega) (by omega) (by omega) (by omega) (by omega)
              have h3 := hok.beat (max 0 (j - k)) q (by omega) (by omega) (by omega)
              have h4 := hok.beat (max 0 (i - k)) q (by omega) (by omega) (by omega)
              refine S_aload_n X dX4_soundsLike_43 rfl hL34_0 ?_
              refine S_get X fgX4_11_4 0 rfl hf0 dX4_soundsLike_44 ?_
              refine S_iload X dX4_soundsLike_47 hL34_4 ?_
              refine S_iload X dX4_soundsLike_49 hL34_6 ?_
              refine S_iadd X dX4_soundsLike_51 ?_
              refine S_iald X 1 rfl (by omega) (by omega) (nle rfl) dX4_soundsLike_52 ?_
              refine S_aload_n X dX4_soundsLike_53 rfl hL34_0 ?_
              refine S_get X fgX4_11_4 0 rfl hf0 dX4_soundsLike_54 ?_
              refine S_iload X dX4_soundsLike_57 hL34_5 ?_
              refine S_iload X dX4_soundsLike_59 hL34_6 ?_
              refine S_iadd X dX4_soundsLike_61 ?_
              refine S_iald X 1 rfl (by omega) (by omega) (nle rfl) dX4_soundsLike_62 ?_
              refine S_icmp_eq (tgt := 68) X dX4_soundsLike_63 (by decide) (by omega) (by omega) (fun c_3 => ?_) (fun c_3 => ?_)
              ·
                refine S_iinc X dX4_soundsLike_68 (nle rfl) hL34_6 ?_
                refine S_goto (tgt := 34) X dX4_soundsLike_71 (by decide) ?_
                exact ih34 (q + 1) _ (by omega) (fun y h0 h1 => (by omega : y < q ∨ y = q).elim (fun q9 => hlq y h0 q9) (fun q9 => by rw [q9]; omega)) hL34_0 hL34_1 hL34_2 hL34_3 hL34_4 hL34_5 rfl (by omega)
              ·
                refine S_iconst X dX4_soundsLike_66 ?_
                exact S_zret X (Or.inl rfl) (nle rfl) (nle rfl) dX4_soundsLike_67 (hPo _ _ (Or.inl ⟨rfl, rfl, fun h9 => by have := h9 k (by omega) (by omega) q (by omega) (by omega); omega⟩))
        exact lp34_3 (Int.toNat (pl + 1 - 0) + 1) 0 _ (by omega) (fun y h0 h1 => by omega) hL2_0 hL2_1 hL2_2 hL2_3 rfl rfl rfl (by omega)
  exact lp2_0 (Int.toNat (5 - 0) + 1) 0 _ (by omega) (fun x h0 h1 => by omega) rfl rfl rfl rfl (by omega)
set_option maxHeartbeats 4000000 in
set_option maxRecDepth 100000 in
theorem kX4_settles (l : Launch) (fP : Nat → AV) (fS : Nat → AV) (pl : Int) (n : Int) (ec : Int) (mk : Int) (oP : Nat) (oS : Nat) (aA : Nat) (aW : Nat) (aB : Nat) (aF : Nat) (aH : Nat) (Ab : Int → Int) (Wq : Int → Int) (B : Int → Int) (Fo : Int → Int) (Ho : Int → Int) (Lt : Int → Int) (p0 : Int) (n0 : Int) (k0 : Int) (s4 : Int) (s5 : Int) (hf0 : fP 0 = rv aA) (hf1 : fP 2 = rv aW) (hf2 : fS 0 = iv pl) (hf3 : fS 1 = iv n) (hf4 : fS 2 = iv ec) (hf5 : fS 3 = iv mk) (hf6 : fS 4 = rv aB) (hf7 : fS 5 = rv aF) (hf8 : fS 6 = rv aH) (hok : okS pl n ec Fo Ho B Lt) : AMi l yX4_settles cX4_settles 4 .boolean 2 0 0 [rv oP, rv oS] [(oP, ob 4 (uF (uF (uF (uF (uF fP 4 (iv s4)) 5 (iv s5)) 6 (iv p0)) 7 (iv n0)) 8 (iv k0))), (aA, ar 1206 Ab), (aW, ar 6 Wq), (oS, ob 5 fS), (aB, ar 6 B), (aF, ar 6 Fo), (aH, ar 6 Ho)] (fun z u => (∃ A2 : Int → Int, ∃ W2 : Int → Int, z = 0 ∧ u = [(oP, ob 4 (uF (uF (uF (uF (uF fP 4 (iv s4)) 5 (iv s5)) 6 (iv pl)) 7 (iv n)) 8 (iv mk))), (aA, ar 1206 A2), (aW, ar 6 W2), (oS, ob 5 fS), (aB, ar 6 B), (aF, ar 6 Fo), (aH, ar 6 Ho)] ∧ (∀ j, 1 ≤ j → j ≤ 200 → ∀ i, 0 ≤ i → i < j → ¬ lkR pl ec Fo Ho B i j)) ∨ (∃ A2 : Int → Int, ∃ W2 : Int → Int, ∃ i2 : Int, ∃ k2 : Int, z = 1 ∧ u = [(oP, ob 4 (uF (uF (uF (uF (uF fP 4 (iv i2)) 5 (iv k2)) 6 (iv pl)) 7 (iv n)) 8 (iv mk))), (aA, ar 1206 A2), (aW, ar 6 W2), (oS, ob 5 fS), (aB, ar 6 B), (aF, ar 6 Fo), (aH, ar 6 Ho)] ∧ (∃ j, 1 ≤ j ∧ j ≤ 200 ∧ 0 ≤ i2 ∧ i2 < j ∧ k2 = j - i2 ∧ lkR pl ec Fo Ho B i2 j ∧ (∀ x, 1 ≤ x → x < j → ∀ y, 0 ≤ y → y < x → ¬ lkR pl ec Fo Ho B y x) ∧ (∀ y, 0 ≤ y → y < i2 → ¬ lkR pl ec Fo Ho B y j)))) := by
  refine AMi.of2 rfl (nle rfl) ?_
  intro D G A p e s m args below meth c Po hPo X
  have hpl := hok.2.1
  have hpl1 := hok.1
  have hn1 := hok.2.2.1
  have hn2 := hok.2.2.2.1
  have hec := hok.2.2.2.2
  refine S_aload_n X dX4_settles_0 rfl rfl ?_
  refine S_aload_n X dX4_settles_1 rfl rfl ?_
  refine S_callv X (kX4_open l (uF (uF fP 4 (iv s4)) 5 (iv s5)) fS pl n mk oP oS aA aW aB Ab Wq B p0 n0 k0 hf0 hf1 hf2 hf3 hf5 hf6) (is := [0, 1, 2, 3, 4]) rfl (run_V X lkX4_24 0 rfl rfl (is := [0, 1, 2, 3, 4]) (avs := [rv oS]) (rest := []) rfl rfl (nle rfl) ⟨nle rfl, nle rfl⟩ ⟨nle rfl, nle rfl⟩ dX4_settles_2 (by decide) rfl) (fun u_1 hp_2 => ?_)
  obtain ⟨A2_4, W2_5, hu_7, hA2_8, hW2_9⟩ := hp_2
  subst hu_7
  refine ⟨rfl, ?_⟩
  refine S_w (ws' := [(oP, ob 4 (uF (uF (uF (uF (uF fP 4 (iv s4)) 5 (iv s5)) 6 (iv pl)) 7 (iv n)) 8 (iv mk))), (aA, ar 1206 A2_4), (aW, ar 6 W2_5), (oS, ob 5 fS), (aB, ar 6 B), (aF, ar 6 Fo), (aH, ar 6 Ho)]) rfl ?_
  have hA0 := hA2_8
  refine S_iconst X dX4_settles_5 ?_
  refine S_istore_n X dX4_settles_6 rfl (nle rfl) ?_
  have lp7_0 : ∀ (N : Nat) (j : Int) (Av : Int → Int) (L : Nat → Option AV), 1 ≤ j ∧ j ≤ 201 → reg Av (bF ec Fo Ho B) pl j 0 → (∀ x, 1 ≤ x → x < j → ∀ y, 0 ≤ y → y < x → ¬ lkR pl ec Fo Ho B y x) → L 0 = some (rv oP) → L 1 = some (rv oS) → L 2 = some (iv j) → 202 - j < (N : Int) → S_ p l e (rmD 2 0 0) s m args below meth c (MQ below (QcI D G A Po) args s 0 0 A) D G A 4 0 0 7 L [] [(oP, ob 4 (uF (uF (uF (uF (uF fP 4 (iv s4)) 5 (iv s5)) 6 (iv pl)) 7 (iv n)) 8 (iv mk))), (aA, ar 1206 Av), (aW, ar 6 W2_5), (oS, ob 5 fS), (aB, ar 6 B), (aF, ar 6 Fo), (aH, ar 6 Ho)] := by
    intro N
    induction N with
    | zero =>
      intro j Av L7 hj hA7 hnj hL7_0 hL7_1 hL7_2 hN7
      exfalso; omega
    | succ N ih7 =>
      intro j Av L7 hj hA7 hnj hL7_0 hL7_1 hL7_2 hN7
      refine S_iload_n X dX4_settles_7 rfl hL7_2 ?_
      refine S_sipush X dX4_settles_8 rfl ?_
      refine S_icmp_gt (tgt := 62) X dX4_settles_11 (by decide) (by omega) (by decide) (fun c_10 => ?_) (fun c_10 => ?_)
      ·
        refine S_iconst X dX4_settles_62 ?_
        exact S_zret X (Or.inl rfl) (nle rfl) (nle rfl) dX4_settles_63 (hPo _ _ (Or.inl ⟨_, _, rfl, rfl, fun x h0 h1 y h2 h3 => hnj x h0 (by omega) y h2 h3⟩))
      ·
        refine S_aload_n X dX4_settles_14 rfl hL7_0 ?_
        refine S_aload_n X dX4_settles_15 rfl hL7_1 ?_
        refine S_iload_n X dX4_settles_16 rfl hL7_2 ?_
        refine S_callv X (kX4_goOn l (uF (uF (uF (uF (uF fP 4 (iv s4)) 5 (iv s5)) 6 (iv pl)) 7 (iv n)) 8 (iv mk)) fS pl n ec oP oS aA aF aH Av B Fo Ho Lt j hf0 rfl hf4 hf7 hf8 (by omega) (by omega) hA7) (is := [0, 1, 3, 5, 6]) rfl (run_V X lkX4_32 0 rfl rfl (is := [0, 1, 3, 5, 6]) (avs := [rv oS, iv j]) (rest := []) rfl rfl (nle rfl) ⟨nle rfl, nle rfl⟩ ⟨nle rfl, nle rfl⟩ dX4_settles_17 (by decide) rfl) (fun u_11 hp_12 => ?_)
        obtain ⟨A2_14, hu_16, hA2_17⟩ := hp_12
        subst hu_16
        refine ⟨rfl, ?_⟩
        refine S_w (ws' := [(oP, ob 4 (uF (uF (uF (uF (uF fP 4 (iv s4)) 5 (iv s5)) 6 (iv pl)) 7 (iv n)) 8 (iv mk))), (aA, ar 1206 A2_14), (aW, ar 6 W2_5), (oS, ob 5 fS), (aB, ar 6 B), (aF, ar 6 Fo), (aH, ar 6 Ho)]) rfl ?_
        have hAg := hA2_17
        refine S_iconst X dX4_settles_20 ?_
        refine S_istore_n X dX4_settles_21 rfl (nle rfl) ?_
        have lp22_3 : ∀ (N : Nat) (i : Int) (L : Nat → Option AV), 0 ≤ i ∧ i ≤ j → (∀ y, 0 ≤ y → y < i → ¬ lkR pl ec Fo Ho B y j) → L 0 = some (rv oP) → L 1 = some (rv oS) → L 2 = some (iv j) → L 3 = some (iv i) → j + 1 - i < (N : Int) → S_ p l e (rmD 2 0 0) s m args below meth c (MQ below (QcI D G A Po) args s 0 0 A) D G A 4 0 0 22 L [] [(oP, ob 4 (uF (uF (uF (uF (uF fP 4 (iv s4)) 5 (iv s5)) 6 (iv pl)) 7 (iv n)) 8 (iv mk))), (aA, ar 1206 A2_14), (aW, ar 6 W2_5), (oS, ob 5 fS), (aB, ar 6 B), (aF, ar 6 Fo), (aH, ar 6 Ho)] := by
          intro N
          induction N with
          | zero =>
            intro i L22 hi hni hL22_0 hL22_1 hL22_2 hL22_3 hN22
            exfalso; omega
          | succ N ih22 =>
            intro i L22 hi hni hL22_0 hL22_1 hL22_2 hL22_3 hN22
            refine S_iload_n X dX4_settles_22 rfl hL22_3 ?_
            refine S_iload_n X dX4_settles_23 rfl hL22_2 ?_
            refine S_icmp_ge (tgt := 56) X dX4_settles_24 (by decide) (by omega) (by omega) (fun c_18 => ?_) (fun c_18 => ?_)
            ·
              refine S_iinc X dX4_settles_56 (nle rfl) hL22_2 ?_
              refine S_goto (tgt := 7) X dX4_settles_59 (by decide) ?_
              exact ih7 (j + 1) A2_14 _ (by omega) (hAg) (fun x h0 h1 y h2 h3 => (by omega : x < j ∨ x = j).elim (fun q9 => hnj x h0 q9 y h2 h3) (fun q9 => by rw [q9]; exact hni y h2 (by omega))) hL22_0 hL22_1 rfl (by omega)
            ·
              refine S_aload_n X dX4_settles_27 rfl hL22_0 ?_
              refine S_iload_n X dX4_settles_28 rfl hL22_2 ?_
              refine S_iload_n X dX4_settles_29 rfl hL22_3 ?_
              refine S_calli X (kX4_soundsLike l (uF (uF (uF (uF (uF fP 4 (iv s4)) 5 (iv s5)) 6 (iv pl)) 7 (iv n)) 8 (iv mk)) pl n ec oP aA A2_14 B Fo Ho Lt j i hf0 rfl (by omega) hAg (by omega) (by omega)) (is := [0, 1]) rfl (run_V X lkX4_115 0 rfl rfl (is := [0, 1]) (avs := [iv j, iv i]) (rest := []) rfl rfl (nle rfl) ⟨nle rfl, nle rfl⟩ ⟨nle rfl, nle rfl⟩ dX4_settles_30 (by decide) rfl) (fun z_21 u_19 hp_20 => ?_)
              rcases hp_20 with ⟨hz_22, hu_23, hl_24⟩ | ⟨hz_25, hu_26, hl_27⟩
              ·
                subst hz_22
                subst hu_23
                refine ⟨rfl, ?_⟩
                refine S_w (ws' := [(oP, ob 4 (uF (uF (uF (uF (uF fP 4 (iv s4)) 5 (iv s5)) 6 (iv pl)) 7 (iv n)) 8 (iv mk))), (aA, ar 1206 A2_14), (aW, ar 6 W2_5), (oS, ob 5 fS), (aB, ar 6 B), (aF, ar 6 Fo), (aH, ar 6 Ho)]) rfl ?_
                have hlk9 := hl_24
                refine S_if_eq (tgt := 50) X dX4_settles_33 (by decide) (by decide) (fun _ => ?_) (fun h9 => absurd h9 (by decide))
                refine S_iinc X dX4_settles_50 (nle rfl) hL22_3 ?_
                refine S_goto (tgt := 22) X dX4_settles_53 (by decide) ?_
                exact ih22 (i + 1) _ (by omega) (fun y h0 h1 => (by omega : y < i ∨ y = i).elim (fun q9 => hni y h0 q9) (fun q9 => by rw [q9]; exact hlk9)) hL22_0 hL22_1 hL22_2 rfl (by omega)
              ·
                subst hz_25
                subst hu_26
                refine ⟨rfl, ?_⟩
                refine S_w (ws' := [(oP, ob 4 (uF (uF (uF (uF (uF fP 4 (iv s4)) 5 (iv s5)) 6 (iv pl)) 7 (iv n)) 8 (iv mk))), (aA, ar 1206 A2_14), (aW, ar 6 W2_5), (oS, ob 5 fS), (aB, ar 6 B), (aF, ar 6 Fo), (aH, ar 6 Ho)]) rfl ?_
                have hlk9 := hl_27
                refine S_if_eq (tgt := 50) X dX4_settles_33 (by decide) (by decide) (fun h9 => absurd h9 (by decide)) (fun _ => ?_)
                refine S_aload_n X dX4_settles_36 rfl hL22_0 ?_
                refine S_iload_n X dX4_settles_37 rfl hL22_3 ?_
                refine S_put X fpX4_119_4 0 rfl FT_i dX4_settles_38 ?_
                refine S_w (ws' := [(oP, ob 4 (uF (uF (uF (uF (uF fP 4 (iv i)) 5 (iv s5)) 6 (iv pl)) 7 (iv n)) 8 (iv mk))), (aA, ar 1206 A2_14), (aW, ar 6 W2_5), (oS, ob 5 fS), (aB, ar 6 B), (aF, ar 6 Fo), (aH, ar 6 Ho)]) (by simp only [List.set]; rw [uF_mv (j := 8) (k := 4) (by decide), uF_mv (j := 7) (k := 4) (by decide), uF_mv (j := 6) (k := 4) (by decide), uF_mv (j := 5) (k := 4) (by decide), uF_same (k := 4)]) ?_
                refine S_aload_n X dX4_settles_41 rfl hL22_0 ?_
                refine S_iload_n X dX4_settles_42 rfl hL22_2 ?_
                refine S_iload_n X dX4_settles_43 rfl hL22_3 ?_
                refine S_isub X dX4_settles_44 ?_
                refine S_put X fpX4_122_4 0 rfl FT_i dX4_settles_45 ?_
                refine S_w (ws' := [(oP, ob 4 (uF (uF (uF (uF (uF fP 4 (iv i)) 5 (iv (j - i))) 6 (iv pl)) 7 (iv n)) 8 (iv mk))), (aA, ar 1206 A2_14), (aW, ar 6 W2_5), (oS, ob 5 fS), (aB, ar 6 B), (aF, ar 6 Fo), (aH, ar 6 Ho)]) (by simp only [List.set]; rw [uF_mv (j := 8) (k := 5) (by decide), uF_mv (j := 7) (k := 5) (by decide), uF_mv (j := 6) (k := 5) (by decide), uF_same (k := 5)]) ?_
                refine S_iconst X dX4_settles_48 ?_
                exact S_zret X (Or.inr rfl) (nle rfl) (nle rfl) dX4_settles_49 (hPo _ _ (Or.inr ⟨_, _, _, _, rfl, rfl, j, by omega, by omega, by omega, by omega, rfl, hlk9, hnj, hni⟩))
        exact lp22_3 (Int.toNat (j + 1 - 0) + 1) 0 _ (by omega) (fun y h0 h1 => by omega) hL7_0 hL7_1 hL7_2 rfl (by omega)
  exact lp7_0 (Int.toNat (202 - 1) + 1) 1 A2_4 _ (by omega) (pf_o1 hA0) (fun x h0 h1 => by omega) rfl rfl rfl (by omega)
