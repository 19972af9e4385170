/- 67.cf1.lean.txt -/
section pt_67cf1
theorem rk_in {g : Int → Int} {pl p : Int} (h : 0 ≤ p ∧ p < pl) : 0 ≤ rkI g pl p ∧ rkI g pl p < pl := by
  have key : ∀ q, 0 ≤ q → smI (fun o => if g o < g p ∨ g p = g o ∧ o < p then 1 else 0) q + (if p < q then 1 else 0) ≤ q := by
    refine upI (by rw [smI_0, if_neg (by omega)]; omega) (fun q hq ih => ?_)
    rw [smI_S hq]
    by_cases e : p = q
    · subst e
      rw [if_neg (by omega), if_pos (by omega)]
      rw [if_neg (by omega)] at ih
      omega
    · by_cases e2 : p < q
      · rw [if_pos e2] at ih
        rw [if_pos (show p < q + 1 by omega)]
        split <;> omega
      · rw [if_neg e2] at ih
        rw [if_neg (show ¬ p < q + 1 by omega)]
        split <;> omega
  have h1 := key pl (by omega)
  rw [if_pos h.2] at h1
  have h2 := sm01 (rk01 (g := g) (p := p)) pl (by omega)
  unfold rkI
  omega
theorem cplace_no {pl n ec mk b i : Int} {Fo Ho B0 Lt : Int → Int} (h0 : 0 ≤ pl) (h : ¬ (1 ≤ pl ∧ 0 ≤ b ∧ b < n) ∨ i < 0 ∨ pl ≤ i) : -1 = aPlace pl n ec mk Fo Ho B0 Lt b i := by
  unfold aPlace
  split
  · have key : ∀ p, 0 ≤ p → p ≤ pl → fiI (fun p => decide (rkI (tS pl ec mk Fo Ho B0 Lt b) pl p = i)) p = -1 := by
      refine upI (fun _ => rfl) (fun p hp ih hp2 => ?_)
      have h3 := rk_in (g := tS pl ec mk Fo Ho B0 Lt b) (pl := pl) (p := p) ⟨hp, by omega⟩
      exact fiI_skip hp (ih (by omega)) (decide_eq_false (by omega))
    exact (key pl h0 (Int.le_refl _)).symm
  · rfl
set_option maxHeartbeats 4000000 in
set_option maxRecDepth 100000 in
theorem kX11_isPlayer (l : Launch) (h0 : Nat) (f : Nat → AV) (oW : Nat) (fW : Nat → AV) (pl : Int) (q : Int) (hf0 : f 3 = rv oW) (hf1 : fW 0 = iv pl) (hpl : 0 ≤ pl ∧ pl ≤ 6) (hq : inR q) : AMi l yX11_isPlayer cX11_isPlayer 2 .boolean 0 0 0 [rv h0, iv q] [(h0, ob 10 f), (oW, ob 7 fW)] (fun z u => (z = 0 ∧ u = [(h0, ob 10 f), (oW, ob 7 fW)] ∧ (q < 0 ∨ pl ≤ q)) ∨ (z = 1 ∧ u = [(h0, ob 10 f), (oW, ob 7 fW)] ∧ (0 ≤ q ∧ q < pl))) := by
  refine AMi.of2 rfl (nle rfl) ?_
  intro D G A p e s m args below meth c Po hPo X
  refine S_iload_n X dX11_isPlayer_0 rfl rfl ?_
  refine S_if_lt (tgt := 19) X dX11_isPlayer_1 (by decide) (by omega) (fun c_1 => ?_) (fun c_1 => ?_)
  ·
    refine S_iconst X dX11_isPlayer_19 ?_
    exact S_zret X (Or.inl rfl) (nle rfl) (nle rfl) dX11_isPlayer_20 (hPo _ _ (Or.inl (⟨by first | rfl | omega, rfl, by first | rfl | assumption | omega⟩)))
  ·
    refine S_iload_n X dX11_isPlayer_4 rfl rfl ?_
    refine S_aload_n X dX11_isPlayer_5 rfl rfl ?_
    refine S_get X fgX11_35_10 0 rfl hf0 dX11_isPlayer_6 ?_
    refine S_get X fgX11_115_7 1 rfl hf1 dX11_isPlayer_9 ?_
    refine S_icmp_ge (tgt := 19) X dX11_isPlayer_12 (by decide) (by omega) (by omega) (fun c_2 => ?_) (fun c_2 => ?_)
    ·
      refine S_iconst X dX11_isPlayer_19 ?_
      exact S_zret X (Or.inl rfl) (nle rfl) (nle rfl) dX11_isPlayer_20 (hPo _ _ (Or.inl (⟨by first | rfl | omega, rfl, by first | rfl | assumption | omega⟩)))
    ·
      refine S_iconst X dX11_isPlayer_15 ?_
      refine S_goto (tgt := 20) X dX11_isPlayer_16 (by decide) ?_
      exact S_zret X (Or.inr rfl) (nle rfl) (nle rfl) dX11_isPlayer_20 (hPo _ _ (Or.inr (⟨by first | rfl | omega, rfl, by first | rfl | assumption | omega⟩)))
set_option maxHeartbeats 4000000 in
set_option maxRecDepth 100000 in
theorem kX11_isBar (l : Launch) (h0 : Nat) (f : Nat → AV) (oW : Nat) (fW : Nat → AV) (fS : Nat → AV) (pl : Int) (n : Int) (oS : Nat) (b : Int) (hf0 : f 3 = rv oW) (hf1 : f 7 = rv oS) (hf2 : fW 0 = iv pl) (hf3 : fS 1 = iv n) (hpl : 0 ≤ pl ∧ pl ≤ 6) (hn : 1 ≤ n ∧ n ≤ 30) (hb : inR b) : AMi l yX11_isBar cX11_isBar 2 .boolean 0 0 0 [rv h0, iv b] [(h0, ob 10 f), (oW, ob 7 fW), (oS, ob 5 fS)] (fun z u => (z = 0 ∧ u = [(h0, ob 10 f), (oW, ob 7 fW), (oS, ob 5 fS)] ∧ (pl = 0 ∨ b < 0 ∨ n ≤ b)) ∨ (z = 1 ∧ u = [(h0, ob 10 f), (oW, ob 7 fW), (oS, ob 5 fS)] ∧ (0 < pl ∧ 0 ≤ b ∧ b < n))) := by
  refine AMi.of2 rfl (nle rfl) ?_
  intro D G A p e s m args below meth c Po hPo X
  refine S_aload_n X dX11_isBar_0 rfl rfl ?_
  refine S_get X fgX11_35_10 0 rfl hf0 dX11_isBar_1 ?_
  refine S_get X fgX11_115_7 1 rfl hf2 dX11_isBar_4 ?_
  refine S_if_le (tgt := 29) X dX11_isBar_7 (by decide) (by omega) (fun c_1 => ?_) (fun c_1 => ?_)
  ·
    refine S_iconst X dX11_isBar_29 ?_
    exact S_zret X (Or.inl rfl) (nle rfl) (nle rfl) dX11_isBar_30 (hPo _ _ (Or.inl (⟨by first | rfl | omega, rfl, by first | rfl | assumption | omega⟩)))
  ·
    refine S_iload_n X dX11_isBar_10 rfl rfl ?_
    refine S_if_lt (tgt := 29) X dX11_isBar_11 (by decide) (by omega) (fun c_2 => ?_) (fun c_2 => ?_)
    ·
      refine S_iconst X dX11_isBar_29 ?_
      exact S_zret X (Or.inl rfl) (nle rfl) (nle rfl) dX11_isBar_30 (hPo _ _ (Or.inl (⟨by first | rfl | omega, rfl, by first | rfl | assumption | omega⟩)))
    ·
      refine S_iload_n X dX11_isBar_14 rfl rfl ?_
      refine S_aload_n X dX11_isBar_15 rfl rfl ?_
      refine S_get X fgX11_59_10 0 rfl hf1 dX11_isBar_16 ?_
      refine S_get X fgX11_182_5 2 rfl hf3 dX11_isBar_19 ?_
      refine S_icmp_ge (tgt := 29) X dX11_isBar_22 (by decide) (by omega) (by omega) (fun c_3 => ?_) (fun c_3 => ?_)
      ·
        refine S_iconst X dX11_isBar_29 ?_
        exact S_zret X (Or.inl rfl) (nle rfl) (nle rfl) dX11_isBar_30 (hPo _ _ (Or.inl (⟨by first | rfl | omega, rfl, by first | rfl | assumption | omega⟩)))
      ·
        refine S_iconst X dX11_isBar_25 ?_
        refine S_goto (tgt := 30) X dX11_isBar_26 (by decide) ?_
        exact S_zret X (Or.inr rfl) (nle rfl) (nle rfl) dX11_isBar_30 (hPo _ _ (Or.inr (⟨by first | rfl | omega, rfl, by first | rfl | assumption | omega⟩)))
set_option maxHeartbeats 4000000 in
set_option maxRecDepth 100000 in
theorem kX11_isOneOfTwo (l : Launch) (h0 : Nat) (f : Nat → AV) (oW : Nat) (fW : Nat → AV) (pl : Int) (v : Int) (hf0 : f 3 = rv oW) (hf1 : fW 0 = iv pl) (hpl : 0 ≤ pl ∧ pl ≤ 6) (hv : inR v) : AMi l yX11_isOneOfTwo cX11_isOneOfTwo 2 .boolean 0 0 0 [rv h0, iv v] [(h0, ob 10 f), (oW, ob 7 fW)] (fun z u => (z = 0 ∧ u = [(h0, ob 10 f), (oW, ob 7 fW)] ∧ (pl = 0 ∨ (v ≠ 0 ∧ v ≠ 1))) ∨ (z = 1 ∧ u = [(h0, ob 10 f), (oW, ob 7 fW)] ∧ (0 < pl ∧ (v = 0 ∨ v = 1)))) := by
  refine AMi.of2 rfl (nle rfl) ?_
  intro D G A p e s m args below meth c Po hPo X
  refine S_aload_n X dX11_isOneOfTwo_0 rfl rfl ?_
  refine S_get X fgX11_35_10 0 rfl hf0 dX11_isOneOfTwo_1 ?_
  refine S_get X fgX11_115_7 1 rfl hf1 dX11_isOneOfTwo_4 ?_
  refine S_if_le (tgt := 23) X dX11_isOneOfTwo_7 (by decide) (by omega) (fun c_1 => ?_) (fun c_1 => ?_)
  ·
    refine S_iconst X dX11_isOneOfTwo_23 ?_
    exact S_zret X (Or.inl rfl) (nle rfl) (nle rfl) dX11_isOneOfTwo_24 (hPo _ _ (Or.inl (⟨by first | rfl | omega, rfl, by first | rfl | assumption | omega⟩)))
  ·
    refine S_iload_n X dX11_isOneOfTwo_10 rfl rfl ?_
    refine S_if_eq (tgt := 19) X dX11_isOneOfTwo_11 (by decide) (by omega) (fun c_2 => ?_) (fun c_2 => ?_)
    ·
      refine S_iconst X dX11_isOneOfTwo_19 ?_
      refine S_goto (tgt := 24) X dX11_isOneOfTwo_20 (by decide) ?_
      exact S_zret X (Or.inr rfl) (nle rfl) (nle rfl) dX11_isOneOfTwo_24 (hPo _ _ (Or.inr (⟨by first | rfl | omega, rfl, by first | rfl | assumption | omega⟩)))
    ·
      refine S_iload_n X dX11_isOneOfTwo_14 rfl rfl ?_
      refine S_iconst X dX11_isOneOfTwo_15 ?_
      refine S_icmp_ne (tgt := 23) X dX11_isOneOfTwo_16 (by decide) (by omega) (by decide) (fun c_3 => ?_) (fun c_3 => ?_)
      ·
        refine S_iconst X dX11_isOneOfTwo_23 ?_
        exact S_zret X (Or.inl rfl) (nle rfl) (nle rfl) dX11_isOneOfTwo_24 (hPo _ _ (Or.inl (⟨by first | rfl | omega, rfl, by first | rfl | assumption | omega⟩)))
      ·
        refine S_iconst X dX11_isOneOfTwo_19 ?_
        refine S_goto (tgt := 24) X dX11_isOneOfTwo_20 (by decide) ?_
        exact S_zret X (Or.inr rfl) (nle rfl) (nle rfl) dX11_isOneOfTwo_24 (hPo _ _ (Or.inr (⟨by first | rfl | omega, rfl, by first | rfl | assumption | omega⟩)))
set_option maxHeartbeats 4000000 in
set_option maxRecDepth 100000 in
theorem kX4_performE (l : Launch) (fP : Nat → AV) (fS : Nat → AV) (pl : Int) (n : Int) (ec : Int) (mk : Int) (oP : Nat) (oS : Nat) (aA : Nat) (aT : Nat) (aW : Nat) (aS : Nat) (aB : Nat) (aF : Nat) (aH : Nat) (aL : Nat) (Ab : Int → Int) (Tm : Int → Int) (Wq : Int → Int) (Sp : Int → Int) (B : Int → Int) (Fo : Int → Int) (Ho : Int → Int) (Lt : Int → Int) (p0 : Int) (n0 : Int) (k0 : Int) (hf0 : fP 0 = rv aA) (hf1 : fP 1 = rv aT) (hf2 : fP 2 = rv aW) (hf3 : fP 3 = rv aS) (hf4 : fS 0 = iv pl) (hf5 : fS 1 = iv n) (hf6 : fS 2 = iv ec) (hf7 : fS 3 = iv mk) (hf8 : fS 4 = rv aB) (hf9 : fS 5 = rv aF) (hf10 : fS 6 = rv aH) (hf11 : fS 7 = rv aL) (hok : okS pl n ec Fo Ho B Lt) : AMi l yX4_perform cX4_perform 6 .int 2 0 0 [rv oP, rv oS, iv 1000000000] [(oP, ob 4 (uF (uF (uF fP 6 (iv p0)) 7 (iv n0)) 8 (iv k0))), (aA, ar 1206 Ab), (aT, ar 180 Tm), (aW, ar 6 Wq), (aS, ar 30 Sp), (oS, ob 5 fS), (aB, ar 6 B), (aF, ar 6 Fo), (aH, ar 6 Ho), (aL, ar 6 Lt)] (fun z u => ∃ A2 : Int → Int, ∃ T2 : Int → Int, ∃ W2 : Int → Int, ∃ S2 : Int → Int, z = WO pl n ec mk Fo Ho B Lt ∧ u = [(oP, ob 4 (uF (uF (uF fP 6 (iv pl)) 7 (iv n)) 8 (iv mk))), (aA, ar 1206 A2), (aT, ar 180 T2), (aW, ar 6 W2), (aS, ar 30 S2), (oS, ob 5 fS), (aB, ar 6 B), (aF, ar 6 Fo), (aH, ar 6 Ho), (aL, ar 6 Lt)] ∧ (WO pl n ec mk Fo Ho B Lt < 1000000000 ∨ n = 0) ∧ reg A2 (bF ec Fo Ho B) pl n 0 ∧ reg T2 (tS pl ec mk Fo Ho B Lt) pl n 0 ∧ (∀ x, 0 ≤ x → x < n → S2 x = (sS pl ec mk Fo Ho B Lt) x)) := by
  exact AMi.weaken (kX4_perform l fP fS pl n ec mk oP oS aA aT aW aS aB aF aH aL Ab Tm Wq Sp B Fo Ho Lt p0 n0 k0 1000000000 hf0 hf1 hf2 hf3 hf4 hf5 hf6 hf7 hf8 hf9 hf10 hf11 hok (by decide)) (fun z u h => h.elim (fun h9 => by exfalso; obtain ⟨_, _, _, _, _, _, h8⟩ := h9; have := hok.worst (mk := mk); omega) id)
set_option maxHeartbeats 4000000 in
set_option maxRecDepth 100000 in
theorem kX11_time (l : Launch) (h0 : Nat) (f : Nat → AV) (oW : Nat) (fW : Nat → AV) (fP : Nat → AV) (fS : Nat → AV) (pl : Int) (n : Int) (ec : Int) (mk : Int) (oP : Nat) (oS : Nat) (aA : Nat) (aT : Nat) (aW : Nat) (aS : Nat) (aB : Nat) (aF : Nat) (aH : Nat) (aL : Nat) (Ab : Int → Int) (Tm : Int → Int) (Wq : Int → Int) (Sp : Int → Int) (B : Int → Int) (Fo : Int → Int) (Ho : Int → Int) (Lt : Int → Int) (p0 : Int) (n0 : Int) (k0 : Int) (q : Int) (b : Int) (v : Int) (hf0 : f 3 = rv oW) (hf1 : f 7 = rv oS) (hf2 : f 9 = rv oP) (hf3 : fW 0 = iv pl) (hf4 : fP 0 = rv aA) (hf5 : fP 1 = rv aT) (hf6 : fP 2 = rv aW) (hf7 : fP 3 = rv aS) (hf8 : fS 0 = iv pl) (hf9 : fS 1 = iv n) (hf10 : fS 2 = iv ec) (hf11 : fS 3 = iv mk) (hf12 : fS 4 = rv aB) (hf13 : fS 5 = rv aF) (hf14 : fS 6 = rv aH) (hf15 : fS 7 = rv aL) (hz : okZ pl n ec Fo Ho B Lt) (hx_q : inR q) (hx_b : inR b) (hx_v : inR v) : AMi l yX11_time cX11_time 4 .int 4 0 0 [rv h0, iv q, iv b, iv v] [(h0, ob 10 f), (oW, ob 7 fW), (oP, ob 4 (uF (uF (uF fP 6 (iv p0)) 7 (iv n0)) 8 (iv k0))), (aA, ar 1206 Ab), (aT, ar 180 Tm), (aW, ar 6 Wq), (aS, ar 30 Sp), (oS, ob 5 fS), (aB, ar 6 B), (aF, ar 6 Fo), (aH, ar 6 Ho), (aL, ar 6 Lt)] (fun z u => ∃ p9 : Int, ∃ n9 : Int, ∃ k9 : Int, ∃ A2 : Int → Int, ∃ T2 : Int → Int, ∃ W2 : Int → Int, ∃ S2 : Int → Int, z = aTime pl n ec mk Fo Ho B Lt q b v ∧ u = [(h0, ob 10 f), (oW, ob 7 fW), (oP, ob 4 (uF (uF (uF fP 6 (iv p9)) 7 (iv n9)) 8 (iv k9))), (aA, ar 1206 A2), (aT, ar 180 T2), (aW, ar 6 W2), (aS, ar 30 S2), (oS, ob 5 fS), (aB, ar 6 B), (aF, ar 6 Fo), (aH, ar 6 Ho), (aL, ar 6 Lt)]) := by
  refine AMi.of2 rfl (nle rfl) ?_
  intro D G A p e s m args below meth c Po hPo X
  have hz6 := hz.2.1
  have hz0 := hz.1
  have hzn := hz.2.2.1
  have hzm := hz.2.2.2.1
  have hze := hz.2.2.2.2
  refine S_aload_n X dX11_time_0 rfl rfl ?_
  refine S_iload_n X dX11_time_1 rfl rfl ?_
  refine S_calli X (kX11_isPlayer l h0 f oW fW pl q hf0 hf3 (by omega) (by omega)) (is := [0, 1]) rfl (run_V X lkX11_147 0 rfl rfl (is := [0, 1]) (avs := [iv q]) (rest := []) rfl rfl (nle rfl) ⟨nle rfl, nle rfl⟩ ⟨nle rfl, nle rfl⟩ dX11_time_2 (by decide) rfl) (fun z_3 u_1 hp_2 => ?_)
  rcases hp_2 with ⟨hz_4, hu_5, hp_6⟩ | ⟨hz_7, hu_8, hp_9⟩
  ·
    subst hz_4
    subst hu_5
    refine ⟨rfl, ?_⟩
    refine S_w (ws' := [(h0, ob 10 f), (oW, ob 7 fW), (oP, ob 4 (uF (uF (uF fP 6 (iv p0)) 7 (iv n0)) 8 (iv k0))), (aA, ar 1206 Ab), (aT, ar 180 Tm), (aW, ar 6 Wq), (aS, ar 30 Sp), (oS, ob 5 fS), (aB, ar 6 B), (aF, ar 6 Fo), (aH, ar 6 Ho), (aL, ar 6 Lt)]) rfl ?_
    refine S_if_eq (tgt := 16) X dX11_time_5 (by decide) (by decide) (fun _ => ?_) (fun h9 => absurd h9 (by decide))
    refine S_iconst X dX11_time_16 ?_
    exact S_iret X (nle rfl) (nle rfl) dX11_time_17 (hPo _ _ (⟨_, _, _, _, _, _, _, by unfold aTime; rw [if_neg (by omega)], rfl⟩))
  ·
    subst hz_7
    subst hu_8
    refine ⟨rfl, ?_⟩
    refine S_w (ws' := [(h0, ob 10 f), (oW, ob 7 fW), (oP, ob 4 (uF (uF (uF fP 6 (iv p0)) 7 (iv n0)) 8 (iv k0))), (aA, ar 1206 Ab), (aT, ar 180 Tm), (aW, ar 6 Wq), (aS, ar 30 Sp), (oS, ob 5 fS), (aB, ar 6 B), (aF, ar 6 Fo), (aH, ar 6 Ho), (aL, ar 6 Lt)]) rfl ?_
    refine S_if_eq (tgt := 16) X dX11_time_5 (by decide) (by decide) (fun h9 => absurd h9 (by decide)) (fun _ => ?_)
    refine S_aload_n X dX11_time_8 rfl rfl ?_
    refine S_iload_n X dX11_time_9 rfl rfl ?_
    refine S_calli X (kX11_isBar l h0 f oW fW fS pl n oS b hf0 hf1 hf3 hf9 (by omega) (by omega) (by omega)) (is := [0, 1, 7]) rfl (run_V X lkX11_231 0 rfl rfl (is := [0, 1, 7]) (avs := [iv b]) (rest := []) rfl rfl (nle rfl) ⟨nle rfl, nle rfl⟩ ⟨nle rfl, nle rfl⟩ dX11_time_10 (by decide) rfl) (fun z_14 u_12 hp_13 => ?_)
    rcases hp_13 with ⟨hz_15, hu_16, hp_17⟩ | ⟨hz_18, hu_19, hp_20⟩
    ·
      subst hz_15
      subst hu_16
      refine ⟨rfl, ?_⟩
      refine S_w (ws' := [(h0, ob 10 f), (oW, ob 7 fW), (oP, ob 4 (uF (uF (uF fP 6 (iv p0)) 7 (iv n0)) 8 (iv k0))), (aA, ar 1206 Ab), (aT, ar 180 Tm), (aW, ar 6 Wq), (aS, ar 30 Sp), (oS, ob 5 fS), (aB, ar 6 B), (aF, ar 6 Fo), (aH, ar 6 Ho), (aL, ar 6 Lt)]) rfl ?_
      refine S_if_ne (tgt := 18) X dX11_time_13 (by decide) (by decide) (fun h9 => absurd h9 (by decide)) (fun _ => ?_)
      refine S_iconst X dX11_time_16 ?_
      exact S_iret X (nle rfl) (nle rfl) dX11_time_17 (hPo _ _ (⟨_, _, _, _, _, _, _, by unfold aTime; rw [if_neg (by omega)], rfl⟩))
    ·
      subst hz_18
      subst hu_19
      refine ⟨rfl, ?_⟩
      refine S_w (ws' := [(h0, ob 10 f), (oW, ob 7 fW), (oP, ob 4 (uF (uF (uF fP 6 (iv p0)) 7 (iv n0)) 8 (iv k0))), (aA, ar 1206 Ab), (aT, ar 180 Tm), (aW, ar 6 Wq), (aS, ar 30 Sp), (oS, ob 5 fS), (aB, ar 6 B), (aF, ar 6 Fo), (aH, ar 6 Ho), (aL, ar 6 Lt)]) rfl ?_
      refine S_if_ne (tgt := 18) X dX11_time_13 (by decide) (by decide) (fun _ => ?_) (fun h9 => absurd h9 (by decide))
      have hok := hz.s (by omega)
      have hpl := hok.2.1
      have hpl1 := hok.1
      have hn1 := hok.2.2.1
      have hn2 := hok.2.2.2.1
      have hec := hok.2.2.2.2
      refine S_aload_n X dX11_time_18 rfl rfl ?_
      refine S_get X fgX11_69_10 0 rfl hf2 dX11_time_19 ?_
      refine S_aload_n X dX11_time_22 rfl rfl ?_
      refine S_get X fgX11_59_10 0 rfl hf1 dX11_time_23 ?_
      refine S_ldc (n := 1000000000) X m813 dX11_time_26 ?_
      refine S_calli X (kX4_performE l fP fS pl n ec mk oP oS aA aT aW aS aB aF aH aL Ab Tm Wq Sp B Fo Ho Lt p0 n0 k0 hf4 hf5 hf6 hf7 hf8 hf9 hf10 hf11 hf12 hf13 hf14 hf15 (by omega)) (is := [2, 3, 4, 5, 6, 7, 8, 9, 10, 11]) rfl (run_V X lkX11_235 2 rfl rfl (is := [2, 3, 4, 5, 6, 7, 8, 9, 10, 11]) (avs := [rv oS, iv 1000000000]) (rest := []) rfl rfl (nle rfl) ⟨nle rfl, nle rfl⟩ ⟨nle rfl, nle rfl⟩ dX11_time_28 (by decide) rfl) (fun z_25 u_23 hp_24 => ?_)
      obtain ⟨A2_26, T2_27, W2_28, S2_29, hz_30, hu_31, hq_32, hA2_33, hT2_34, hS2_35⟩ := hp_24
      subst hz_30
      subst hu_31
      refine ⟨rfl, ?_⟩
      refine S_w (ws' := [(h0, ob 10 f), (oW, ob 7 fW), (oP, ob 4 (uF (uF (uF fP 6 (iv pl)) 7 (iv n)) 8 (iv mk))), (aA, ar 1206 A2_26), (aT, ar 180 T2_27), (aW, ar 6 W2_28), (aS, ar 30 S2_29), (oS, ob 5 fS), (aB, ar 6 B), (aF, ar 6 Fo), (aH, ar 6 Ho), (aL, ar 6 Lt)]) rfl ?_
      have hAL := hA2_33
      have hTL := hT2_34
      have hSL := hS2_35
      refine S_pop X dX11_time_31 ?_
      refine S_iload_n X dX11_time_32 rfl rfl ?_
      by_cases hs_36 : v = 0
      · refine S_tswIn (j := 0) (tgt := 60) X dX11_time_33 hs_36 rfl (by decide) (by decide) ?_
        refine S_aload_n X dX11_time_60 rfl rfl ?_
        refine S_get X fgX11_69_10 0 rfl hf2 dX11_time_61 ?_
        refine S_iload_n X dX11_time_64 rfl rfl ?_
        refine S_iload_n X dX11_time_65 rfl rfl ?_
        refine S_calli X (kX4_aheadOfWaiting l (uF (uF (uF fP 6 (iv pl)) 7 (iv n)) 8 (iv mk)) oP aT T2_27 q b hf5 (by omega)) (is := [2, 4]) rfl (run_V X lkX11_239 2 rfl rfl (is := [2, 4]) (avs := [iv q, iv b]) (rest := []) rfl rfl (nle rfl) ⟨nle rfl, nle rfl⟩ ⟨nle rfl, nle rfl⟩ dX11_time_66 (by decide) rfl) (fun z_39 u_37 hp_38 => ?_)
        obtain ⟨hz_40, hu_41⟩ := hp_38
        subst hz_40
        subst hu_41
        refine ⟨rfl, ?_⟩
        refine S_w (ws' := [(h0, ob 10 f), (oW, ob 7 fW), (oP, ob 4 (uF (uF (uF fP 6 (iv pl)) 7 (iv n)) 8 (iv mk))), (aA, ar 1206 A2_26), (aT, ar 180 T2_27), (aW, ar 6 W2_28), (aS, ar 30 S2_29), (oS, ob 5 fS), (aB, ar 6 B), (aF, ar 6 Fo), (aH, ar 6 Ho), (aL, ar 6 Lt)]) rfl ?_
        exact S_iret X (nle rfl) (nle rfl) dX11_time_69 (hPo _ _ (⟨_, _, _, _, _, _, _, by unfold aTime; rw [if_pos (by omega)]; first | (rw [if_pos (by omega)]; exact hTL.at (by omega) (by omega) (by omega) (by omega) (by omega)) | (rw [if_neg (by omega), if_pos (by omega)]) | (rw [if_neg (by omega), if_neg (by omega)]; exact hAL.at (by omega) (by omega) (by omega) (by omega) (by omega)), rfl⟩))
      by_cases hs_42 : v = 1
      · refine S_tswIn (j := 1) (tgt := 70) X dX11_time_33 hs_42 rfl (by decide) (by decide) ?_
        refine S_aload_n X dX11_time_70 rfl rfl ?_
        refine S_get X fgX11_69_10 0 rfl hf2 dX11_time_71 ?_
        refine S_iload_n X dX11_time_74 rfl rfl ?_
        refine S_iload_n X dX11_time_75 rfl rfl ?_
        refine S_calli X (kX4_behindWaiting l (uF (uF (uF fP 6 (iv pl)) 7 (iv n)) 8 (iv mk)) pl n ec mk oP aT T2_27 B Fo Ho Lt q b hf5 rfl rfl (by omega) hTL (by omega) (by omega)) (is := [2, 4]) rfl (run_V X lkX11_243 2 rfl rfl (is := [2, 4]) (avs := [iv q, iv b]) (rest := []) rfl rfl (nle rfl) ⟨nle rfl, nle rfl⟩ ⟨nle rfl, nle rfl⟩ dX11_time_76 (by decide) rfl) (fun z_45 u_43 hp_44 => ?_)
        obtain ⟨hz_46, hu_47⟩ := hp_44
        subst hz_46
        subst hu_47
        refine ⟨rfl, ?_⟩
        refine S_w (ws' := [(h0, ob 10 f), (oW, ob 7 fW), (oP, ob 4 (uF (uF (uF fP 6 (iv pl)) 7 (iv n)) 8 (iv mk))), (aA, ar 1206 A2_26), (aT, ar 180 T2_27), (aW, ar 6 W2_28), (aS, ar 30 S2_29), (oS, ob 5 fS), (aB, ar 6 B), (aF, ar 6 Fo), (aH, ar 6 Ho), (aL, ar 6 Lt)]) rfl ?_
        exact S_iret X (nle rfl) (nle rfl) dX11_time_79 (hPo _ _ (⟨_, _, _, _, _, _, _, by unfold aTime; rw [if_pos (by omega)]; first | (rw [if_pos (by omega)]; exact hTL.at (by omega) (by omega) (by omega) (by omega) (by omega)) | (rw [if_neg (by omega), if_pos (by omega)]) | (rw [if_neg (by omega), if_neg (by omega)]; exact hAL.at (by omega) (by omega) (by omega) (by omega) (by omega)), rfl⟩))
      by_cases hs_48 : v = 2
      · refine S_tswIn (j := 2) (tgt := 80) X dX11_time_33 hs_48 rfl (by decide) (by decide) ?_
        refine S_aload_n X dX11_time_80 rfl rfl ?_
        refine S_get X fgX11_69_10 0 rfl hf2 dX11_time_81 ?_
        refine S_iload_n X dX11_time_84 rfl rfl ?_
        refine S_iload_n X dX11_time_85 rfl rfl ?_
        refine S_calli X (kX4_beatIn l (uF (uF (uF fP 6 (iv pl)) 7 (iv n)) 8 (iv mk)) oP aA A2_26 q b hf4 (by omega)) (is := [2, 3]) rfl (run_V X lkX11_246 2 rfl rfl (is := [2, 3]) (avs := [iv q, iv b]) (rest := []) rfl rfl (nle rfl) ⟨nle rfl, nle rfl⟩ ⟨nle rfl, nle rfl⟩ dX11_time_86 (by decide) rfl) (fun z_51 u_49 hp_50 => ?_)
        obtain ⟨hz_52, hu_53⟩ := hp_50
        subst hz_52
        subst hu_53
        refine ⟨rfl, ?_⟩
        refine S_w (ws' := [(h0, ob 10 f), (oW, ob 7 fW), (oP, ob 4 (uF (uF (uF fP 6 (iv pl)) 7 (iv n)) 8 (iv mk))), (aA, ar 1206 A2_26), (aT, ar 180 T2_27), (aW, ar 6 W2_28), (aS, ar 30 S2_29), (oS, ob 5 fS), (aB, ar 6 B), (aF, ar 6 Fo), (aH, ar 6 Ho), (aL, ar 6 Lt)]) rfl ?_
        exact S_iret X (nle rfl) (nle rfl) dX11_time_89 (hPo _ _ (⟨_, _, _, _, _, _, _, by unfold aTime; rw [if_pos (by omega)]; first | (rw [if_pos (by omega)]; exact hTL.at (by omega) (by omega) (by omega) (by omega) (by omega)) | (rw [if_neg (by omega), if_pos (by omega)]) | (rw [if_neg (by omega), if_neg (by omega)]; exact hAL.at (by omega) (by omega) (by omega) (by omega) (by omega)), rfl⟩))
      refine S_tswOut (tgt := 90) X dX11_time_33 (by omega) (by omega) (by decide) ?_
      refine S_iconst X dX11_time_90 ?_
      exact S_iret X (nle rfl) (nle rfl) dX11_time_91 (hPo _ _ (⟨_, _, _, _, _, _, _, by unfold aTime; rw [if_neg (by omega)], rfl⟩))
set_option maxHeartbeats 4000000 in
set_option maxRecDepth 100000 in
theorem kX11_spread (l : Launch) (h0 : Nat) (f : Nat → AV) (oW : Nat) (fW : Nat → AV) (fP : Nat → AV) (fS : Nat → AV) (pl : Int) (n : Int) (ec : Int) (mk : Int) (oP : Nat) (oS : Nat) (aA : Nat) (aT : Nat) (aW : Nat) (aS : Nat) (aB : Nat) (aF : Nat) (aH : Nat) (aL : Nat) (Ab : Int → Int) (Tm : Int → Int) (Wq : Int → Int) (Sp : Int → Int) (B : Int → Int) (Fo : Int → Int) (Ho : Int → Int) (Lt : Int → Int) (p0 : Int) (n0 : Int) (k0 : Int) (b : Int) (hf0 : f 3 = rv oW) (hf1 : f 7 = rv oS) (hf2 : f 9 = rv oP) (hf3 : fW 0 = iv pl) (hf4 : fP 0 = rv aA) (hf5 : fP 1 = rv aT) (hf6 : fP 2 = rv aW) (hf7 : fP 3 = rv aS) (hf8 : fS 0 = iv pl) (hf9 : fS 1 = iv n) (hf10 : fS 2 = iv ec) (hf11 : fS 3 = iv mk) (hf12 : fS 4 = rv aB) (hf13 : fS 5 = rv aF) (hf14 : fS 6 = rv aH) (hf15 : fS 7 = rv aL) (hz : okZ pl n ec Fo Ho B Lt) (hx_b : inR b) : AMi l yX11_spread cX11_spread 2 .int 4 0 0 [rv h0, iv b] [(h0, ob 10 f), (oW, ob 7 fW), (oP, ob 4 (uF (uF (uF fP 6 (iv p0)) 7 (iv n0)) 8 (iv k0))), (aA, ar 1206 Ab), (aT, ar 180 Tm), (aW, ar 6 Wq), (aS, ar 30 Sp), (oS, ob 5 fS), (aB, ar 6 B), (aF, ar 6 Fo), (aH, ar 6 Ho), (aL, ar 6 Lt)] (fun z u => ∃ p9 : Int, ∃ n9 : Int, ∃ k9 : Int, ∃ A2 : Int → Int, ∃ T2 : Int → Int, ∃ W2 : Int → Int, ∃ S2 : Int → Int, z = aSpread pl n ec mk Fo Ho B Lt b ∧ u = [(h0, ob 10 f), (oW, ob 7 fW), (oP, ob 4 (uF (uF (uF fP 6 (iv p9)) 7 (iv n9)) 8 (iv k9))), (aA, ar 1206 A2), (aT, ar 180 T2), (aW, ar 6 W2), (aS, ar 30 S2), (oS, ob 5 fS), (aB, ar 6 B), (aF, ar 6 Fo), (aH, ar 6 Ho), (aL, ar 6 Lt)]) := by
  refine AMi.of2 rfl (nle rfl) ?_
  intro D G A p e s m args below meth c Po hPo X
  have hz6 := hz.2.1
  have hz0 := hz.1
  have hzn := hz.2.2.1
  have hzm := hz.2.2.2.1
  have hze := hz.2.2.2.2
  refine S_aload_n X dX11_spread_0 rfl rfl ?_
  refine S_iload_n X dX11_spread_1 rfl rfl ?_
  refine S_calli X (kX11_isBar l h0 f oW fW fS pl n oS b hf0 hf1 hf3 hf9 (by omega) (by omega) (by omega)) (is := [0, 1, 7]) rfl (run_V X lkX11_231 0 rfl rfl (is := [0, 1, 7]) (avs := [iv b]) (rest := []) rfl rfl (nle rfl) ⟨nle rfl, nle rfl⟩ ⟨nle rfl, nle rfl⟩ dX11_spread_2 (by decide) rfl) (fun z_3 u_1 hp_2 => ?_)
  rcases hp_2 with ⟨hz_4, hu_5, hp_6⟩ | ⟨hz_7, hu_8, hp_9⟩
  ·
    subst hz_4
    subst hu_5
    refine ⟨rfl, ?_⟩
    refine S_w (ws' := [(h0, ob 10 f), (oW, ob 7 fW), (oP, ob 4 (uF (uF (uF fP 6 (iv p0)) 7 (iv n0)) 8 (iv k0))), (aA, ar 1206 Ab), (aT, ar 180 Tm), (aW, ar 6 Wq), (aS, ar 30 Sp), (oS, ob 5 fS), (aB, ar 6 B), (aF, ar 6 Fo), (aH, ar 6 Ho), (aL, ar 6 Lt)]) rfl ?_
    refine S_if_ne (tgt := 10) X dX11_spread_5 (by decide) (by decide) (fun h9 => absurd h9 (by decide)) (fun _ => ?_)
    refine S_iconst X dX11_spread_8 ?_
    exact S_iret X (nle rfl) (nle rfl) dX11_spread_9 (hPo _ _ (⟨_, _, _, _, _, _, _, by unfold aSpread; rw [if_neg (by omega)], rfl⟩))
  ·
    subst hz_7
    subst hu_8
    refine ⟨rfl, ?_⟩
    refine S_w (ws' := [(h0, ob 10 f), (oW, ob 7 fW), (oP, ob 4 (uF (uF (uF fP 6 (iv p0)) 7 (iv n0)) 8 (iv k0))), (aA, ar 1206 Ab), (aT, ar 180 Tm), (aW, ar 6 Wq), (aS, ar 30 Sp), (oS, ob 5 fS), (aB, ar 6 B), (aF, ar 6 Fo), (aH, ar 6 Ho), (aL, ar 6 Lt)]) rfl ?_
    refine S_if_ne (tgt := 10) X dX11_spread_5 (by decide) (by decide) (fun _ => ?_) (fun h9 => absurd h9 (by decide))
    have hok := hz.s (by omega)
    have hpl := hok.2.1
    have hpl1 := hok.1
    have hn1 := hok.2.2.1
    have hn2 := hok.2.2.2.1
    have hec := hok.2.2.2.2
    refine S_aload_n X dX11_spread_10 rfl rfl ?_
    refine S_get X fgX11_69_10 0 rfl hf2 dX11_spread_11 ?_
    refine S_aload_n X dX11_spread_14 rfl rfl ?_
    refine S_get X fgX11_59_10 0 rfl hf1 dX11_spread_15 ?_
    refine S_ldc (n := 1000000000) X m813 dX11_spread_18 ?_
    refine S_calli X (kX4_performE l fP fS pl n ec mk oP oS aA aT aW aS aB aF aH aL Ab Tm Wq Sp B Fo Ho Lt p0 n0 k0 hf4 hf5 hf6 hf7 hf8 hf9 hf10 hf11 hf12 hf13 hf14 hf15 (by omega)) (is := [2, 3, 4, 5, 6, 7, 8, 9, 10, 11]) rfl (run_V X lkX11_235 2 rfl rfl (is := [2, 3, 4, 5, 6, 7, 8, 9, 10, 11]) (avs := [rv oS, iv 1000000000]) (rest := []) rfl rfl (nle rfl) ⟨nle rfl, nle rfl⟩ ⟨nle rfl, nle rfl⟩ dX11_spread_20 (by decide) rfl) (fun z_14 u_12 hp_13 => ?_)
    obtain ⟨A2_15, T2_16, W2_17, S2_18, hz_19, hu_20, hq_21, hA2_22, hT2_23, hS2_24⟩ := hp_13
    subst hz_19
    subst hu_20
    refine ⟨rfl, ?_⟩
    refine S_w (ws' := [(h0, ob 10 f), (oW, ob 7 fW), (oP, ob 4 (uF (uF (uF fP 6 (iv pl)) 7 (iv n)) 8 (iv mk))), (aA, ar 1206 A2_15), (aT, ar 180 T2_16), (aW, ar 6 W2_17), (aS, ar 30 S2_18), (oS, ob 5 fS), (aB, ar 6 B), (aF, ar 6 Fo), (aH, ar 6 Ho), (aL, ar 6 Lt)]) rfl ?_
    have hAL := hA2_22
    have hTL := hT2_23
    have hSL := hS2_24
    refine S_pop X dX11_spread_23 ?_
    refine S_aload_n X dX11_spread_24 rfl rfl ?_
    refine S_get X fgX11_69_10 0 rfl hf2 dX11_spread_25 ?_
    refine S_get X fgX11_249_4 2 rfl hf7 dX11_spread_28 ?_
    refine S_iload_n X dX11_spread_31 rfl rfl ?_
    refine S_iald X 6 rfl (by omega) (by omega) (nle rfl) dX11_spread_32 ?_
    exact S_iret X (nle rfl) (nle rfl) dX11_spread_33 (hPo _ _ (⟨_, _, _, _, _, _, _, by unfold aSpread; rw [if_pos (by omega)]; exact hSL b (by omega) (by omega), rfl⟩))
set_option maxHeartbeats 4000000 in
set_option maxRecDepth 100000 in
theorem kX11_worst (l : Launch) (h0 : Nat) (f : Nat → AV) (oW : Nat) (fW : Nat → AV) (fP : Nat → AV) (fS : Nat → AV) (pl : Int) (n : Int) (ec : Int) (mk : Int) (oP : Nat) (oS : Nat) (aA : Nat) (aT : Nat) (aW : Nat) (aS : Nat) (aB : Nat) (aF : Nat) (aH : Nat) (aL : Nat) (Ab : Int → Int) (Tm : Int → Int) (Wq : Int → Int) (Sp : Int → Int) (B : Int → Int) (Fo : Int → Int) (Ho : Int → Int) (Lt : Int → Int) (p0 : Int) (n0 : Int) (k0 : Int) (v : Int) (hf0 : f 3 = rv oW) (hf1 : f 7 = rv oS) (hf2 : f 9 = rv oP) (hf3 : fW 0 = iv pl) (hf4 : fP 0 = rv aA) (hf5 : fP 1 = rv aT) (hf6 : fP 2 = rv aW) (hf7 : fP 3 = rv aS) (hf8 : fS 0 = iv pl) (hf9 : fS 1 = iv n) (hf10 : fS 2 = iv ec) (hf11 : fS 3 = iv mk) (hf12 : fS 4 = rv aB) (hf13 : fS 5 = rv aF) (hf14 : fS 6 = rv aH) (hf15 : fS 7 = rv aL) (hz : okZ pl n ec Fo Ho B Lt) (hx_v : inR v) : AMi l yX11_worst cX11_worst 3 .int 4 0 0 [rv h0, iv v] [(h0, ob 10 f), (oW, ob 7 fW), (oP, ob 4 (uF (uF (uF fP 6 (iv p0)) 7 (iv n0)) 8 (iv k0))), (aA, ar 1206 Ab), (aT, ar 180 Tm), (aW, ar 6 Wq), (aS, ar 30 Sp), (oS, ob 5 fS), (aB, ar 6 B), (aF, ar 6 Fo), (aH, ar 6 Ho), (aL, ar 6 Lt)] (fun z u => ∃ p9 : Int, ∃ n9 : Int, ∃ k9 : Int, ∃ A2 : Int → Int, ∃ T2 : Int → Int, ∃ W2 : Int → Int, ∃ S2 : Int → Int, z = aWorst pl n ec mk Fo Ho B Lt v ∧ u = [(h0, ob 10 f), (oW, ob 7 fW), (oP, ob 4 (uF (uF (uF fP 6 (iv p9)) 7 (iv n9)) 8 (iv k9))), (aA, ar 1206 A2), (aT, ar 180 T2), (aW, ar 6 W2), (aS, ar 30 S2), (oS, ob 5 fS), (aB, ar 6 B), (aF, ar 6 Fo), (aH, ar 6 Ho), (aL, ar 6 Lt)]) := by
  refine AMi.of2 rfl (nle rfl) ?_
  intro D G A p e s m args below meth c Po hPo X
  have hz6 := hz.2.1
  have hz0 := hz.1
  have hzn := hz.2.2.1
  have hzm := hz.2.2.2.1
  have hze := hz.2.2.2.2
  refine S_aload_n X dX11_worst_0 rfl rfl ?_
  refine S_iload_n X dX11_worst_1 rfl rfl ?_
  refine S_calli X (kX11_isOneOfTwo l h0 f oW fW pl v hf0 hf3 (by omega) (by omega)) (is := [0, 1]) rfl (run_V X lkX11_252 0 rfl rfl (is := [0, 1]) (avs := [iv v]) (rest := []) rfl rfl (nle rfl) ⟨nle rfl, nle rfl⟩ ⟨nle rfl, nle rfl⟩ dX11_worst_2 (by decide) rfl) (fun z_3 u_1 hp_2 => ?_)
  rcases hp_2 with ⟨hz_4, hu_5, hp_6⟩ | ⟨hz_7, hu_8, hp_9⟩
  ·
    subst hz_4
    subst hu_5
    refine ⟨rfl, ?_⟩
    refine S_w (ws' := [(h0, ob 10 f), (oW, ob 7 fW), (oP, ob 4 (uF (uF (uF fP 6 (iv p0)) 7 (iv n0)) 8 (iv k0))), (aA, ar 1206 Ab), (aT, ar 180 Tm), (aW, ar 6 Wq), (aS, ar 30 Sp), (oS, ob 5 fS), (aB, ar 6 B), (aF, ar 6 Fo), (aH, ar 6 Ho), (aL, ar 6 Lt)]) rfl ?_
    refine S_if_ne (tgt := 10) X dX11_worst_5 (by decide) (by decide) (fun h9 => absurd h9 (by decide)) (fun _ => ?_)
    refine S_iconst X dX11_worst_8 ?_
    exact S_iret X (nle rfl) (nle rfl) dX11_worst_9 (hPo _ _ (⟨_, _, _, _, _, _, _, by unfold aWorst; rw [if_neg (by omega)], rfl⟩))
  ·
    subst hz_7
    subst hu_8
    refine ⟨rfl, ?_⟩
    refine S_w (ws' := [(h0, ob 10 f), (oW, ob 7 fW), (oP, ob 4 (uF (uF (uF fP 6 (iv p0)) 7 (iv n0)) 8 (iv k0))), (aA, ar 1206 Ab), (aT, ar 180 Tm), (aW, ar 6 Wq), (aS, ar 30 Sp), (oS, ob 5 fS), (aB, ar 6 B), (aF, ar 6 Fo), (aH, ar 6 Ho), (aL, ar 6 Lt)]) rfl ?_
    refine S_if_ne (tgt := 10) X dX11_worst_5 (by decide) (by decide) (fun _ => ?_) (fun h9 => absurd h9 (by decide))
    have hok := hz.s (by omega)
    have hpl := hok.2.1
    have hpl1 := hok.1
    have hn1 := hok.2.2.1
    have hn2 := hok.2.2.2.1
    have hec := hok.2.2.2.2
    refine S_aload_n X dX11_worst_10 rfl rfl ?_
    refine S_get X fgX11_69_10 0 rfl hf2 dX11_worst_11 ?_
    refine S_aload_n X dX11_worst_14 rfl rfl ?_
    refine S_get X fgX11_59_10 0 rfl hf1 dX11_worst_15 ?_
    refine S_ldc (n := 1000000000) X m813 dX11_worst_18 ?_
    refine S_calli X (kX4_performE l fP fS pl n ec mk oP oS aA aT aW aS aB aF aH aL Ab Tm Wq Sp B Fo Ho Lt p0 n0 k0 hf4 hf5 hf6 hf7 hf8 hf9 hf10 hf11 hf12 hf13 hf14 hf15 (by omega)) (is := [2, 3, 4, 5, 6, 7, 8, 9, 10, 11]) rfl (run_V X lkX11_235 2 rfl rfl (is := [2, 3, 4, 5, 6, 7, 8, 9, 10, 11]) (avs := [rv oS, iv 1000000000]) (rest := []) rfl rfl (nle rfl) ⟨nle rfl, nle rfl⟩ ⟨nle rfl, nle rfl⟩ dX11_worst_20 (by decide) rfl) (fun z_14 u_12 hp_13 => ?_)
    obtain ⟨A2_15, T2_16, W2_17, S2_18, hz_19, hu_20, hq_21, hA2_22, hT2_23, hS2_24⟩ := hp_13
    subst hz_19
    subst hu_20
    refine ⟨rfl, ?_⟩
    refine S_w (ws' := [(h0, ob 10 f), (oW, ob 7 fW), (oP, ob 4 (uF (uF (uF fP 6 (iv pl)) 7 (iv n)) 8 (iv mk))), (aA, ar 1206 A2_15), (aT, ar 180 T2_16), (aW, ar 6 W2_17), (aS, ar 30 S2_18), (oS, ob 5 fS), (aB, ar 6 B), (aF, ar 6 Fo), (aH, ar 6 Ho), (aL, ar 6 Lt)]) rfl ?_
    have hAL := hA2_22
    have hTL := hT2_23
    have hSL := hS2_24
    have hwr := hok.worst (mk := mk)
    refine S_istore_n X dX11_worst_23 rfl (nle rfl) ?_
    refine S_iload_n X dX11_worst_24 rfl rfl ?_
    refine S_if_ne (tgt := 32) X dX11_worst_25 (by decide) (by omega) (fun c_25 => ?_) (fun c_25 => ?_)
    ·
      refine S_aload_n X dX11_worst_32 rfl rfl ?_
      refine S_get X fgX11_69_10 0 rfl hf2 dX11_worst_33 ?_
      refine S_iload_n X dX11_worst_36 rfl rfl ?_
      refine S_iconst X dX11_worst_37 ?_
      refine S_isub X dX11_worst_38 ?_
      refine S_calli X (kX4_firstSpreadAbove l (uF (uF (uF fP 6 (iv pl)) 7 (iv n)) 8 (iv mk)) n oP aS S2_18 ((WO pl n ec mk Fo Ho B Lt) - 1) (sS pl ec mk Fo Ho B Lt) hf7 rfl (by omega) (fun x h0 h1 => ⟨hSL x h0 h1, (hok.spread (mk := mk) x h0 (by omega)).1, by have := (hok.spread (mk := mk) x h0 (by omega)).2; omega⟩) (by omega)) (is := [2, 6]) rfl (run_V X lkX11_255 2 rfl rfl (is := [2, 6]) (avs := [iv ((WO pl n ec mk Fo Ho B Lt) - 1)]) (rest := []) rfl rfl (nle rfl) ⟨nle rfl, nle rfl⟩ ⟨nle rfl, nle rfl⟩ dX11_worst_39 (by decide) rfl) (fun z_28 u_26 hp_27 => ?_)
      obtain ⟨hz_29, hu_30⟩ := hp_27
      subst hz_29
      subst hu_30
      refine ⟨rfl, ?_⟩
      refine S_w (ws' := [(h0, ob 10 f), (oW, ob 7 fW), (oP, ob 4 (uF (uF (uF fP 6 (iv pl)) 7 (iv n)) 8 (iv mk))), (aA, ar 1206 A2_15), (aT, ar 180 T2_16), (aW, ar 6 W2_17), (aS, ar 30 S2_18), (oS, ob 5 fS), (aB, ar 6 B), (aF, ar 6 Fo), (aH, ar 6 Ho), (aL, ar 6 Lt)]) rfl ?_
      exact S_iret X (nle rfl) (nle rfl) dX11_worst_42 (hPo _ _ (⟨_, _, _, _, _, _, _, by unfold aWorst; rw [if_pos (by omega)]; rw [if_neg (by omega)]; exact amI_fs (by omega) (fun y y0 y1 => (hok.spread (mk := mk) y y0 (by omega)).1), rfl⟩))
    ·
      refine S_iload_n X dX11_worst_28 rfl rfl ?_
      refine S_goto (tgt := 42) X dX11_worst_29 (by decide) ?_
      exact S_iret X (nle rfl) (nle rfl) dX11_worst_42 (hPo _ _ (⟨_, _, _, _, _, _, _, by unfold aWorst; rw [if_pos (by omega)]; rw [if_pos (by omega)], rfl⟩))
set_option maxHeartbeats 4000000 in
set_option maxRecDepth 100000 in
theorem kX11_parts (l : Launch) (h0 : Nat) (f : Nat → AV) (oW : Nat) (fW : Nat → AV) (fP : Nat → AV) (fS : Nat → AV) (pl : Int) (n : Int) (ec : Int) (mk : Int) (oP : Nat) (oS : Nat) (aA : Nat) (aT : Nat) (aW : Nat) (aS : Nat) (aB : Nat) (aF : Nat) (aH : Nat) (aL : Nat) (Ab : Int → Int) (Tm : Int → Int) (Wq : Int → Int) (Sp : Int → Int) (B : Int → Int) (Fo : Int → Int) (Ho : Int → Int) (Lt : Int → Int) (p0 : Int) (n0 : Int) (k0 : Int) (lim : Int) (hf0 : f 3 = rv oW) (hf1 : f 7 = rv oS) (hf2 : f 9 = rv oP) (hf3 : fW 0 = iv pl) (hf4 : fP 0 = rv aA) (hf5 : fP 1 = rv aT) (hf6 : fP 2 = rv aW) (hf7 : fP 3 = rv aS) (hf8 : fS 0 = iv pl) (hf9 : fS 1 = iv n) (hf10 : fS 2 = iv ec) (hf11 : fS 3 = iv mk) (hf12 : fS 4 = rv aB) (hf13 : fS 5 = rv aF) (hf14 : fS 6 = rv aH) (hf15 : fS 7 = rv aL) (hf16 : f 12 = iv lim) (hz : okZ pl n ec Fo Ho B Lt) (hlim : 0 ≤ lim ∧ lim ≤ 999) : AMi l yX11_parts cX11_parts 1 .int 4 0 0 [rv h0] [(h0, ob 10 f), (oW, ob 7 fW), (oP, ob 4 (uF (uF (uF fP 6 (iv p0)) 7 (iv n0)) 8 (iv k0))), (aA, ar 1206 Ab), (aT, ar 180 Tm), (aW, ar 6 Wq), (aS, ar 30 Sp), (oS, ob 5 fS), (aB, ar 6 B), (aF, ar 6 Fo), (aH, ar 6 Ho), (aL, ar 6 Lt)] (fun z u => ∃ p9 : Int, ∃ n9 : Int, ∃ k9 : Int, ∃ A2 : Int → Int, ∃ T2 : Int → Int, ∃ W2 : Int → Int, ∃ S2 : Int → Int, z = aParts pl n ec mk Fo Ho B Lt lim ∧ u = [(h0, ob 10 f), (oW, ob 7 fW), (oP, ob 4 (uF (uF (uF fP 6 (iv p9)) 7 (iv n9)) 8 (iv k9))), (aA, ar 1206 A2), (aT, ar 180 T2), (aW, ar 6 W2), (aS, ar 30 S2), (oS, ob 5 fS), (aB, ar 6 B), (aF, ar 6 Fo), (aH, ar 6 Ho), (aL, ar 6 Lt)]) := by
  refine AMi.of2 rfl (nle rfl) ?_
  intro D G A p e s m args below meth c Po hPo X
  have hz6 := hz.2.1
  have hz0 := hz.1
  have hzn := hz.2.2.1
  have hzm := hz.2.2.2.1
  have hze := hz.2.2.2.2
  refine S_aload_n X dX11_parts_0 rfl rfl ?_
  refine S_get X fgX11_35_10 0 rfl hf0 dX11_parts_1 ?_
  refine S_get X fgX11_115_7 1 rfl hf3 dX11_parts_4 ?_
  refine S_if_ne (tgt := 12) X dX11_parts_7 (by decide) (by omega) (fun c_1 => ?_) (fun c_1 => ?_)
  ·
    have hok := hz.s (by omega)
    have hpl := hok.2.1
    have hpl1 := hok.1
    have hn1 := hok.2.2.1
    have hn2 := hok.2.2.2.1
    have hec := hok.2.2.2.2
    refine S_aload_n X dX11_parts_12 rfl rfl ?_
    refine S_get X fgX11_69_10 0 rfl hf2 dX11_parts_13 ?_
    refine S_aload_n X dX11_parts_16 rfl rfl ?_
    refine S_get X fgX11_59_10 0 rfl hf1 dX11_parts_17 ?_
    refine S_ldc (n := 1000000000) X m813 dX11_parts_20 ?_
    refine S_calli X (kX4_performE l fP fS pl n ec mk oP oS aA aT aW aS aB aF aH aL Ab Tm Wq Sp B Fo Ho Lt p0 n0 k0 hf4 hf5 hf6 hf7 hf8 hf9 hf10 hf11 hf12 hf13 hf14 hf15 (by omega)) (is := [2, 3, 4, 5, 6, 7, 8, 9, 10, 11]) rfl (run_V X lkX11_235 2 rfl rfl (is := [2, 3, 4, 5, 6, 7, 8, 9, 10, 11]) (avs := [rv oS, iv 1000000000]) (rest := []) rfl rfl (nle rfl) ⟨nle rfl, nle rfl⟩ ⟨nle rfl, nle rfl⟩ dX11_parts_22 (by decide) rfl) (fun z_4 u_2 hp_3 => ?_)
    obtain ⟨A2_5, T2_6, W2_7, S2_8, hz_9, hu_10, hq_11, hA2_12, hT2_13, hS2_14⟩ := hp_3
    subst hz_9
    subst hu_10
    refine ⟨rfl, ?_⟩
    refine S_w (ws' := [(h0, ob 10 f), (oW, ob 7 fW), (oP, ob 4 (uF (uF (uF fP 6 (iv pl)) 7 (iv n)) 8 (iv mk))), (aA, ar 1206 A2_5), (aT, ar 180 T2_6), (aW, ar 6 W2_7), (aS, ar 30 S2_8), (oS, ob 5 fS), (aB, ar 6 B), (aF, ar 6 Fo), (aH, ar 6 Ho), (aL, ar 6 Lt)]) rfl ?_
    have hAL := hA2_12
    have hTL := hT2_13
    have hSL := hS2_14
    refine S_pop X dX11_parts_25 ?_
    refine S_aload_n X dX11_parts_26 rfl rfl ?_
    refine S_get X fgX11_69_10 0 rfl hf2 dX11_parts_27 ?_
    refine S_aload_n X dX11_parts_30 rfl rfl ?_
    refine S_get X fgX11_89_10 0 rfl hf16 dX11_parts_31 ?_
    refine S_calli X (kX4_firstSpreadAbove l (uF (uF (uF fP 6 (iv pl)) 7 (iv n)) 8 (iv mk)) n oP aS S2_8 lim (sS pl ec mk Fo Ho B Lt) hf7 rfl (by omega) (fun x h0 h1 => ⟨hSL x h0 h1, (hok.spread (mk := mk) x h0 (by omega)).1, by have := (hok.spread (mk := mk) x h0 (by omega)).2; omega⟩) (by omega)) (is := [2, 6]) rfl (run_V X lkX11_255 2 rfl rfl (is := [2, 6]) (avs := [iv lim]) (rest := []) rfl rfl (nle rfl) ⟨nle rfl, nle rfl⟩ ⟨nle rfl, nle rfl⟩ dX11_parts_34 (by decide) rfl) (fun z_17 u_15 hp_16 => ?_)
    obtain ⟨hz_18, hu_19⟩ := hp_16
    subst hz_18
    subst hu_19
    refine ⟨rfl, ?_⟩
    refine S_w (ws' := [(h0, ob 10 f), (oW, ob 7 fW), (oP, ob 4 (uF (uF (uF fP 6 (iv pl)) 7 (iv n)) 8 (iv mk))), (aA, ar 1206 A2_5), (aT, ar 180 T2_6), (aW, ar 6 W2_7), (aS, ar 30 S2_8), (oS, ob 5 fS), (aB, ar 6 B), (aF, ar 6 Fo), (aH, ar 6 Ho), (aL, ar 6 Lt)]) rfl ?_
    exact S_iret X (nle rfl) (nle rfl) dX11_parts_37 (hPo _ _ (⟨_, _, _, _, _, _, _, by unfold aParts; rw [if_pos (by omega)]; try rfl, rfl⟩))
  ·
    refine S_iconst X dX11_parts_10 ?_
    exact S_iret X (nle rfl) (nle rfl) dX11_parts_11 (hPo _ _ (⟨_, _, _, _, _, _, _, by unfold aParts; rw [if_neg (by omega)], rfl⟩))
set_option maxHeartbeats 4000000 in
set_option maxRecDepth 100000 in
theorem kX11_last (l : Launch) (h0 : Nat) (f : Nat → AV) (oW : Nat) (fW : Nat → AV) (fP : Nat → AV) (fS : Nat → AV) (pl : Int) (n : Int) (ec : Int) (mk : Int) (oP : Nat) (oS : Nat) (aA : Nat) (aT : Nat) (aW : Nat) (aS : Nat) (aB : Nat) (aF : Nat) (aH : Nat) (aL : Nat) (Ab : Int → Int) (Tm : Int → Int) (Wq : Int → Int) (Sp : Int → Int) (B : Int → Int) (Fo : Int → Int) (Ho : Int → Int) (Lt : Int → Int) (p0 : Int) (n0 : Int) (k0 : Int) (b : Int) (hf0 : f 3 = rv oW) (hf1 : f 7 = rv oS) (hf2 : f 9 = rv oP) (hf3 : fW 0 = iv pl) (hf4 : fP 0 = rv aA) (hf5 : fP 1 = rv aT) (hf6 : fP 2 = rv aW) (hf7 : fP 3 = rv aS) (hf8 : fS 0 = iv pl) (hf9 : fS 1 = iv n) (hf10 : fS 2 = iv ec) (hf11 : fS 3 = iv mk) (hf12 : fS 4 = rv aB) (hf13 : fS 5 = rv aF) (hf14 : fS 6 = rv aH) (hf15 : fS 7 = rv aL) (hz : okZ pl n ec Fo Ho B Lt) (hx_b : inR b) : AMi l yX11_last cX11_last 2 .int 4 0 0 [rv h0, iv b] [(h0, ob 10 f), (oW, ob 7 fW), (oP, ob 4 (uF (uF (uF fP 6 (iv p0)) 7 (iv n0)) 8 (iv k0))), (aA, ar 1206 Ab), (aT, ar 180 Tm), (aW, ar 6 Wq), (aS, ar 30 Sp), (oS, ob 5 fS), (aB, ar 6 B), (aF, ar 6 Fo), (aH, ar 6 Ho), (aL, ar 6 Lt)] (fun z u => ∃ p9 : Int, ∃ n9 : Int, ∃ k9 : Int, ∃ A2 : Int → Int, ∃ T2 : Int → Int, ∃ W2 : Int → Int, ∃ S2 : Int → Int, z = aLast pl n ec mk Fo Ho B Lt b ∧ u = [(h0, ob 10 f), (oW, ob 7 fW), (oP, ob 4 (uF (uF (uF fP 6 (iv p9)) 7 (iv n9)) 8 (iv k9))), (aA, ar 1206 A2), (aT, ar 180 T2), (aW, ar 6 W2), (aS, ar 30 S2), (oS, ob 5 fS), (aB, ar 6 B), (aF, ar 6 Fo), (aH, ar 6 Ho), (aL, ar 6 Lt)]) := by
  refine AMi.of2 rfl (nle rfl) ?_
  intro D G A p e s m args below meth c Po hPo X
  have hz6 := hz.2.1
  have hz0 := hz.1
  have hzn := hz.2.2.1
  have hzm := hz.2.2.2.1
  have hze := hz.2.2.2.2
  refine S_aload_n X dX11_last_0 rfl rfl ?_
  refine S_iload_n X dX11_last_1 rfl rfl ?_
  refine S_calli X (kX11_isBar l h0 f oW fW fS pl n oS b hf0 hf1 hf3 hf9 (by omega) (by omega) (by omega)) (is := [0, 1, 7]) rfl (run_V X lkX11_231 0 rfl rfl (is := [0, 1, 7]) (avs := [iv b]) (rest := []) rfl rfl (nle rfl) ⟨nle rfl, nle rfl⟩ ⟨nle rfl, nle rfl⟩ dX11_last_2 (by decide) rfl) (fun z_3 u_1 hp_2 => ?_)
  rcases hp_2 with ⟨hz_4, hu_5, hp_6⟩ | ⟨hz_7, hu_8, hp_9⟩
  ·
    subst hz_4
    subst hu_5
    refine ⟨rfl, ?_⟩
    refine S_w (ws' := [(h0, ob 10 f), (oW, ob 7 fW), (oP, ob 4 (uF (uF (uF fP 6 (iv p0)) 7 (iv n0)) 8 (iv k0))), (aA, ar 1206 Ab), (aT, ar 180 Tm), (aW, ar 6 Wq), (aS, ar 30 Sp), (oS, ob 5 fS), (aB, ar 6 B), (aF, ar 6 Fo), (aH, ar 6 Ho), (aL, ar 6 Lt)]) rfl ?_
    refine S_if_ne (tgt := 10) X dX11_last_5 (by decide) (by decide) (fun h9 => absurd h9 (by decide)) (fun _ => ?_)
    refine S_iconst X dX11_last_8 ?_
    exact S_iret X (nle rfl) (nle rfl) dX11_last_9 (hPo _ _ (⟨_, _, _, _, _, _, _, by unfold aLast; rw [if_neg (by omega)], rfl⟩))
  ·
    subst hz_7
    subst hu_8
    refine ⟨rfl, ?_⟩
    refine S_w (ws' := [(h0, ob 10 f), (oW, ob 7 fW), (oP, ob 4 (uF (uF (uF fP 6 (iv p0)) 7 (iv n0)) 8 (iv k0))), (aA, ar 1206 Ab), (aT, ar 180 Tm), (aW, ar 6 Wq), (aS, ar 30 Sp), (oS, ob 5 fS), (aB, ar 6 B), (aF, ar 6 Fo), (aH, ar 6 Ho), (aL, ar 6 Lt)]) rfl ?_
    refine S_if_ne (tgt := 10) X dX11_last_5 (by decide) (by decide) (fun _ => ?_) (fun h9 => absurd h9 (by decide))
    have hok := hz.s (by omega)
    have hpl := hok.2.1
    have hpl1 := hok.1
    have hn1 := hok.2.2.1
    have hn2 := hok.2.2.2.1
    have hec := hok.2.2.2.2
    refine S_aload_n X dX11_last_10 rfl rfl ?_
    refine S_get X fgX11_69_10 0 rfl hf2 dX11_last_11 ?_
    refine S_aload_n X dX11_last_14 rfl rfl ?_
    refine S_get X fgX11_59_10 0 rfl hf1 dX11_last_15 ?_
    refine S_ldc (n := 1000000000) X m813 dX11_last_18 ?_
    refine S_calli X (kX4_performE l fP fS pl n ec mk oP oS aA aT aW aS aB aF aH aL Ab Tm Wq Sp B Fo Ho Lt p0 n0 k0 hf4 hf5 hf6 hf7 hf8 hf9 hf10 hf11 hf12 hf13 hf14 hf15 (by omega)) (is := [2, 3, 4, 5, 6, 7, 8, 9, 10, 11]) rfl (run_V X lkX11_235 2 rfl rfl (is := [2, 3, 4, 5, 6, 7, 8, 9, 10, 11]) (avs := [rv oS, iv 1000000000]) (rest := []) rfl rfl (nle rfl) ⟨nle rfl, nle rfl⟩ ⟨nle rfl, nle rfl⟩ dX11_last_20 (by decide) rfl) (fun z_14 u_12 hp_13 => ?_)
    obtain ⟨A2_15, T2_16, W2_17, S2_18, hz_19, hu_20, hq_21, hA2_22, hT2_23, hS2_24⟩ := hp_13
    subst hz_19
    subst hu_20
    refine ⟨rfl, ?_⟩
    refine S_w (ws' := [(h0, ob 10 f), (oW, ob 7 fW), (oP, ob 4 (uF (uF (uF fP 6 (iv pl)) 7 (iv n)) 8 (iv mk))), (aA, ar 1206 A2_15), (aT, ar 180 T2_16), (aW, ar 6 W2_17), (aS, ar 30 S2_18), (oS, ob 5 fS), (aB, ar 6 B), (aF, ar 6 Fo), (aH, ar 6 Ho), (aL, ar 6 Lt)]) rfl ?_
    have hAL := hA2_22
    have hTL := hT2_23
    have hSL := hS2_24
    refine S_pop X dX11_last_23 ?_
    refine S_aload_n X dX11_last_24 rfl rfl ?_
    refine S_get X fgX11_69_10 0 rfl hf2 dX11_last_25 ?_
    refine S_iload_n X dX11_last_28 rfl rfl ?_
    refine S_calli X (kX4_lastIn l (uF (uF (uF fP 6 (iv pl)) 7 (iv n)) 8 (iv mk)) pl n ec mk oP aT T2_16 B Fo Ho Lt b hf5 rfl (by omega) hTL (by omega)) (is := [2, 4]) rfl (run_V X lkX11_258 2 rfl rfl (is := [2, 4]) (avs := [iv b]) (rest := []) rfl rfl (nle rfl) ⟨nle rfl, nle rfl⟩ ⟨nle rfl, nle rfl⟩ dX11_last_29 (by decide) rfl) (fun z_27 u_25 hp_26 => ?_)
    obtain ⟨hz_28, hu_29⟩ := hp_26
    subst hz_28
    subst hu_29
    refine ⟨rfl, ?_⟩
    refine S_w (ws' := [(h0, ob 10 f), (oW, ob 7 fW), (oP, ob 4 (uF (uF (uF fP 6 (iv pl)) 7 (iv n)) 8 (iv mk))), (aA, ar 1206 A2_15), (aT, ar 180 T2_16), (aW, ar 6 W2_17), (aS, ar 30 S2_18), (oS, ob 5 fS), (aB, ar 6 B), (aF, ar 6 Fo), (aH, ar 6 Ho), (aL, ar 6 Lt)]) rfl ?_
    exact S_iret X (nle rfl) (nle rfl) dX11_last_32 (hPo _ _ (⟨_, _, _, _, _, _, _, by unfold aLast; rw [if_pos (by omega)]; try rfl, rfl⟩))
set_option maxHeartbeats 4000000 in
set_option maxRecDepth 100000 in
theorem kX11_place (l : Launch) (h0 : Nat) (f : Nat → AV) (oW : Nat) (fW : Nat → AV) (fP : Nat → AV) (fS : Nat → AV) (pl : Int) (n : Int) (ec : Int) (mk : Int) (oP : Nat) (oS : Nat) (aA : Nat) (aT : Nat) (aW : Nat) (aS : Nat) (aB : Nat) (aF : Nat) (aH : Nat) (aL : Nat) (Ab : Int → Int) (Tm : Int → Int) (Wq : Int → Int) (Sp : Int → Int) (B : Int → Int) (Fo : Int → Int) (Ho : Int → Int) (Lt : Int → Int) (p0 : Int) (n0 : Int) (k0 : Int) (b : Int) (i : Int) (hf0 : f 3 = rv oW) (hf1 : f 7 = rv oS) (hf2 : f 9 = rv oP) (hf3 : fW 0 = iv pl) (hf4 : fP 0 = rv aA) (hf5 : fP 1 = rv aT) (hf6 : fP 2 = rv aW) (hf7 : fP 3 = rv aS) (hf8 : fS 0 = iv pl) (hf9 : fS 1 = iv n) (hf10 : fS 2 = iv ec) (hf11 : fS 3 = iv mk) (hf12 : fS 4 = rv aB) (hf13 : fS 5 = rv aF) (hf14 : fS 6 = rv aH) (hf15 : fS 7 = rv aL) (hz : okZ pl n ec Fo Ho B Lt) (hx_b : inR b) (hx_i : inR i) : AMi l yX11_place cX11_place 3 .int 4 0 0 [rv h0, iv b, iv i] [(h0, ob 10 f), (oW, ob 7 fW), (oP, ob 4 (uF (uF (uF fP 6 (iv p0)) 7 (iv n0)) 8 (iv k0))), (aA, ar 1206 Ab), (aT, ar 180 Tm), (aW, ar 6 Wq), (aS, ar 30 Sp), (oS, ob 5 fS), (aB, ar 6 B), (aF, ar 6 Fo), (aH, ar 6 Ho), (aL, ar 6 Lt)] (fun z u => ∃ p9 : Int, ∃ n9 : Int, ∃ k9 : Int, ∃ A2 : Int → Int, ∃ T2 : Int → Int, ∃ W2 : Int → Int, ∃ S2 : Int → Int, z = aPlace pl n ec mk Fo Ho B Lt b i ∧ u = [(h0, ob 10 f), (oW, ob 7 fW), (oP, ob 4 (uF (uF (uF fP 6 (iv p9)) 7 (iv n9)) 8 (iv k9))), (aA, ar 1206 A2), (aT, ar 180 T2), (aW, ar 6 W2), (aS, ar 30 S2), (oS, ob 5 fS), (aB, ar 6 B), (aF, ar 6 Fo), (aH, ar 6 Ho), (aL, ar 6 Lt)]) := by
  refine AMi.of2 rfl (nle rfl) ?_
  intro D G A p e s m args below meth c Po hPo X
  have hz6 := hz.2.1
  have hz0 := hz.1
  have hzn := hz.2.2.1
  have hzm := hz.2.2.2.1
  have hze := hz.2.2.2.2
  refine S_aload_n X dX11_place_0 rfl rfl ?_
  refine S_iload_n X dX11_place_1 rfl rfl ?_
  refine S_calli X (kX11_isBar l h0 f oW fW fS pl n oS b hf0 hf1 hf3 hf9 (by omega) (by omega) (by omega)) (is := [0, 1, 7]) rfl (run_V X lkX11_231 0 rfl rfl (is := [0, 1, 7]) (avs := [iv b]) (rest := []) rfl rfl (nle rfl) ⟨nle rfl, nle rfl⟩ ⟨nle rfl, nle rfl⟩ dX11_place_2 (by decide) rfl) (fun z_3 u_1 hp_2 => ?_)
  rcases hp_2 with ⟨hz_4, hu_5, hp_6⟩ | ⟨hz_7, hu_8, hp_9⟩
  ·
    subst hz_4
    subst hu_5
    refine ⟨rfl, ?_⟩
    refine S_w (ws' := [(h0, ob 10 f), (oW, ob 7 fW), (oP, ob 4 (uF (uF (uF fP 6 (iv p0)) 7 (iv n0)) 8 (iv k0))), (aA, ar 1206 Ab), (aT, ar 180 Tm), (aW, ar 6 Wq), (aS, ar 30 Sp), (oS, ob 5 fS), (aB, ar 6 B), (aF, ar 6 Fo), (aH, ar 6 Ho), (aL, ar 6 Lt)]) rfl ?_
    refine S_if_eq (tgt := 16) X dX11_place_5 (by decide) (by decide) (fun _ => ?_) (fun h9 => absurd h9 (by decide))
    refine S_iconst X dX11_place_16 ?_
    exact S_iret X (nle rfl) (nle rfl) dX11_place_17 (hPo _ _ (⟨_, _, _, _, _, _, _, cplace_no hz0 (by omega), rfl⟩))
  ·
    subst hz_7
    subst hu_8
    refine ⟨rfl, ?_⟩
    refine S_w (ws' := [(h0, ob 10 f), (oW, ob 7 fW), (oP, ob 4 (uF (uF (uF fP 6 (iv p0)) 7 (iv n0)) 8 (iv k0))), (aA, ar 1206 Ab), (aT, ar 180 Tm), (aW, ar 6 Wq), (aS, ar 30 Sp), (oS, ob 5 fS), (aB, ar 6 B), (aF, ar 6 Fo), (aH, ar 6 Ho), (aL, ar 6 Lt)]) rfl ?_
    refine S_if_eq (tgt := 16) X dX11_place_5 (by decide) (by decide) (fun h9 => absurd h9 (by decide)) (fun _ => ?_)
    refine S_aload_n X dX11_place_8 rfl rfl ?_
    refine S_iload_n X dX11_place_9 rfl rfl ?_
    refine S_calli X (kX11_isPlayer l h0 f oW fW pl i hf0 hf3 (by omega) (by omega)) (is := [0, 1]) rfl (run_V X lkX11_147 0 rfl rfl (is := [0, 1]) (avs := [iv i]) (rest := []) rfl rfl (nle rfl) ⟨nle rfl, nle rfl⟩ ⟨nle rfl, nle rfl⟩ dX11_place_10 (by decide) rfl) (fun z_14 u_12 hp_13 => ?_)
    rcases hp_13 with ⟨hz_15, hu_16, hp_17⟩ | ⟨hz_18, hu_19, hp_20⟩
    ·
      subst hz_15
      subst hu_16
      refine ⟨rfl, ?_⟩
      refine S_w (ws' := [(h0, ob 10 f), (oW, ob 7 fW), (oP, ob 4 (uF (uF (uF fP 6 (iv p0)) 7 (iv n0)) 8 (iv k0))), (aA, ar 1206 Ab), (aT, ar 180 Tm), (aW, ar 6 Wq), (aS, ar 30 Sp), (oS, ob 5 fS), (aB, ar 6 B), (aF, ar 6 Fo), (aH, ar 6 Ho), (aL, ar 6 Lt)]) rfl ?_
      refine S_if_ne (tgt := 18) X dX11_place_13 (by decide) (by decide) (fun h9 => absurd h9 (by decide)) (fun _ => ?_)
      refine S_iconst X dX11_place_16 ?_
      exact S_iret X (nle rfl) (nle rfl) dX11_place_17 (hPo _ _ (⟨_, _, _, _, _, _, _, cplace_no hz0 (by omega), rfl⟩))
    ·
      subst hz_18
      subst hu_19
      refine ⟨rfl, ?_⟩
      refine S_w (ws' := [(h0, ob 10 f), (oW, ob 7 fW), (oP, ob 4 (uF (uF (uF fP 6 (iv p0)) 7 (iv n0)) 8 (iv k0))), (aA, ar 1206 Ab), (aT, ar 180 Tm), (aW, ar 6 Wq), (aS, ar 30 Sp), (oS, ob 5 fS), (aB, ar 6 B), (aF, ar 6 Fo), (aH, ar 6 Ho), (aL, ar 6 Lt)]) rfl ?_
      refine S_if_ne (tgt := 18) X dX11_place_13 (by decide) (by decide) (fun _ => ?_) (fun h9 => absurd h9 (by decide))
      have hok := hz.s (by omega)
      have hpl := hok.2.1
      have hpl1 := hok.1
      have hn1 := hok.2.2.1
      have hn2 := hok.2.2.2.1
      have hec := hok.2.2.2.2
      refine S_aload_n X dX11_place_18 rfl rfl ?_
      refine S_get X fgX11_69_10 0 rfl hf2 dX11_place_19 ?_
      refine S_aload_n X dX11_place_22 rfl rfl ?_
      refine S_get X fgX11_59_10 0 rfl hf1 dX11_place_23 ?_
      refine S_ldc (n := 1000000000) X m813 dX11_place_26 ?_
      refine S_calli X (kX4_performE l fP fS pl n ec mk oP oS aA aT aW aS aB aF aH aL Ab Tm Wq Sp B Fo Ho Lt p0 n0 k0 hf4 hf5 hf6 hf7 hf8 hf9 hf10 hf11 hf12 hf13 hf14 hf15 (by omega)) (is := [2, 3, 4, 5, 6, 7, 8, 9, 10, 11]) rfl (run_V X lkX11_235 2 rfl rfl (is := [2, 3, 4, 5, 6, 7, 8, 9, 10, 11]) (avs := [rv oS, iv 1000000000]) (rest := []) rfl rfl (nle rfl) ⟨nle rfl, nle rfl⟩ ⟨nle rfl, nle rfl⟩ dX11_place_28 (by decide) rfl) (fun z_25 u_23 hp_24 => ?_)
      obtain ⟨A2_26, T2_27, W2_28, S2_29, hz_30, hu_31, hq_32, hA2_33, hT2_34, hS2_35⟩ := hp_24
      subst hz_30
      subst hu_31
      refine ⟨rfl, ?_⟩
      refine S_w (ws' := [(h0, ob 10 f), (oW, ob 7 fW), (oP, ob 4 (uF (uF (uF fP 6 (iv pl)) 7 (iv n)) 8 (iv mk))), (aA, ar 1206 A2_26), (aT, ar 180 T2_27), (aW, ar 6 W2_28), (aS, ar 30 S2_29), (oS, ob 5 fS), (aB, ar 6 B), (aF, ar 6 Fo), (aH, ar 6 Ho), (aL, ar 6 Lt)]) rfl ?_
      have hAL := hA2_33
      have hTL := hT2_34
      have hSL := hS2_35
      refine S_pop X dX11_place_31 ?_
      refine S_aload_n X dX11_place_32 rfl rfl ?_
      refine S_get X fgX11_69_10 0 rfl hf2 dX11_place_33 ?_
      refine S_iload_n X dX11_place_36 rfl rfl ?_
      refine S_iload_n X dX11_place_37 rfl rfl ?_
      refine S_calli X (kX4_inPlace l (uF (uF (uF fP 6 (iv pl)) 7 (iv n)) 8 (iv mk)) pl n ec mk oP aT T2_27 B Fo Ho Lt b i hf5 rfl (by omega) hTL (by omega) (by omega)) (is := [2, 4]) rfl (run_V X lkX11_271 2 rfl rfl (is := [2, 4]) (avs := [iv b, iv i]) (rest := []) rfl rfl (nle rfl) ⟨nle rfl, nle rfl⟩ ⟨nle rfl, nle rfl⟩ dX11_place_38 (by decide) rfl) (fun z_38 u_36 hp_37 => ?_)
      obtain ⟨hz_39, hu_40⟩ := hp_37
      subst hz_39
      subst hu_40
      refine ⟨rfl, ?_⟩
      refine S_w (ws' := [(h0, ob 10 f), (oW, ob 7 fW), (oP, ob 4 (uF (uF (uF fP 6 (iv pl)) 7 (iv n)) 8 (iv mk))), (aA, ar 1206 A2_26), (aT, ar 180 T2_27), (aW, ar 6 W2_28), (aS, ar 30 S2_29), (oS, ob 5 fS), (aB, ar 6 B), (aF, ar 6 Fo), (aH, ar 6 Ho), (aL, ar 6 Lt)]) rfl ?_
      exact S_iret X (nle rfl) (nle rfl) dX11_place_41 (hPo _ _ (⟨_, _, _, _, _, _, _, by unfold aPlace; rw [if_pos (by omega)], rfl⟩))
set_option maxHeartbeats 4000000 in
set_option maxRecDepth 100000 in
theorem kX11_overtakes (l : Launch) (h0 : Nat) (f : Nat → AV) (oW : Nat) (fW : Nat → AV) (fP : Nat → AV) (fS : Nat → AV) (pl : Int) (n : Int) (ec : Int) (mk : Int) (oP : Nat) (oS : Nat) (aA : Nat) (aT : Nat) (aW : Nat) (aS : Nat) (aB : Nat) (aF : Nat) (aH : Nat) (aL : Nat) (Ab : Int → Int) (Tm : Int → Int) (Wq : Int → Int) (Sp : Int → Int) (B : Int → Int) (Fo : Int → Int) (Ho : Int → Int) (Lt : Int → Int) (p0 : Int) (n0 : Int) (k0 : Int) (i : Int) (j : Int) (hf0 : f 3 = rv oW) (hf1 : f 7 = rv oS) (hf2 : f 9 = rv oP) (hf3 : fW 0 = iv pl) (hf4 : fP 0 = rv aA) (hf5 : fP 1 = rv aT) (hf6 : fP 2 = rv aW) (hf7 : fP 3 = rv aS) (hf8 : fS 0 = iv pl) (hf9 : fS 1 = iv n) (hf10 : fS 2 = iv ec) (hf11 : fS 3 = iv mk) (hf12 : fS 4 = rv aB) (hf13 : fS 5 = rv aF) (hf14 : fS 6 = rv aH) (hf15 : fS 7 = rv aL) (hz : okZ pl n ec Fo Ho B Lt) (hx_i : inR i) (hx_j : inR j) : AMi l yX11_overtakes cX11_overtakes 3 .int 4 0 0 [rv h0, iv i, iv j] [(h0, ob 10 f), (oW, ob 7 fW), (oP, ob 4 (uF (uF (uF fP 6 (iv p0)) 7 (iv n0)) 8 (iv k0))), (aA, ar 1206 Ab), (aT, ar 180 Tm), (aW, ar 6 Wq), (aS, ar 30 Sp), (oS, ob 5 fS), (aB, ar 6 B), (aF, ar 6 Fo), (aH, ar 6 Ho), (aL, ar 6 Lt)] (fun z u => ∃ p9 : Int, ∃ n9 : Int, ∃ k9 : Int, ∃ A2 : Int → Int, ∃ T2 : Int → Int, ∃ W2 : Int → Int, ∃ S2 : Int → Int, z = aOver pl n ec mk Fo Ho B Lt i j ∧ u = [(h0, ob 10 f), (oW, ob 7 fW), (oP, ob 4 (uF (uF (uF fP 6 (iv p9)) 7 (iv n9)) 8 (iv k9))), (aA, ar 1206 A2), (aT, ar 180 T2), (aW, ar 6 W2), (aS, ar 30 S2), (oS, ob 5 fS), (aB, ar 6 B), (aF, ar 6 Fo), (aH, ar 6 Ho), (aL, ar 6 Lt)]) := by
  refine AMi.of2 rfl (nle rfl) ?_
  intro D G A p e s m args below meth c Po hPo X
  have hz6 := hz.2.1
  have hz0 := hz.1
  have hzn := hz.2.2.1
  have hzm := hz.2.2.2.1
  have hze := hz.2.2.2.2
  refine S_aload_n X dX11_overtakes_0 rfl rfl ?_
  refine S_iload_n X dX11_overtakes_1 rfl rfl ?_
  refine S_calli X (kX11_isPlayer l h0 f oW fW pl i hf0 hf3 (by omega) (by omega)) (is := [0, 1]) rfl (run_V X lkX11_147 0 rfl rfl (is := [0, 1]) (avs := [iv i]) (rest := []) rfl rfl (nle rfl) ⟨nle rfl, nle rfl⟩ ⟨nle rfl, nle rfl⟩ dX11_overtakes_2 (by decide) rfl) (fun z_3 u_1 hp_2 => ?_)
  rcases hp_2 with ⟨hz_4, hu_5, hp_6⟩ | ⟨hz_7, hu_8, hp_9⟩
  ·
    subst hz_4
    subst hu_5
    refine ⟨rfl, ?_⟩
    refine S_w (ws' := [(h0, ob 10 f), (oW, ob 7 fW), (oP, ob 4 (uF (uF (uF fP 6 (iv p0)) 7 (iv n0)) 8 (iv k0))), (aA, ar 1206 Ab), (aT, ar 180 Tm), (aW, ar 6 Wq), (aS, ar 30 Sp), (oS, ob 5 fS), (aB, ar 6 B), (aF, ar 6 Fo), (aH, ar 6 Ho), (aL, ar 6 Lt)]) rfl ?_
    refine S_if_eq (tgt := 21) X dX11_overtakes_5 (by decide) (by decide) (fun _ => ?_) (fun h9 => absurd h9 (by decide))
    refine S_iconst X dX11_overtakes_21 ?_
    exact S_iret X (nle rfl) (nle rfl) dX11_overtakes_22 (hPo _ _ (⟨_, _, _, _, _, _, _, by unfold aOver; rw [if_neg (by omega)], rfl⟩))
  ·
    subst hz_7
    subst hu_8
    refine ⟨rfl, ?_⟩
    refine S_w (ws' := [(h0, ob 10 f), (oW, ob 7 fW), (oP, ob 4 (uF (uF (uF fP 6 (iv p0)) 7 (iv n0)) 8 (iv k0))), (aA, ar 1206 Ab), (aT, ar 180 Tm), (aW, ar 6 Wq), (aS, ar 30 Sp), (oS, ob 5 fS), (aB, ar 6 B), (aF, ar 6 Fo), (aH, ar 6 Ho), (aL, ar 6 Lt)]) rfl ?_
    refine S_if_eq (tgt := 21) X dX11_overtakes_5 (by decide) (by decide) (fun h9 => absurd h9 (by decide)) (fun _ => ?_)
    refine S_aload_n X dX11_overtakes_8 rfl rfl ?_
    refine S_iload_n X dX11_overtakes_9 rfl rfl ?_
    refine S_calli X (kX11_isPlayer l h0 f oW fW pl j hf0 hf3 (by omega) (by omega)) (is := [0, 1]) rfl (run_V X lkX11_147 0 rfl rfl (is := [0, 1]) (avs := [iv j]) (rest := []) rfl rfl (nle rfl) ⟨nle rfl, nle rfl⟩ ⟨nle rfl, nle rfl⟩ dX11_overtakes_10 (by decide) rfl) (fun z_14 u_12 hp_13 => ?_)
    rcases hp_13 with ⟨hz_15, hu_16, hp_17⟩ | ⟨hz_18, hu_19, hp_20⟩
    ·
      subst hz_15
      subst hu_16
      refine ⟨rfl, ?_⟩
      refine S_w (ws' := [(h0, ob 10 f), (oW, ob 7 fW), (oP, ob 4 (uF (uF (uF fP 6 (iv p0)) 7 (iv n0)) 8 (iv k0))), (aA, ar 1206 Ab), (aT, ar 180 Tm), (aW, ar 6 Wq), (aS, ar 30 Sp), (oS, ob 5 fS), (aB, ar 6 B), (aF, ar 6 Fo), (aH, ar 6 Ho), (aL, ar 6 Lt)]) rfl ?_
      refine S_if_eq (tgt := 21) X dX11_overtakes_13 (by decide) (by decide) (fun _ => ?_) (fun h9 => absurd h9 (by decide))
      refine S_iconst X dX11_overtakes_21 ?_
      exact S_iret X (nle rfl) (nle rfl) dX11_overtakes_22 (hPo _ _ (⟨_, _, _, _, _, _, _, by unfold aOver; rw [if_neg (by omega)], rfl⟩))
    ·
      subst hz_18
      subst hu_19
      refine ⟨rfl, ?_⟩
      refine S_w (ws' := [(h0, ob 10 f), (oW, ob 7 fW), (oP, ob 4 (uF (uF (uF fP 6 (iv p0)) 7 (iv n0)) 8 (iv k0))), (aA, ar 1206 Ab), (aT, ar 180 Tm), (aW, ar 6 Wq), (aS, ar 30 Sp), (oS, ob 5 fS), (aB, ar 6 B), (aF, ar 6 Fo), (aH, ar 6 Ho), (aL, ar 6 Lt)]) rfl ?_
      refine S_if_eq (tgt := 21) X dX11_overtakes_13 (by decide) (by decide) (fun h9 => absurd h9 (by decide)) (fun _ => ?_)
      refine S_iload_n X dX11_overtakes_16 rfl rfl ?_
      refine S_iload_n X dX11_overtakes_17 rfl rfl ?_
      refine S_icmp_ne (tgt := 23) X dX11_overtakes_18 (by decide) (by omega) (by omega) (fun c_23 => ?_) (fun c_23 => ?_)
      ·
        have hok := hz.s (by omega)
        have hpl := hok.2.1
        have hpl1 := hok.1
        have hn1 := hok.2.2.1
        have hn2 := hok.2.2.2.1
        have hec := hok.2.2.2.2
        refine S_aload_n X dX11_overtakes_23 rfl rfl ?_
        refine S_get X fgX11_69_10 0 rfl hf2 dX11_overtakes_24 ?_
        refine S_aload_n X dX11_overtakes_27 rfl rfl ?_
        refine S_get X fgX11_59_10 0 rfl hf1 dX11_overtakes_28 ?_
        refine S_ldc (n := 1000000000) X m813 dX11_overtakes_31 ?_
        refine S_calli X (kX4_performE l fP fS pl n ec mk oP oS aA aT aW aS aB aF aH aL Ab Tm Wq Sp B Fo Ho Lt p0 n0 k0 hf4 hf5 hf6 hf7 hf8 hf9 hf10 hf11 hf12 hf13 hf14 hf15 (by omega)) (is := [2, 3, 4, 5, 6, 7, 8, 9, 10, 11]) rfl (run_V X lkX11_235 2 rfl rfl (is := [2, 3, 4, 5, 6, 7, 8, 9, 10, 11]) (avs := [rv oS, iv 1000000000]) (rest := []) rfl rfl (nle rfl) ⟨nle rfl, nle rfl⟩ ⟨nle rfl, nle rfl⟩ dX11_overtakes_33 (by decide) rfl) (fun z_26 u_24 hp_25 => ?_)
        obtain ⟨A2_27, T2_28, W2_29, S2_30, hz_31, hu_32, hq_33, hA2_34, hT2_35, hS2_36⟩ := hp_25
        subst hz_31
        subst hu_32
        refine ⟨rfl, ?_⟩
        refine S_w (ws' := [(h0, ob 10 f), (oW, ob 7 fW), (oP, ob 4 (uF (uF (uF fP 6 (iv pl)) 7 (iv n)) 8 (iv mk))), (aA, ar 1206 A2_27), (aT, ar 180 T2_28), (aW, ar 6 W2_29), (aS, ar 30 S2_30), (oS, ob 5 fS), (aB, ar 6 B), (aF, ar 6 Fo), (aH, ar 6 Ho), (aL, ar 6 Lt)]) rfl ?_
        have hAL := hA2_34
        have hTL := hT2_35
        have hSL := hS2_36
        refine S_pop X dX11_overtakes_36 ?_
        refine S_aload_n X dX11_overtakes_37 rfl rfl ?_
        refine S_get X fgX11_69_10 0 rfl hf2 dX11_overtakes_38 ?_
        refine S_iload_n X dX11_overtakes_41 rfl rfl ?_
        refine S_iload_n X dX11_overtakes_42 rfl rfl ?_
        refine S_calli X (kX4_turns l (uF (uF (uF fP 6 (iv pl)) 7 (iv n)) 8 (iv mk)) pl n ec mk oP aT T2_28 B Fo Ho Lt i j hf5 rfl rfl (by omega) hTL (by omega) (by omega)) (is := [2, 4]) rfl (run_V X lkX11_274 2 rfl rfl (is := [2, 4]) (avs := [iv i, iv j]) (rest := []) rfl rfl (nle rfl) ⟨nle rfl, nle rfl⟩ ⟨nle rfl, nle rfl⟩ dX11_overtakes_43 (by decide) rfl) (fun z_39 u_37 hp_38 => ?_)
        obtain ⟨hz_40, hu_41⟩ := hp_38
        subst hz_40
        subst hu_41
        refine ⟨rfl, ?_⟩
        refine S_w (ws' := [(h0, ob 10 f), (oW, ob 7 fW), (oP, ob 4 (uF (uF (uF fP 6 (iv pl)) 7 (iv n)) 8 (iv mk))), (aA, ar 1206 A2_27), (aT, ar 180 T2_28), (aW, ar 6 W2_29), (aS, ar 30 S2_30), (oS, ob 5 fS), (aB, ar 6 B), (aF, ar 6 Fo), (aH, ar 6 Ho), (aL, ar 6 Lt)]) rfl ?_
        exact S_iret X (nle rfl) (nle rfl) dX11_overtakes_46 (hPo _ _ (⟨_, _, _, _, _, _, _, by unfold aOver; rw [if_pos (by omega)]; try rfl, rfl⟩))
      ·
        refine S_iconst X dX11_overtakes_21 ?_
        exact S_iret X (nle rfl) (nle rfl) dX11_overtakes_22 (hPo _ _ (⟨_, _, _, _, _, _, _, by unfold aOver; rw [if_neg (by omega)], rfl⟩))
set_option maxHeartbeats 4000000 in
set_option maxRecDepth 100000 in
theorem kX11_middle (l : Launch) (h0 : Nat) (f : Nat → AV) (oW : Nat) (fW : Nat → AV) (fP : Nat → AV) (fS : Nat → AV) (pl : Int) (n : Int) (ec : Int) (mk : Int) (oP : Nat) (oS : Nat) (aA : Nat) (aT : Nat) (aW : Nat) (aS : Nat) (aB : Nat) (aF : Nat) (aH : Nat) (aL : Nat) (Ab : Int → Int) (Tm : Int → Int) (Wq : Int → Int) (Sp : Int → Int) (B : Int → Int) (Fo : Int → Int) (Ho : Int → Int) (Lt : Int → Int) (p0 : Int) (n0 : Int) (k0 : Int) (hf0 : f 3 = rv oW) (hf1 : f 7 = rv oS) (hf2 : f 9 = rv oP) (hf3 : fW 0 = iv pl) (hf4 : fP 0 = rv aA) (hf5 : fP 1 = rv aT) (hf6 : fP 2 = rv aW) (hf7 : fP 3 = rv aS) (hf8 : fS 0 = iv pl) (hf9 : fS 1 = iv n) (hf10 : fS 2 = iv ec) (hf11 : fS 3 = iv mk) (hf12 : fS 4 = rv aB) (hf13 : fS 5 = rv aF) (hf14 : fS 6 = rv aH) (hf15 : fS 7 = rv aL) (hz : okZ pl n ec Fo Ho B Lt) : AMi l yX11_middle cX11_middle 1 .int 4 0 0 [rv h0] [(h0, ob 10 f), (oW, ob 7 fW), (oP, ob 4 (uF (uF (uF fP 6 (iv p0)) 7 (iv n0)) 8 (iv k0))), (aA, ar 1206 Ab), (aT, ar 180 Tm), (aW, ar 6 Wq), (aS, ar 30 Sp), (oS, ob 5 fS), (aB, ar 6 B), (aF, ar 6 Fo), (aH, ar 6 Ho), (aL, ar 6 Lt)] (fun z u => ∃ p9 : Int, ∃ n9 : Int, ∃ k9 : Int, ∃ A2 : Int → Int, ∃ T2 : Int → Int, ∃ W2 : Int → Int, ∃ S2 : Int → Int, z = aMiddle pl n ec mk Fo Ho B Lt ∧ u = [(h0, ob 10 f), (oW, ob 7 fW), (oP, ob 4 (uF (uF (uF fP 6 (iv p9)) 7 (iv n9)) 8 (iv k9))), (aA, ar 1206 A2), (aT, ar 180 T2), (aW, ar 6 W2), (aS, ar 30 S2), (oS, ob 5 fS), (aB, ar 6 B), (aF, ar 6 Fo), (aH, ar 6 Ho), (aL, ar 6 Lt)]) := by
  refine AMi.of2 rfl (nle rfl) ?_
  intro D G A p e s m args below meth c Po hPo X
  have hz6 := hz.2.1
  have hz0 := hz.1
  have hzn := hz.2.2.1
  have hzm := hz.2.2.2.1
  have hze := hz.2.2.2.2
  refine S_aload_n X dX11_middle_0 rfl rfl ?_
  refine S_get X fgX11_35_10 0 rfl hf0 dX11_middle_1 ?_
  refine S_get X fgX11_115_7 1 rfl hf3 dX11_middle_4 ?_
  refine S_if_ne (tgt := 12) X dX11_middle_7 (by decide) (by omega) (fun c_1 => ?_) (fun c_1 => ?_)
  ·
    have hok := hz.s (by omega)
    have hpl := hok.2.1
    have hpl1 := hok.1
    have hn1 := hok.2.2.1
    have hn2 := hok.2.2.2.1
    have hec := hok.2.2.2.2
    refine S_aload_n X dX11_middle_12 rfl rfl ?_
    refine S_get X fgX11_69_10 0 rfl hf2 dX11_middle_13 ?_
    refine S_aload_n X dX11_middle_16 rfl rfl ?_
    refine S_get X fgX11_59_10 0 rfl hf1 dX11_middle_17 ?_
    refine S_ldc (n := 1000000000) X m813 dX11_middle_20 ?_
    refine S_calli X (kX4_performE l fP fS pl n ec mk oP oS aA aT aW aS aB aF aH aL Ab Tm Wq Sp B Fo Ho Lt p0 n0 k0 hf4 hf5 hf6 hf7 hf8 hf9 hf10 hf11 hf12 hf13 hf14 hf15 (by omega)) (is := [2, 3, 4, 5, 6, 7, 8, 9, 10, 11]) rfl (run_V X lkX11_235 2 rfl rfl (is := [2, 3, 4, 5, 6, 7, 8, 9, 10, 11]) (avs := [rv oS, iv 1000000000]) (rest := []) rfl rfl (nle rfl) ⟨nle rfl, nle rfl⟩ ⟨nle rfl, nle rfl⟩ dX11_middle_22 (by decide) rfl) (fun z_4 u_2 hp_3 => ?_)
    obtain ⟨A2_5, T2_6, W2_7, S2_8, hz_9, hu_10, hq_11, hA2_12, hT2_13, hS2_14⟩ := hp_3
    subst hz_9
    subst hu_10
    refine ⟨rfl, ?_⟩
    refine S_w (ws' := [(h0, ob 10 f), (oW, ob 7 fW), (oP, ob 4 (uF (uF (uF fP 6 (iv pl)) 7 (iv n)) 8 (iv mk))), (aA, ar 1206 A2_5), (aT, ar 180 T2_6), (aW, ar 6 W2_7), (aS, ar 30 S2_8), (oS, ob 5 fS), (aB, ar 6 B), (aF, ar 6 Fo), (aH, ar 6 Ho), (aL, ar 6 Lt)]) rfl ?_
    have hAL := hA2_12
    have hTL := hT2_13
    have hSL := hS2_14
    refine S_pop X dX11_middle_25 ?_
    refine S_aload_n X dX11_middle_26 rfl rfl ?_
    refine S_get X fgX11_69_10 0 rfl hf2 dX11_middle_27 ?_
    refine S_calli X (kX4_innermost l (uF (uF (uF fP 6 (iv pl)) 7 (iv n)) 8 (iv mk)) pl n ec mk oP aT T2_6 B Fo Ho Lt hf5 rfl rfl (by omega) hTL) (is := [2, 4]) rfl (run_V X lkX11_277 2 rfl rfl (is := [2, 4]) (avs := []) (rest := []) rfl rfl (nle rfl) ⟨nle rfl, nle rfl⟩ ⟨nle rfl, nle rfl⟩ dX11_middle_30 (by decide) rfl) (fun z_17 u_15 hp_16 => ?_)
    obtain ⟨hz_18, hu_19⟩ := hp_16
    subst hz_18
    subst hu_19
    refine ⟨rfl, ?_⟩
    refine S_w (ws' := [(h0, ob 10 f), (oW, ob 7 fW), (oP, ob 4 (uF (uF (uF fP 6 (iv pl)) 7 (iv n)) 8 (iv mk))), (aA, ar 1206 A2_5), (aT, ar 180 T2_6), (aW, ar 6 W2_7), (aS, ar 30 S2_8), (oS, ob 5 fS), (aB, ar 6 B), (aF, ar 6 Fo), (aH, ar 6 Ho), (aL, ar 6 Lt)]) rfl ?_
    exact S_iret X (nle rfl) (nle rfl) dX11_middle_33 (hPo _ _ (⟨_, _, _, _, _, _, _, by unfold aMiddle; rw [if_pos (by omega)]; try rfl, rfl⟩))
  ·
    refine S_iconst X dX11_middle_10 ?_
    exact S_iret X (nle rfl) (nle rfl) dX11_middle_11 (hPo _ _ (⟨_, _, _, _, _, _, _, by unfold aMiddle; rw [if_neg (by omega)], rfl⟩))
set_option maxHeartbeats 4000000 in
set_option maxRecDepth 100000 in
theorem kX11_ends (l : Launch) (h0 : Nat) (f : Nat → AV) (oW : Nat) (fW : Nat → AV) (fP : Nat → AV) (fS : Nat → AV) (pl : Int) (n : Int) (ec : Int) (mk : Int) (oP : Nat) (oS : Nat) (aA : Nat) (aT : Nat) (aW : Nat) (aS : Nat) (aB : Nat) (aF : Nat) (aH : Nat) (aL : Nat) (Ab : Int → Int) (Tm : Int → Int) (Wq : Int → Int) (Sp : Int → Int) (B : Int → Int) (Fo : Int → Int) (Ho : Int → Int) (Lt : Int → Int) (p0 : Int) (n0 : Int) (k0 : Int) (v : Int) (hf0 : f 3 = rv oW) (hf1 : f 7 = rv oS) (hf2 : f 9 = rv oP) (hf3 : fW 0 = iv pl) (hf4 : fP 0 = rv aA) (hf5 : fP 1 = rv aT) (hf6 : fP 2 = rv aW) (hf7 : fP 3 = rv aS) (hf8 : fS 0 = iv pl) (hf9 : fS 1 = iv n) (hf10 : fS 2 = iv ec) (hf11 : fS 3 = iv mk) (hf12 : fS 4 = rv aB) (hf13 : fS 5 = rv aF) (hf14 : fS 6 = rv aH) (hf15 : fS 7 = rv aL) (hz : okZ pl n ec Fo Ho B Lt) (hx_v : inR v) : AMi l yX11_ends cX11_ends 4 .int 4 0 0 [rv h0, iv v] [(h0, ob 10 f), (oW, ob 7 fW), (oP, ob 4 (uF (uF (uF fP 6 (iv p0)) 7 (iv n0)) 8 (iv k0))), (aA, ar 1206 Ab), (aT, ar 180 Tm), (aW, ar 6 Wq), (aS, ar 30 Sp), (oS, ob 5 fS), (aB, ar 6 B), (aF, ar 6 Fo), (aH, ar 6 Ho), (aL, ar 6 Lt)] (fun z u => ∃ p9 : Int, ∃ n9 : Int, ∃ k9 : Int, ∃ A2 : Int → Int, ∃ T2 : Int → Int, ∃ W2 : Int → Int, ∃ S2 : Int → Int, z = aEnds pl n ec mk Fo Ho B Lt v ∧ u = [(h0, ob 10 f), (oW, ob 7 fW), (oP, ob 4 (uF (uF (uF fP 6 (iv p9)) 7 (iv n9)) 8 (iv k9))), (aA, ar 1206 A2), (aT, ar 180 T2), (aW, ar 6 W2), (aS, ar 30 S2), (oS, ob 5 fS), (aB, ar 6 B), (aF, ar 6 Fo), (aH, ar 6 Ho), (aL, ar 6 Lt)]) := by
  refine AMi.of2 rfl (nle rfl) ?_
  intro D G A p e s m args below meth c Po hPo X
  have hz6 := hz.2.1
  have hz0 := hz.1
  have hzn := hz.2.2.1
  have hzm := hz.2.2.2.1
  have hze := hz.2.2.2.2
  refine S_aload_n X dX11_ends_0 rfl rfl ?_
  refine S_iload_n X dX11_ends_1 rfl rfl ?_
  refine S_calli X (kX11_isOneOfTwo l h0 f oW fW pl v hf0 hf3 (by omega) (by omega)) (is := [0, 1]) rfl (run_V X lkX11_252 0 rfl rfl (is := [0, 1]) (avs := [iv v]) (rest := []) rfl rfl (nle rfl) ⟨nle rfl, nle rfl⟩ ⟨nle rfl, nle rfl⟩ dX11_ends_2 (by decide) rfl) (fun z_3 u_1 hp_2 => ?_)
  rcases hp_2 with ⟨hz_4, hu_5, hp_6⟩ | ⟨hz_7, hu_8, hp_9⟩
  ·
    subst hz_4
    subst hu_5
    refine ⟨rfl, ?_⟩
    refine S_w (ws' := [(h0, ob 10 f), (oW, ob 7 fW), (oP, ob 4 (uF (uF (uF fP 6 (iv p0)) 7 (iv n0)) 8 (iv k0))), (aA, ar 1206 Ab), (aT, ar 180 Tm), (aW, ar 6 Wq), (aS, ar 30 Sp), (oS, ob 5 fS), (aB, ar 6 B), (aF, ar 6 Fo), (aH, ar 6 Ho), (aL, ar 6 Lt)]) rfl ?_
    refine S_if_ne (tgt := 10) X dX11_ends_5 (by decide) (by decide) (fun h9 => absurd h9 (by decide)) (fun _ => ?_)
    refine S_iconst X dX11_ends_8 ?_
    exact S_iret X (nle rfl) (nle rfl) dX11_ends_9 (hPo _ _ (⟨_, _, _, _, _, _, _, by unfold aEnds; rw [if_neg (by omega)], rfl⟩))
  ·
    subst hz_7
    subst hu_8
    refine ⟨rfl, ?_⟩
    refine S_w (ws' := [(h0, ob 10 f), (oW, ob 7 fW), (oP, ob 4 (uF (uF (uF fP 6 (iv p0)) 7 (iv n0)) 8 (iv k0))), (aA, ar 1206 Ab), (aT, ar 180 Tm), (aW, ar 6 Wq), (aS, ar 30 Sp), (oS, ob 5 fS), (aB, ar 6 B), (aF, ar 6 Fo), (aH, ar 6 Ho), (aL, ar 6 Lt)]) rfl ?_
    refine S_if_ne (tgt := 10) X dX11_ends_5 (by decide) (by decide) (fun _ => ?_) (fun h9 => absurd h9 (by decide))
    have hok := hz.s (by omega)
    have hpl := hok.2.1
    have hpl1 := hok.1
    have hn1 := hok.2.2.1
    have hn2 := hok.2.2.2.1
    have hec := hok.2.2.2.2
    refine S_aload_n X dX11_ends_10 rfl rfl ?_
    refine S_get X fgX11_69_10 0 rfl hf2 dX11_ends_11 ?_
    refine S_aload_n X dX11_ends_14 rfl rfl ?_
    refine S_get X fgX11_59_10 0 rfl hf1 dX11_ends_15 ?_
    refine S_ldc (n := 1000000000) X m813 dX11_ends_18 ?_
    refine S_calli X (kX4_performE l fP fS pl n ec mk oP oS aA aT aW aS aB aF aH aL Ab Tm Wq Sp B Fo Ho Lt p0 n0 k0 hf4 hf5 hf6 hf7 hf8 hf9 hf10 hf11 hf12 hf13 hf14 hf15 (by omega)) (is := [2, 3, 4, 5, 6, 7, 8, 9, 10, 11]) rfl (run_V X lkX11_235 2 rfl rfl (is := [2, 3, 4, 5, 6, 7, 8, 9, 10, 11]) (avs := [rv oS, iv 1000000000]) (rest := []) rfl rfl (nle rfl) ⟨nle rfl, nle rfl⟩ ⟨nle rfl, nle rfl⟩ dX11_ends_20 (by decide) rfl) (fun z_14 u_12 hp_13 => ?_)
    obtain ⟨A2_15, T2_16, W2_17, S2_18, hz_19, hu_20, hq_21, hA2_22, hT2_23, hS2_24⟩ := hp_13
    subst hz_19
    subst hu_20
    refine ⟨rfl, ?_⟩
    refine S_w (ws' := [(h0, ob 10 f), (oW, ob 7 fW), (oP, ob 4 (uF (uF (uF fP 6 (iv pl)) 7 (iv n)) 8 (iv mk))), (aA, ar 1206 A2_15), (aT, ar 180 T2_16), (aW, ar 6 W2_17), (aS, ar 30 S2_18), (oS, ob 5 fS), (aB, ar 6 B), (aF, ar 6 Fo), (aH, ar 6 Ho), (aL, ar 6 Lt)]) rfl ?_
    have hAL := hA2_22
    have hTL := hT2_23
    have hSL := hS2_24
    refine S_pop X dX11_ends_23 ?_
    refine S_aload_n X dX11_ends_24 rfl rfl ?_
    refine S_get X fgX11_59_10 0 rfl hf1 dX11_ends_25 ?_
    refine S_get X fgX11_182_5 7 rfl hf9 dX11_ends_28 ?_
    refine S_iconst X dX11_ends_31 ?_
    refine S_isub X dX11_ends_32 ?_
    refine S_istore_n X dX11_ends_33 rfl (nle rfl) ?_
    refine S_aload_n X dX11_ends_34 rfl rfl ?_
    refine S_get X fgX11_69_10 0 rfl hf2 dX11_ends_35 ?_
    refine S_iload_n X dX11_ends_38 rfl rfl ?_
    refine S_calli X (kX4_greatestIn l (uF (uF (uF fP 6 (iv pl)) 7 (iv n)) 8 (iv mk)) pl n ec mk oP aT T2_16 B Fo Ho Lt (n - 1) hf5 rfl (by omega) hTL (by omega)) (is := [2, 4]) rfl (run_V X lkX11_280 2 rfl rfl (is := [2, 4]) (avs := [iv (n - 1)]) (rest := []) rfl rfl (nle rfl) ⟨nle rfl, nle rfl⟩ ⟨nle rfl, nle rfl⟩ dX11_ends_39 (by decide) rfl) (fun z_27 u_25 hp_26 => ?_)
    obtain ⟨hz_28, hu_29⟩ := hp_26
    subst hz_28
    subst hu_29
    refine ⟨rfl, ?_⟩
    refine S_w (ws' := [(h0, ob 10 f), (oW, ob 7 fW), (oP, ob 4 (uF (uF (uF fP 6 (iv pl)) 7 (iv n)) 8 (iv mk))), (aA, ar 1206 A2_15), (aT, ar 180 T2_16), (aW, ar 6 W2_17), (aS, ar 30 S2_18), (oS, ob 5 fS), (aB, ar 6 B), (aF, ar 6 Fo), (aH, ar 6 Ho), (aL, ar 6 Lt)]) rfl ?_
    refine S_istore_n X dX11_ends_42 rfl (nle rfl) ?_
    refine S_iload_n X dX11_ends_43 rfl rfl ?_
    refine S_if_ne (tgt := 51) X dX11_ends_44 (by decide) (by omega) (fun c_30 => ?_) (fun c_30 => ?_)
    ·
      refine S_iload_n X dX11_ends_51 rfl rfl ?_
      refine S_aload_n X dX11_ends_52 rfl rfl ?_
      refine S_get X fgX11_69_10 0 rfl hf2 dX11_ends_53 ?_
      refine S_get X fgX11_249_4 2 rfl hf7 dX11_ends_56 ?_
      refine S_iload_n X dX11_ends_59 rfl rfl ?_
      refine S_iald X 6 rfl (by omega) (by omega) (nle rfl) dX11_ends_60 ?_
      refine S_isub X dX11_ends_61 ?_
      exact S_iret X (nle rfl) (nle rfl) dX11_ends_62 (hPo _ _ (⟨_, _, _, _, _, _, _, by unfold aEnds; rw [if_pos (by omega)]; rw [if_neg (by omega), hSL (n - 1) (by omega) (by omega)], rfl⟩))
    ·
      refine S_iload_n X dX11_ends_47 rfl rfl ?_
      refine S_goto (tgt := 62) X dX11_ends_48 (by decide) ?_
      exact S_iret X (nle rfl) (nle rfl) dX11_ends_62 (hPo _ _ (⟨_, _, _, _, _, _, _, by unfold aEnds; rw [if_pos (by omega)]; rw [if_pos (by omega)], rfl⟩))
set_option maxHeartbeats 4000000 in
set_option maxRecDepth 100000 in
theorem kX11_stray (l : Launch) (h0 : Nat) (f : Nat → AV) (oW : Nat) (fW : Nat → AV) (fP : Nat → AV) (fS : Nat → AV) (pl : Int) (n : Int) (ec : Int) (mk : Int) (oP : Nat) (oS : Nat) (aA : Nat) (aT : Nat) (aW : Nat) (aS : Nat) (aB : Nat) (aF : Nat) (aH : Nat) (aL : Nat) (Ab : Int → Int) (Tm : Int → Int) (Wq : Int → Int) (Sp : Int → Int) (B : Int → Int) (Fo : Int → Int) (Ho : Int → Int) (Lt : Int → Int) (p0 : Int) (n0 : Int) (k0 : Int) (q : Int) (v : Int) (hf0 : f 3 = rv oW) (hf1 : f 7 = rv oS) (hf2 : f 9 = rv oP) (hf3 : fW 0 = iv pl) (hf4 : fP 0 = rv aA) (hf5 : fP 1 = rv aT) (hf6 : fP 2 = rv aW) (hf7 : fP 3 = rv aS) (hf8 : fS 0 = iv pl) (hf9 : fS 1 = iv n) (hf10 : fS 2 = iv ec) (hf11 : fS 3 = iv mk) (hf12 : fS 4 = rv aB) (hf13 : fS 5 = rv aF) (hf14 : fS 6 = rv aH) (hf15 : fS 7 = rv aL) (hz : okZ pl n ec Fo Ho B Lt) (hx_q : inR q) (hx_v : inR v) : AMi l yX11_stray cX11_stray 3 .int 4 0 0 [rv h0, iv q, iv v] [(h0, ob 10 f), (oW, ob 7 fW), (oP, ob 4 (uF (uF (uF fP 6 (iv p0)) 7 (iv n0)) 8 (iv k0))), (aA, ar 1206 Ab), (aT, ar 180 Tm), (aW, ar 6 Wq), (aS, ar 30 Sp), (oS, ob 5 fS), (aB, ar 6 B), (aF, ar 6 Fo), (aH, ar 6 Ho), (aL, ar 6 Lt)] (fun z u => ∃ p9 : Int, ∃ n9 : Int, ∃ k9 : Int, ∃ A2 : Int → Int, ∃ T2 : Int → Int, ∃ W2 : Int → Int, ∃ S2 : Int → Int, z = aStray pl n ec Fo Ho B q v ∧ u = [(h0, ob 10 f), (oW, ob 7 fW), (oP, ob 4 (uF (uF (uF fP 6 (iv p9)) 7 (iv n9)) 8 (iv k9))), (aA, ar 1206 A2), (aT, ar 180 T2), (aW, ar 6 W2), (aS, ar 30 S2), (oS, ob 5 fS), (aB, ar 6 B), (aF, ar 6 Fo), (aH, ar 6 Ho), (aL, ar 6 Lt)]) := by
  refine AMi.of2 rfl (nle rfl) ?_
  intro D G A p e s m args below meth c Po hPo X
  have hz6 := hz.2.1
  have hz0 := hz.1
  have hzn := hz.2.2.1
  have hzm := hz.2.2.2.1
  have hze := hz.2.2.2.2
  refine S_aload_n X dX11_stray_0 rfl rfl ?_
  refine S_iload_n X dX11_stray_1 rfl rfl ?_
  refine S_calli X (kX11_isPlayer l h0 f oW fW pl q hf0 hf3 (by omega) (by omega)) (is := [0, 1]) rfl (run_V X lkX11_147 0 rfl rfl (is := [0, 1]) (avs := [iv q]) (rest := []) rfl rfl (nle rfl) ⟨nle rfl, nle rfl⟩ ⟨nle rfl, nle rfl⟩ dX11_stray_2 (by decide) rfl) (fun z_3 u_1 hp_2 => ?_)
  rcases hp_2 with ⟨hz_4, hu_5, hp_6⟩ | ⟨hz_7, hu_8, hp_9⟩
  ·
    subst hz_4
    subst hu_5
    refine ⟨rfl, ?_⟩
    refine S_w (ws' := [(h0, ob 10 f), (oW, ob 7 fW), (oP, ob 4 (uF (uF (uF fP 6 (iv p0)) 7 (iv n0)) 8 (iv k0))), (aA, ar 1206 Ab), (aT, ar 180 Tm), (aW, ar 6 Wq), (aS, ar 30 Sp), (oS, ob 5 fS), (aB, ar 6 B), (aF, ar 6 Fo), (aH, ar 6 Ho), (aL, ar 6 Lt)]) rfl ?_
    refine S_if_eq (tgt := 19) X dX11_stray_5 (by decide) (by decide) (fun _ => ?_) (fun h9 => absurd h9 (by decide))
    refine S_iconst X dX11_stray_19 ?_
    exact S_iret X (nle rfl) (nle rfl) dX11_stray_20 (hPo _ _ (⟨_, _, _, _, _, _, _, by unfold aStray; rw [if_neg (by omega)], rfl⟩))
  ·
    subst hz_7
    subst hu_8
    refine ⟨rfl, ?_⟩
    refine S_w (ws' := [(h0, ob 10 f), (oW, ob 7 fW), (oP, ob 4 (uF (uF (uF fP 6 (iv p0)) 7 (iv n0)) 8 (iv k0))), (aA, ar 1206 Ab), (aT, ar 180 Tm), (aW, ar 6 Wq), (aS, ar 30 Sp), (oS, ob 5 fS), (aB, ar 6 B), (aF, ar 6 Fo), (aH, ar 6 Ho), (aL, ar 6 Lt)]) rfl ?_
    refine S_if_eq (tgt := 19) X dX11_stray_5 (by decide) (by decide) (fun h9 => absurd h9 (by decide)) (fun _ => ?_)
    refine S_iload_n X dX11_stray_8 rfl rfl ?_
    refine S_iconst X dX11_stray_9 ?_
    refine S_icmp_lt (tgt := 19) X dX11_stray_10 (by decide) (by omega) (by decide) (fun c_12 => ?_) (fun c_12 => ?_)
    ·
      refine S_iconst X dX11_stray_19 ?_
      exact S_iret X (nle rfl) (nle rfl) dX11_stray_20 (hPo _ _ (⟨_, _, _, _, _, _, _, by unfold aStray; rw [if_neg (by omega)], rfl⟩))
    ·
      refine S_iload_n X dX11_stray_13 rfl rfl ?_
      refine S_bipush X dX11_stray_14 rfl ?_
      refine S_icmp_le (tgt := 21) X dX11_stray_16 (by decide) (by omega) (by decide) (fun c_13 => ?_) (fun c_13 => ?_)
      ·
        have hok := hz.s (by omega)
        have hpl := hok.2.1
        have hpl1 := hok.1
        have hn1 := hok.2.2.1
        have hn2 := hok.2.2.2.1
        have hec := hok.2.2.2.2
        refine S_aload_n X dX11_stray_21 rfl rfl ?_
        refine S_get X fgX11_69_10 0 rfl hf2 dX11_stray_22 ?_
        refine S_aload_n X dX11_stray_25 rfl rfl ?_
        refine S_get X fgX11_59_10 0 rfl hf1 dX11_stray_26 ?_
        refine S_ldc (n := 1000000000) X m813 dX11_stray_29 ?_
        refine S_calli X (kX4_performE l fP fS pl n ec mk oP oS aA aT aW aS aB aF aH aL Ab Tm Wq Sp B Fo Ho Lt p0 n0 k0 hf4 hf5 hf6 hf7 hf8 hf9 hf10 hf11 hf12 hf13 hf14 hf15 (by omega)) (is := [2, 3, 4, 5, 6, 7, 8, 9, 10, 11]) rfl (run_V X lkX11_235 2 rfl rfl (is := [2, 3, 4, 5, 6, 7, 8, 9, 10, 11]) (avs := [rv oS, iv 1000000000]) (rest := []) rfl rfl (nle rfl) ⟨nle rfl, nle rfl⟩ ⟨nle rfl, nle rfl⟩ dX11_stray_31 (by decide) rfl) (fun z_16 u_14 hp_15 => ?_)
        obtain ⟨A2_17, T2_18, W2_19, S2_20, hz_21, hu_22, hq_23, hA2_24, hT2_25, hS2_26⟩ := hp_15
        subst hz_21
        subst hu_22
        refine ⟨rfl, ?_⟩
        refine S_w (ws' := [(h0, ob 10 f), (oW, ob 7 fW), (oP, ob 4 (uF (uF (uF fP 6 (iv pl)) 7 (iv n)) 8 (iv mk))), (aA, ar 1206 A2_17), (aT, ar 180 T2_18), (aW, ar 6 W2_19), (aS, ar 30 S2_20), (oS, ob 5 fS), (aB, ar 6 B), (aF, ar 6 Fo), (aH, ar 6 Ho), (aL, ar 6 Lt)]) rfl ?_
        have hAL := hA2_24
        have hTL := hT2_25
        have hSL := hS2_26
        refine S_pop X dX11_stray_34 ?_
        refine S_aload_n X dX11_stray_35 rfl rfl ?_
        refine S_get X fgX11_69_10 0 rfl hf2 dX11_stray_36 ?_
        refine S_iload_n X dX11_stray_39 rfl rfl ?_
        refine S_iload_n X dX11_stray_40 rfl rfl ?_
        refine S_calli X (kX4_firstChange l (uF (uF (uF fP 6 (iv pl)) 7 (iv n)) 8 (iv mk)) pl n ec oP aA A2_17 B Fo Ho Lt q v hf4 rfl (by omega) hAL (by omega) (by omega)) (is := [2, 3]) rfl (run_V X lkX11_283 2 rfl rfl (is := [2, 3]) (avs := [iv q, iv v]) (rest := []) rfl rfl (nle rfl) ⟨nle rfl, nle rfl⟩ ⟨nle rfl, nle rfl⟩ dX11_stray_41 (by decide) rfl) (fun z_29 u_27 hp_28 => ?_)
        obtain ⟨hz_30, hu_31⟩ := hp_28
        subst hz_30
        subst hu_31
        refine ⟨rfl, ?_⟩
        refine S_w (ws' := [(h0, ob 10 f), (oW, ob 7 fW), (oP, ob 4 (uF (uF (uF fP 6 (iv pl)) 7 (iv n)) 8 (iv mk))), (aA, ar 1206 A2_17), (aT, ar 180 T2_18), (aW, ar 6 W2_19), (aS, ar 30 S2_20), (oS, ob 5 fS), (aB, ar 6 B), (aF, ar 6 Fo), (aH, ar 6 Ho), (aL, ar 6 Lt)]) rfl ?_
        exact S_iret X (nle rfl) (nle rfl) dX11_stray_44 (hPo _ _ (⟨_, _, _, _, _, _, _, by unfold aStray; rw [if_pos (by omega)]; try rfl, rfl⟩))
      ·
        refine S_iconst X dX11_stray_19 ?_
        exact S_iret X (nle rfl) (nle rfl) dX11_stray_20 (hPo _ _ (⟨_, _, _, _, _, _, _, by unfold aStray; rw [if_neg (by omega)], rfl⟩))
end pt_67cf1
/- 68.cf2.lean.txt -/
section pt_68cf2
def rcN (F : Int → Int) : Nat → Int → Int → Int
  | 0, b, _ => b
  | k + 1, b, x => if x = -1 then b else rcN F k (zOr b (zShl 1 x)) (F x)
def aRingC (pl : Int) (F : Int → Int) (p : Int) : Int := if 0 ≤ p ∧ p < pl then rcN F 6 0 (itI F 6 p) else -1
def hcN (F : Int → Int) : Nat → Int → Int
  | 0, x => x
  | k + 1, x => if F x = -1 then x else hcN F k (F x)
def aHeadC (pl : Int) (F : Int → Int) (p : Int) : Int := if 0 ≤ p ∧ p < pl ∧ itI F 6 p = -1 then hcN F 6 p else -1
theorem itI_1 {F : Int → Int} {x : Int} : itI F 1 x = if x = -1 then -1 else F x := rfl
theorem it_in {F : Int → Int} {pl : Int} (hF : ∀ p, 0 ≤ p → p < pl → -1 ≤ F p ∧ F p < pl) {x : Int} (hx : -1 ≤ x ∧ x < pl) : ∀ k, 0 ≤ k → -1 ≤ itI F k x ∧ itI F k x < pl := by
  refine upI hx (fun k hk ih => ?_)
  rw [itI_S hk]
  split
  · omega
  · exact hF _ (by omega) ih.2
theorem rcN_e {F : Int → Int} {k : Nat} {b : Int} : rcN F k b (-1) = b := by cases k <;> rfl
set_option maxHeartbeats 4000000 in
set_option maxRecDepth 100000 in
theorem kX11_mostOf (l : Launch) (h0 : Nat) (f : Nat → AV) (lw : Int) (v : Int) (hf0 : f 13 = iv lw) (hlw : 0 ≤ lw ∧ lw ≤ 4) (hx_v : inR v) : AMi l yX11_mostOf cX11_mostOf 2 .int 0 0 0 [rv h0, iv v] [(h0, ob 10 f)] (fun z u => z = (if v = 0 then lw - 1 else if v = 1 then 30 else if v = 2 then 3 else if v = 3 then 999 else -1000000) ∧ u = [(h0, ob 10 f)]) := by
  refine AMi.of2 rfl (nle rfl) ?_
  intro D G A p e s m args below meth c Po hPo X
  refine S_iload_n X dX11_mostOf_0 rfl rfl ?_
  by_cases hs_1 : v = 0
  · refine S_tswIn (j := 0) (tgt := 32) X dX11_mostOf_1 hs_1 rfl (by decide) (by decide) ?_
    refine S_aload_n X dX11_mostOf_32 rfl rfl ?_
    refine S_get X fgX11_118_10 0 rfl hf0 dX11_mostOf_33 ?_
    refine S_iconst X dX11_mostOf_36 ?_
    refine S_isub X dX11_mostOf_37 ?_
    exact S_iret X (nle rfl) (nle rfl) dX11_mostOf_38 (hPo _ _ (⟨by (repeat' split) <;> omega, rfl⟩))
  by_cases hs_2 : v = 1
  · refine S_tswIn (j := 1) (tgt := 39) X dX11_mostOf_1 hs_2 rfl (by decide) (by decide) ?_
    refine S_bipush X dX11_mostOf_39 rfl ?_
    exact S_iret X (nle rfl) (nle rfl) dX11_mostOf_41 (hPo _ _ (⟨by (repeat' split) <;> omega, rfl⟩))
  by_cases hs_3 : v = 2
  · refine S_tswIn (j := 2) (tgt := 42) X dX11_mostOf_1 hs_3 rfl (by decide) (by decide) ?_
    refine S_iconst X dX11_mostOf_42 ?_
    exact S_iret X (nle rfl) (nle rfl) dX11_mostOf_43 (hPo _ _ (⟨by (repeat' split) <;> omega, rfl⟩))
  by_cases hs_4 : v = 3
  · refine S_tswIn (j := 3) (tgt := 44) X dX11_mostOf_1 hs_4 rfl (by decide) (by decide) ?_
    refine S_sipush X dX11_mostOf_44 rfl ?_
    exact S_iret X (nle rfl) (nle rfl) dX11_mostOf_47 (hPo _ _ (⟨by (repeat' split) <;> omega, rfl⟩))
  refine S_tswOut (tgt := 48) X dX11_mostOf_1 (by omega) (by omega) (by decide) ?_
  refine S_ldc (n := -1000000) X (by rw [show i32 (-1000000) = (-1000000 : Int32) from by decide]; exact m697) dX11_mostOf_48 ?_
  exact S_iret X (nle rfl) (nle rfl) dX11_mostOf_50 (hPo _ _ (⟨by (repeat' split) <;> omega, rfl⟩))
set_option maxHeartbeats 4000000 in
set_option maxRecDepth 100000 in
theorem kX11_set (l : Launch) (h0 : Nat) (f : Nat → AV) (fS : Nat → AV) (n : Int) (ec : Int) (oS : Nat) (oK : Nat) (fK : Nat → AV) (kk : Int) (lim : Int) (ho : Int) (lw : Int) (v : Int) (x : Int) (hf0 : f 7 = rv oS) (hf1 : f 11 = rv oK) (hf2 : f 13 = iv lw) (hlw : 0 ≤ lw ∧ lw ≤ 4) (hx_v : inR v) (hx_x : inR x) : AMi l yX11_set cX11_set 4 .boolean 1 0 0 [rv h0, iv v, iv x] [(h0, ob 10 (uF (uF f 12 (iv lim)) 14 (iv ho))), (oS, ob 5 (uF (uF fS 1 (iv n)) 2 (iv ec))), (oK, ob 9 (uF fK 0 (iv kk)))] (fun z u => (z = 0 ∧ u = [(h0, ob 10 (uF (uF f 12 (iv lim)) 14 (iv ho))), (oS, ob 5 (uF (uF fS 1 (iv n)) 2 (iv ec))), (oK, ob 9 (uF fK 0 (iv kk)))] ∧ (¬ ((v = 0 ∧ -1 ≤ x ∧ x < lw) ∨ (v = 1 ∧ 1 ≤ x ∧ x ≤ 30) ∨ (v = 2 ∧ 0 ≤ x ∧ x ≤ 3) ∨ (v = 3 ∧ 0 ≤ x ∧ x ≤ 999)))) ∨ (z = 1 ∧ u = [(h0, ob 10 (uF (uF f 12 (iv lim)) 14 (iv x))), (oS, ob 5 (uF (uF fS 1 (iv n)) 2 (iv ec))), (oK, ob 9 (uF fK 0 (iv 0)))] ∧ (v = 0 ∧ -1 ≤ x ∧ x < lw)) ∨ (z = 1 ∧ u = [(h0, ob 10 (uF (uF f 12 (iv lim)) 14 (iv ho))), (oS, ob 5 (uF (uF fS 1 (iv x)) 2 (iv ec))), (oK, ob 9 (uF fK 0 (iv 0)))] ∧ (v = 1 ∧ 1 ≤ x ∧ x ≤ 30)) ∨ (z = 1 ∧ u = [(h0, ob 10 (uF (uF f 12 (iv lim)) 14 (iv ho))), (oS, ob 5 (uF (uF fS 1 (iv n)) 2 (iv x))), (oK, ob 9 (uF fK 0 (iv 0)))] ∧ (v = 2 ∧ 0 ≤ x ∧ x ≤ 3)) ∨ (z = 1 ∧ u = [(h0, ob 10 (uF (uF f 12 (iv x)) 14 (iv ho))), (oS, ob 5 (uF (uF fS 1 (iv n)) 2 (iv ec))), (oK, ob 9 (uF fK 0 (iv 0)))] ∧ (v = 3 ∧ 0 ≤ x ∧ x ≤ 999))) := by
  refine AMi.of2 rfl (nle rfl) ?_
  intro D G A p e s m args below meth c Po hPo X
  refine S_iload_n X dX11_set_0 rfl rfl ?_
  refine S_if_ne (tgt := 8) X dX11_set_1 (by decide) (by omega) (fun c_1 => ?_) (fun c_1 => ?_)
  ·
    refine S_iload_n X dX11_set_8 rfl rfl ?_
    refine S_iconst X dX11_set_9 ?_
    refine S_icmp_ne (tgt := 17) X dX11_set_10 (by decide) (by omega) (by decide) (fun c_2 => ?_) (fun c_2 => ?_)
    ·
      refine S_iconst X dX11_set_17 ?_
      refine S_istore_n X dX11_set_18 rfl (nle rfl) ?_
      refine S_iload_n X dX11_set_19 rfl rfl ?_
      refine S_iload_n X dX11_set_20 rfl rfl ?_
      refine S_icmp_lt (tgt := 33) X dX11_set_21 (by decide) (by omega) (by decide) (fun c_3 => ?_) (fun c_3 => ?_)
      ·
        refine S_iconst X dX11_set_33 ?_
        exact S_zret X (Or.inl rfl) (nle rfl) (nle rfl) dX11_set_34 (hPo _ _ (Or.inl ⟨rfl, rfl, by omega⟩))
      ·
        refine S_iload_n X dX11_set_24 rfl rfl ?_
        refine S_aload_n X dX11_set_25 rfl rfl ?_
        refine S_iload_n X dX11_set_26 rfl rfl ?_
        refine S_calli X (kX11_mostOf l h0 (uF (uF f 12 (iv lim)) 14 (iv ho)) lw v hf2 (by omega) (by omega)) (is := [0]) rfl (run_V X lkX11_179 0 rfl rfl (is := [0]) (avs := [iv v]) (rest := [iv x]) rfl rfl (nle rfl) ⟨nle rfl, nle rfl⟩ ⟨nle rfl, nle rfl⟩ dX11_set_27 (by decide) rfl) (fun z_6 u_4 hp_5 => ?_)
        obtain ⟨hz_7, hu_8⟩ := hp_5
        subst hz_7
        subst hu_8
        refine ⟨rfl, ?_⟩
        refine S_w (ws' := [(h0, ob 10 (uF (uF f 12 (iv lim)) 14 (iv ho))), (oS, ob 5 (uF (uF fS 1 (iv n)) 2 (iv ec))), (oK, ob 9 (uF fK 0 (iv kk)))]) rfl ?_
        obtain ⟨mo9, hmo9⟩ : ∃ z9, z9 = (if v = 0 then lw - 1 else if v = 1 then 30 else if v = 2 then 3 else if v = 3 then 999 else -1000000) := ⟨_, rfl⟩
        rw [← hmo9]
        have hmo8 : (v = 0 ∧ mo9 = lw - 1) ∨ (v = 1 ∧ mo9 = 30) ∨ (v = 2 ∧ mo9 = 3) ∨ (v = 3 ∧ mo9 = 999) ∨ (v ≠ 0 ∧ v ≠ 1 ∧ v ≠ 2 ∧ v ≠ 3 ∧ mo9 = -1000000) := by rw [hmo9]; (repeat' split) <;> omega
        refine S_icmp_le (tgt := 35) X dX11_set_30 (by decide) (by omega) (by omega) (fun c_9 => ?_) (fun c_9 => ?_)
        ·
          refine S_aload_n X dX11_set_35 rfl rfl ?_
          refine S_get X fgX11_85_10 0 rfl hf1 dX11_set_36 ?_
          refine S_iconst X dX11_set_39 ?_
          refine S_put X fpX11_143_9 2 rfl (FT_b (Or.inl rfl)) dX11_set_40 ?_
          refine S_w (ws' := [(h0, ob 10 (uF (uF f 12 (iv lim)) 14 (iv ho))), (oS, ob 5 (uF (uF fS 1 (iv n)) 2 (iv ec))), (oK, ob 9 (uF fK 0 (iv 0)))]) (by simp only [List.set]; rw [uF_same (k := 0)]) ?_
          refine S_iload_n X dX11_set_43 rfl rfl ?_
          by_cases hs_10 : v = 0
          · refine S_tswIn (j := 0) (tgt := 72) X dX11_set_44 hs_10 rfl (by decide) (by decide) ?_
            refine S_aload_n X dX11_set_72 rfl rfl ?_
            refine S_iload_n X dX11_set_73 rfl rfl ?_
            refine S_put X fpX11_93_10 0 rfl FT_i dX11_set_74 ?_
            refine S_w (ws' := [(h0, ob 10 (uF (uF f 12 (iv lim)) 14 (iv x))), (oS, ob 5 (uF (uF fS 1 (iv n)) 2 (iv ec))), (oK, ob 9 (uF fK 0 (iv 0)))]) (by simp only [List.set]; rw [uF_same (k := 14)]) ?_
            refine S_iconst X dX11_set_77 ?_
            exact S_zret X (Or.inr rfl) (nle rfl) (nle rfl) dX11_set_78 (hPo _ _ (Or.inr (Or.inl (⟨rfl, rfl, by omega⟩))))
          by_cases hs_11 : v = 1
          · refine S_tswIn (j := 1) (tgt := 79) X dX11_set_44 hs_11 rfl (by decide) (by decide) ?_
            refine S_aload_n X dX11_set_79 rfl rfl ?_
            refine S_get X fgX11_59_10 0 rfl hf0 dX11_set_80 ?_
            refine S_iload_n X dX11_set_83 rfl rfl ?_
            refine S_put X fpX11_182_5 1 rfl FT_i dX11_set_84 ?_
            refine S_w (ws' := [(h0, ob 10 (uF (uF f 12 (iv lim)) 14 (iv ho))), (oS, ob 5 (uF (uF fS 1 (iv x)) 2 (iv ec))), (oK, ob 9 (uF fK 0 (iv 0)))]) (by simp only [List.set]; rw [uF_mv (j := 2) (k := 1) (by decide), uF_same (k := 1)]) ?_
            refine S_iconst X dX11_set_87 ?_
            exact S_zret X (Or.inr rfl) (nle rfl) (nle rfl) dX11_set_88 (hPo _ _ (Or.inr (Or.inr (Or.inl (⟨rfl, rfl, by omega⟩)))))
          by_cases hs_12 : v = 2
          · refine S_tswIn (j := 2) (tgt := 89) X dX11_set_44 hs_12 rfl (by decide) (by decide) ?_
            refine S_aload_n X dX11_set_89 rfl rfl ?_
            refine S_get X fgX11_59_10 0 rfl hf0 dX11_set_90 ?_
            refine S_iload_n X dX11_set_93 rfl rfl ?_
            refine S_put X fpX11_185_5 1 rfl FT_i dX11_set_94 ?_
            refine S_w (ws' := [(h0, ob 10 (uF (uF f 12 (iv lim)) 14 (iv ho))), (oS, ob 5 (uF (uF fS 1 (iv n)) 2 (iv x))), (oK, ob 9 (uF fK 0 (iv 0)))]) (by simp only [List.set]; rw [uF_same (k := 2)]) ?_
            refine S_iconst X dX11_set_97 ?_
            exact S_zret X (Or.inr rfl) (nle rfl) (nle rfl) dX11_set_98 (hPo _ _ (Or.inr (Or.inr (Or.inr (Or.inl (⟨rfl, rfl, by omega⟩))))))
          refine S_tswOut (tgt := 99) X dX11_set_44 (by omega) (by omega) (by decide) ?_
          refine S_aload_n X dX11_set_99 rfl rfl ?_
          refine S_iload_n X dX11_set_100 rfl rfl ?_
          refine S_put X fpX11_89_10 0 rfl FT_i dX11_set_101 ?_
          refine S_w (ws' := [(h0, ob 10 (uF (uF f 12 (iv x)) 14 (iv ho))), (oS, ob 5 (uF (uF fS 1 (iv n)) 2 (iv ec))), (oK, ob 9 (uF fK 0 (iv 0)))]) (by simp only [List.set]; rw [uF_mv (j := 14) (k := 12) (by decide), uF_same (k := 12)]) ?_
          refine S_iconst X dX11_set_104 ?_
          exact S_zret X (Or.inr rfl) (nle rfl) (nle rfl) dX11_set_105 (hPo _ _ (Or.inr (Or.inr (Or.inr (Or.inr (⟨rfl, rfl, by omega⟩))))))
        ·
          refine S_iconst X dX11_set_33 ?_
          exact S_zret X (Or.inl rfl) (nle rfl) (nle rfl) dX11_set_34 (hPo _ _ (Or.inl ⟨rfl, rfl, by omega⟩))
    ·
      refine S_iconst X dX11_set_13 ?_
      refine S_goto (tgt := 18) X dX11_set_14 (by decide) ?_
      refine S_istore_n X dX11_set_18 rfl (nle rfl) ?_
      refine S_iload_n X dX11_set_19 rfl rfl ?_
      refine S_iload_n X dX11_set_20 rfl rfl ?_
      refine S_icmp_lt (tgt := 33) X dX11_set_21 (by decide) (by omega) (by decide) (fun c_13 => ?_) (fun c_13 => ?_)
      ·
        refine S_iconst X dX11_set_33 ?_
        exact S_zret X (Or.inl rfl) (nle rfl) (nle rfl) dX11_set_34 (hPo _ _ (Or.inl ⟨rfl, rfl, by omega⟩))
      ·
        refine S_iload_n X dX11_set_24 rfl rfl ?_
        refine S_aload_n X dX11_set_25 rfl rfl ?_
        refine S_iload_n X dX11_set_26 rfl rfl ?_
        refine S_calli X (kX11_mostOf l h0 (uF (uF f 12 (iv lim)) 14 (iv ho)) lw v hf2 (by omega) (by omega)) (is := [0]) rfl (run_V X lkX11_179 0 rfl rfl (is := [0]) (avs := [iv v]) (rest := [iv x]) rfl rfl (nle rfl) ⟨nle rfl, nle rfl⟩ ⟨nle rfl, nle rfl⟩ dX11_set_27 (by decide) rfl) (fun z_16 u_14 hp_15 => ?_)
        obtain ⟨hz_17, hu_18⟩ := hp_15
        subst hz_17
        subst hu_18
        refine ⟨rfl, ?_⟩
        refine S_w (ws' := [(h0, ob 10 (uF (uF f 12 (iv lim)) 14 (iv ho))), (oS, ob 5 (uF (uF fS 1 (iv n)) 2 (iv ec))), (oK, ob 9 (uF fK 0 (iv kk)))]) rfl ?_
        obtain ⟨mo9, hmo9⟩ : ∃ z9, z9 = (if v = 0 then lw - 1 else if v = 1 then 30 else if v = 2 then 3 else if v = 3 then 999 else -1000000) := ⟨_, rfl⟩
        rw [← hmo9]
        have hmo8 : (v = 0 ∧ mo9 = lw - 1) ∨ (v = 1 ∧ mo9 = 30) ∨ (v = 2 ∧ mo9 = 3) ∨ (v = 3 ∧ mo9 = 999) ∨ (v ≠ 0 ∧ v ≠ 1 ∧ v ≠ 2 ∧ v ≠ 3 ∧ mo9 = -1000000) := by rw [hmo9]; (repeat' split) <;> omega
        refine S_icmp_le (tgt := 35) X dX11_set_30 (by decide) (by omega) (by omega) (fun c_19 => ?_) (fun c_19 => ?_)
        ·
          refine S_aload_n X dX11_set_35 rfl rfl ?_
          refine S_get X fgX11_85_10 0 rfl hf1 dX11_set_36 ?_
          refine S_iconst X dX11_set_39 ?_
          refine S_put X fpX11_143_9 2 rfl (FT_b (Or.inl rfl)) dX11_set_40 ?_
          refine S_w (ws' := [(h0, ob 10 (uF (uF f 12 (iv lim)) 14 (iv ho))), (oS, ob 5 (uF (uF fS 1 (iv n)) 2 (iv ec))), (oK, ob 9 (uF fK 0 (iv 0)))]) (by simp only [List.set]; rw [uF_same (k := 0)]) ?_
          refine S_iload_n X dX11_set_43 rfl rfl ?_
          by_cases hs_20 : v = 0
          · refine S_tswIn (j := 0) (tgt := 72) X dX11_set_44 hs_20 rfl (by decide) (by decide) ?_
            refine S_aload_n X dX11_set_72 rfl rfl ?_
            refine S_iload_n X dX11_set_73 rfl rfl ?_
            refine S_put X fpX11_93_10 0 rfl FT_i dX11_set_74 ?_
            refine S_w (ws' := [(h0, ob 10 (uF (uF f 12 (iv lim)) 14 (iv x))), (oS, ob 5 (uF (uF fS 1 (iv n)) 2 (iv ec))), (oK, ob 9 (uF fK 0 (iv 0)))]) (by simp only [List.set]; rw [uF_same (k := 14)]) ?_
            refine S_iconst X dX11_set_77 ?_
            exact S_zret X (Or.inr rfl) (nle rfl) (nle rfl) dX11_set_78 (hPo _ _ (Or.inr (Or.inl (⟨rfl, rfl, by omega⟩))))
          by_cases hs_21 : v = 1
          · refine S_tswIn (j := 1) (tgt := 79) X dX11_set_44 hs_21 rfl (by decide) (by decide) ?_
            refine S_aload_n X dX11_set_79 rfl rfl ?_
            refine S_get X fgX11_59_10 0 rfl hf0 dX11_set_80 ?_
            refine S_iload_n X dX11_set_83 rfl rfl ?_
            refine S_put X fpX11_182_5 1 rfl FT_i dX11_set_84 ?_
            refine S_w (ws' := [(h0, ob 10 (uF (uF f 12 (iv lim)) 14 (iv ho))), (oS, ob 5 (uF (uF fS 1 (iv x)) 2 (iv ec))), (oK, ob 9 (uF fK 0 (iv 0)))]) (by simp only [List.set]; rw [uF_mv (j := 2) (k := 1) (by decide), uF_same (k := 1)]) ?_
            refine S_iconst X dX11_set_87 ?_
            exact S_zret X (Or.inr rfl) (nle rfl) (nle rfl) dX11_set_88 (hPo _ _ (Or.inr (Or.inr (Or.inl (⟨rfl, rfl, by omega⟩)))))
          by_cases hs_22 : v = 2
          · refine S_tswIn (j := 2) (tgt := 89) X dX11_set_44 hs_22 rfl (by decide) (by decide) ?_
            refine S_aload_n X dX11_set_89 rfl rfl ?_
            refine S_get X fgX11_59_10 0 rfl hf0 dX11_set_90 ?_
            refine S_iload_n X dX11_set_93 rfl rfl ?_
            refine S_put X fpX11_185_5 1 rfl FT_i dX11_set_94 ?_
            refine S_w (ws' := [(h0, ob 10 (uF (uF f 12 (iv lim)) 14 (iv ho))), (oS, ob 5 (uF (uF fS 1 (iv n)) 2 (iv x))), (oK, ob 9 (uF fK 0 (iv 0)))]) (by simp only [List.set]; rw [uF_same (k := 2)]) ?_
            refine S_iconst X dX11_set_97 ?_
            exact S_zret X (Or.inr rfl) (nle rfl) (nle rfl) dX11_set_98 (hPo _ _ (Or.inr (Or.inr (Or.inr (Or.inl (⟨rfl, rfl, by omega⟩))))))
          refine S_tswOut (tgt := 99) X dX11_set_44 (by omega) (by omega) (by decide) ?_
          refine S_aload_n X dX11_set_99 rfl rfl ?_
          refine S_iload_n X dX11_set_100 rfl rfl ?_
          refine S_put X fpX11_89_10 0 rfl FT_i dX11_set_101 ?_
          refine S_w (ws' := [(h0, ob 10 (uF (uF f 12 (iv x)) 14 (iv ho))), (oS, ob 5 (uF (uF fS 1 (iv n)) 2 (iv ec))), (oK, ob 9 (uF fK 0 (iv 0)))]) (by simp only [List.set]; rw [uF_mv (j := 14) (k := 12) (by decide), uF_same (k := 12)]) ?_
          refine S_iconst X dX11_set_104 ?_
          exact S_zret X (Or.inr rfl) (nle rfl) (nle rfl) dX11_set_105 (hPo _ _ (Or.inr (Or.inr (Or.inr (Or.inr (⟨rfl, rfl, by omega⟩))))))
        ·
          refine S_iconst X dX11_set_33 ?_
          exact S_zret X (Or.inl rfl) (nle rfl) (nle rfl) dX11_set_34 (hPo _ _ (Or.inl ⟨rfl, rfl, by omega⟩))
  ·
    refine S_iconst X dX11_set_4 ?_
    refine S_goto (tgt := 18) X dX11_set_5 (by decide) ?_
    refine S_istore_n X dX11_set_18 rfl (nle rfl) ?_
    refine S_iload_n X dX11_set_19 rfl rfl ?_
    refine S_iload_n X dX11_set_20 rfl rfl ?_
    refine S_icmp_lt (tgt := 33) X dX11_set_21 (by decide) (by omega) (by decide) (fun c_23 => ?_) (fun c_23 => ?_)
    ·
      refine S_iconst X dX11_set_33 ?_
      exact S_zret X (Or.inl rfl) (nle rfl) (nle rfl) dX11_set_34 (hPo _ _ (Or.inl ⟨rfl, rfl, by omega⟩))
    ·
      refine S_iload_n X dX11_set_24 rfl rfl ?_
      refine S_aload_n X dX11_set_25 rfl rfl ?_
      refine S_iload_n X dX11_set_26 rfl rfl ?_
      refine S_calli X (kX11_mostOf l h0 (uF (uF f 12 (iv lim)) 14 (iv ho)) lw v hf2 (by omega) (by omega)) (is := [0]) rfl (run_V X lkX11_179 0 rfl rfl (is := [0]) (avs := [iv v]) (rest := [iv x]) rfl rfl (nle rfl) ⟨nle rfl, nle rfl⟩ ⟨nle rfl, nle rfl⟩ dX11_set_27 (by decide) rfl) (fun z_26 u_24 hp_25 => ?_)
      obtain ⟨hz_27, hu_28⟩ := hp_25
      subst hz_27
      subst hu_28
      refine ⟨rfl, ?_⟩
      refine S_w (ws' := [(h0, ob 10 (uF (uF f 12 (iv lim)) 14 (iv ho))), (oS, ob 5 (uF (uF fS 1 (iv n)) 2 (iv ec))), (oK, ob 9 (uF fK 0 (iv kk)))]) rfl ?_
      obtain ⟨mo9, hmo9⟩ : ∃ z9, z9 = (if v = 0 then lw - 1 else if v = 1 then 30 else if v = 2 then 3 else if v = 3 then 999 else -1000000) := ⟨_, rfl⟩
      rw [← hmo9]
      have hmo8 : (v = 0 ∧ mo9 = lw - 1) ∨ (v = 1 ∧ mo9 = 30) ∨ (v = 2 ∧ mo9 = 3) ∨ (v = 3 ∧ mo9 = 999) ∨ (v ≠ 0 ∧ v ≠ 1 ∧ v ≠ 2 ∧ v ≠ 3 ∧ mo9 = -1000000) := by rw [hmo9]; (repeat' split) <;> omega
      refine S_icmp_le (tgt := 35) X dX11_set_30 (by decide) (by omega) (by omega) (fun c_29 => ?_) (fun c_29 => ?_)
      ·
        refine S_aload_n X dX11_set_35 rfl rfl ?_
        refine S_get X fgX11_85_10 0 rfl hf1 dX11_set_36 ?_
        refine S_iconst X dX11_set_39 ?_
        refine S_put X fpX11_143_9 2 rfl (FT_b (Or.inl rfl)) dX11_set_40 ?_
        refine S_w (ws' := [(h0, ob 10 (uF (uF f 12 (iv lim)) 14 (iv ho))), (oS, ob 5 (uF (uF fS 1 (iv n)) 2 (iv ec))), (oK, ob 9 (uF fK 0 (iv 0)))]) (by simp only [List.set]; rw [uF_same (k := 0)]) ?_
        refine S_iload_n X dX11_set_43 rfl rfl ?_
        by_cases hs_30 : v = 0
        · refine S_tswIn (j := 0) (tgt := 72) X dX11_set_44 hs_30 rfl (by decide) (by decide) ?_
          refine S_aload_n X dX11_set_72 rfl rfl ?_
          refine S_iload_n X dX11_set_73 rfl rfl ?_
          refine S_put X fpX11_93_10 0 rfl FT_i dX11_set_74 ?_
          refine S_w (ws' := [(h0, ob 10 (uF (uF f 12 (iv lim)) 14 (iv x))), (oS, ob 5 (uF (uF fS 1 (iv n)) 2 (iv ec))), (oK, ob 9 (uF fK 0 (iv 0)))]) (by simp only [List.set]; rw [uF_same (k := 14)]) ?_
          refine S_iconst X dX11_set_77 ?_
          exact S_zret X (Or.inr rfl) (nle rfl) (nle rfl) dX11_set_78 (hPo _ _ (Or.inr (Or.inl (⟨rfl, rfl, by omega⟩))))
        by_cases hs_31 : v = 1
        · refine S_tswIn (j := 1) (tgt := 79) X dX11_set_44 hs_31 rfl (by decide) (by decide) ?_
          refine S_aload_n X dX11_set_79 rfl rfl ?_
          refine S_get X fgX11_59_10 0 rfl hf0 dX11_set_80 ?_
          refine S_iload_n X dX11_set_83 rfl rfl ?_
          refine S_put X fpX11_182_5 1 rfl FT_i dX11_set_84 ?_
          refine S_w (ws' := [(h0, ob 10 (uF (uF f 12 (iv lim)) 14 (iv ho))), (oS, ob 5 (uF (uF fS 1 (iv x)) 2 (iv ec))), (oK, ob 9 (uF fK 0 (iv 0)))]) (by simp only [List.set]; rw [uF_mv (j := 2) (k := 1) (by decide), uF_same (k := 1)]) ?_
          refine S_iconst X dX11_set_87 ?_
          exact S_zret X (Or.inr rfl) (nle rfl) (nle rfl) dX11_set_88 (hPo _ _ (Or.inr (Or.inr (Or.inl (⟨rfl, rfl, by omega⟩)))))
        by_cases hs_32 : v = 2
        · refine S_tswIn (j := 2) (tgt := 89) X dX11_set_44 hs_32 rfl (by decide) (by decide) ?_
          refine S_aload_n X dX11_set_89 rfl rfl ?_
          refine S_get X fgX11_59_10 0 rfl hf0 dX11_set_90 ?_
          refine S_iload_n X dX11_set_93 rfl rfl ?_
          refine S_put X fpX11_185_5 1 rfl FT_i dX11_set_94 ?_
          refine S_w (ws' := [(h0, ob 10 (uF (uF f 12 (iv lim)) 14 (iv ho))), (oS, ob 5 (uF (uF fS 1 (iv n)) 2 (iv x))), (oK, ob 9 (uF fK 0 (iv 0)))]) (by simp only [List.set]; rw [uF_same (k := 2)]) ?_
          refine S_iconst X dX11_set_97 ?_
          exact S_zret X (Or.inr rfl) (nle rfl) (nle rfl) dX11_set_98 (hPo _ _ (Or.inr (Or.inr (Or.inr (Or.inl (⟨rfl, rfl, by omega⟩))))))
        refine S_tswOut (tgt := 99) X dX11_set_44 (by omega) (by omega) (by decide) ?_
        refine S_aload_n X dX11_set_99 rfl rfl ?_
        refine S_iload_n X dX11_set_100 rfl rfl ?_
        refine S_put X fpX11_89_10 0 rfl FT_i dX11_set_101 ?_
        refine S_w (ws' := [(h0, ob 10 (uF (uF f 12 (iv x)) 14 (iv ho))), (oS, ob 5 (uF (uF fS 1 (iv n)) 2 (iv ec))), (oK, ob 9 (uF fK 0 (iv 0)))]) (by simp only [List.set]; rw [uF_mv (j := 14) (k := 12) (by decide), uF_same (k := 12)]) ?_
        refine S_iconst X dX11_set_104 ?_
        exact S_zret X (Or.inr rfl) (nle rfl) (nle rfl) dX11_set_105 (hPo _ _ (Or.inr (Or.inr (Or.inr (Or.inr (⟨rfl, rfl, by omega⟩))))))
      ·
        refine S_iconst X dX11_set_33 ?_
        exact S_zret X (Or.inl rfl) (nle rfl) (nle rfl) dX11_set_34 (hPo _ _ (Or.inl ⟨rfl, rfl, by omega⟩))
set_option maxHeartbeats 4000000 in
set_option maxRecDepth 100000 in
theorem kX11_mayTell (l : Launch) (h0 : Nat) (f : Nat → AV) (oW : Nat) (fW : Nat → AV) (pl : Int) (q : Int) (v : Int) (x : Int) (hf0 : f 3 = rv oW) (hf1 : fW 0 = iv pl) (hpl : 0 ≤ pl ∧ pl ≤ 6) (hq : 0 ≤ q ∧ q < pl) (hv : inR v) (hx : inR x) : AMi l yX11_mayTell cX11_mayTell 4 .boolean 1 0 0 [rv h0, iv q, iv v, iv x] [(h0, ob 10 f), (oW, ob 7 fW)] (fun z u => (z = 0 ∧ u = [(h0, ob 10 f), (oW, ob 7 fW)] ∧ (¬ ((v = 0 ∧ -1 ≤ x ∧ x < pl ∧ x ≠ q) ∨ (v = 1 ∧ 0 ≤ x ∧ x ≤ 10) ∨ (v = 2 ∧ 0 ≤ x ∧ x ≤ 50)))) ∨ (z = 1 ∧ u = [(h0, ob 10 f), (oW, ob 7 fW)] ∧ ((v = 0 ∧ -1 ≤ x ∧ x < pl ∧ x ≠ q) ∨ (v = 1 ∧ 0 ≤ x ∧ x ≤ 10) ∨ (v = 2 ∧ 0 ≤ x ∧ x ≤ 50)))) := by
  refine AMi.of2 rfl (nle rfl) ?_
  intro D G A p e s m args below meth c Po hPo X
  refine S_iload_n X dX11_mayTell_0 rfl rfl ?_
  by_cases hs_1 : v = 0
  · refine S_tswIn (j := 0) (tgt := 28) X dX11_mayTell_1 hs_1 rfl (by decide) (by decide) ?_
    refine S_iload_n X dX11_mayTell_28 rfl rfl ?_
    refine S_iconst X dX11_mayTell_29 ?_
    refine S_icmp_eq (tgt := 46) X dX11_mayTell_30 (by decide) (by omega) (by decide) (fun c_2 => ?_) (fun c_2 => ?_)
    ·
      refine S_iconst X dX11_mayTell_46 ?_
      refine S_goto (tgt := 51) X dX11_mayTell_47 (by decide) ?_
      exact S_zret X (Or.inr rfl) (nle rfl) (nle rfl) dX11_mayTell_51 (hPo _ _ (Or.inr (⟨by first | rfl | omega, rfl, by first | rfl | assumption | omega⟩)))
    ·
      refine S_iload_n X dX11_mayTell_33 rfl rfl ?_
      refine S_iload_n X dX11_mayTell_34 rfl rfl ?_
      refine S_icmp_eq (tgt := 50) X dX11_mayTell_35 (by decide) (by omega) (by omega) (fun c_3 => ?_) (fun c_3 => ?_)
      ·
        refine S_iconst X dX11_mayTell_50 ?_
        exact S_zret X (Or.inl rfl) (nle rfl) (nle rfl) dX11_mayTell_51 (hPo _ _ (Or.inl (⟨by first | rfl | omega, rfl, by first | rfl | assumption | omega⟩)))
      ·
        refine S_aload_n X dX11_mayTell_38 rfl rfl ?_
        refine S_iload_n X dX11_mayTell_39 rfl rfl ?_
        refine S_calli X (kX11_isPlayer l h0 f oW fW pl x hf0 hf1 (by omega) (by omega)) (is := [0, 1]) rfl (run_V X lkX11_147 0 rfl rfl (is := [0, 1]) (avs := [iv x]) (rest := []) rfl rfl (nle rfl) ⟨nle rfl, nle rfl⟩ ⟨nle rfl, nle rfl⟩ dX11_mayTell_40 (by decide) rfl) (fun z_6 u_4 hp_5 => ?_)
        rcases hp_5 with ⟨hz_7, hu_8, hp_9⟩ | ⟨hz_10, hu_11, hp_12⟩
        ·
          subst hz_7
          subst hu_8
          refine ⟨rfl, ?_⟩
          refine S_w (ws' := [(h0, ob 10 f), (oW, ob 7 fW)]) rfl ?_
          refine S_if_eq (tgt := 50) X dX11_mayTell_43 (by decide) (by decide) (fun _ => ?_) (fun h9 => absurd h9 (by decide))
          refine S_iconst X dX11_mayTell_50 ?_
          exact S_zret X (Or.inl rfl) (nle rfl) (nle rfl) dX11_mayTell_51 (hPo _ _ (Or.inl (⟨by first | rfl | omega, rfl, by first | rfl | assumption | omega⟩)))
        ·
          subst hz_10
          subst hu_11
          refine ⟨rfl, ?_⟩
          refine S_w (ws' := [(h0, ob 10 f), (oW, ob 7 fW)]) rfl ?_
          refine S_if_eq (tgt := 50) X dX11_mayTell_43 (by decide) (by decide) (fun h9 => absurd h9 (by decide)) (fun _ => ?_)
          refine S_iconst X dX11_mayTell_46 ?_
          refine S_goto (tgt := 51) X dX11_mayTell_47 (by decide) ?_
          exact S_zret X (Or.inr rfl) (nle rfl) (nle rfl) dX11_mayTell_51 (hPo _ _ (Or.inr (⟨by first | rfl | omega, rfl, by first | rfl | assumption | omega⟩)))
  by_cases hs_15 : v = 1
  · refine S_tswIn (j := 1) (tgt := 52) X dX11_mayTell_1 hs_15 rfl (by decide) (by decide) ?_
    refine S_iload_n X dX11_mayTell_52 rfl rfl ?_
    refine S_if_lt (tgt := 66) X dX11_mayTell_53 (by decide) (by omega) (fun c_16 => ?_) (fun c_16 => ?_)
    ·
      refine S_iconst X dX11_mayTell_66 ?_
      exact S_zret X (Or.inl rfl) (nle rfl) (nle rfl) dX11_mayTell_67 (hPo _ _ (Or.inl (⟨by first | rfl | omega, rfl, by first | rfl | assumption | omega⟩)))
    ·
      refine S_iload_n X dX11_mayTell_56 rfl rfl ?_
      refine S_bipush X dX11_mayTell_57 rfl ?_
      refine S_icmp_gt (tgt := 66) X dX11_mayTell_59 (by decide) (by omega) (by decide) (fun c_17 => ?_) (fun c_17 => ?_)
      ·
        refine S_iconst X dX11_mayTell_66 ?_
        exact S_zret X (Or.inl rfl) (nle rfl) (nle rfl) dX11_mayTell_67 (hPo _ _ (Or.inl (⟨by first | rfl | omega, rfl, by first | rfl | assumption | omega⟩)))
      ·
        refine S_iconst X dX11_mayTell_62 ?_
        refine S_goto (tgt := 67) X dX11_mayTell_63 (by decide) ?_
        exact S_zret X (Or.inr rfl) (nle rfl) (nle rfl) dX11_mayTell_67 (hPo _ _ (Or.inr (⟨by first | rfl | omega, rfl, by first | rfl | assumption | omega⟩)))
  by_cases hs_18 : v = 2
  · refine S_tswIn (j := 2) (tgt := 68) X dX11_mayTell_1 hs_18 rfl (by decide) (by decide) ?_
    refine S_iload_n X dX11_mayTell_68 rfl rfl ?_
    refine S_if_lt (tgt := 82) X dX11_mayTell_69 (by decide) (by omega) (fun c_19 => ?_) (fun c_19 => ?_)
    ·
      refine S_iconst X dX11_mayTell_82 ?_
      exact S_zret X (Or.inl rfl) (nle rfl) (nle rfl) dX11_mayTell_83 (hPo _ _ (Or.inl (⟨by first | rfl | omega, rfl, by first | rfl | assumption | omega⟩)))
    ·
      refine S_iload_n X dX11_mayTell_72 rfl rfl ?_
      refine S_bipush X dX11_mayTell_73 rfl ?_
      refine S_icmp_gt (tgt := 82) X dX11_mayTell_75 (by decide) (by omega) (by decide) (fun c_20 => ?_) (fun c_20 => ?_)
      ·
        refine S_iconst X dX11_mayTell_82 ?_
        exact S_zret X (Or.inl rfl) (nle rfl) (nle rfl) dX11_mayTell_83 (hPo _ _ (Or.inl (⟨by first | rfl | omega, rfl, by first | rfl | assumption | omega⟩)))
      ·
        refine S_iconst X dX11_mayTell_78 ?_
        refine S_goto (tgt := 83) X dX11_mayTell_79 (by decide) ?_
        exact S_zret X (Or.inr rfl) (nle rfl) (nle rfl) dX11_mayTell_83 (hPo _ _ (Or.inr (⟨by first | rfl | omega, rfl, by first | rfl | assumption | omega⟩)))
  refine S_tswOut (tgt := 84) X dX11_mayTell_1 (by omega) (by omega) (by decide) ?_
  refine S_iconst X dX11_mayTell_84 ?_
  exact S_zret X (Or.inl rfl) (nle rfl) (nle rfl) dX11_mayTell_85 (hPo _ _ (Or.inl (⟨by first | rfl | omega, rfl, by first | rfl | assumption | omega⟩)))
set_option maxHeartbeats 4000000 in
set_option maxRecDepth 100000 in
theorem kX11_tell (l : Launch) (h0 : Nat) (f : Nat → AV) (oW : Nat) (fW : Nat → AV) (fS : Nat → AV) (pl : Int) (oS : Nat) (aF : Nat) (aH : Nat) (aL : Nat) (Fo : Int → Int) (Ho : Int → Int) (Lt : Int → Int) (oK : Nat) (fK : Nat → AV) (kk : Int) (q : Int) (v : Int) (x : Int) (hf0 : f 3 = rv oW) (hf1 : f 7 = rv oS) (hf2 : f 11 = rv oK) (hf3 : fW 0 = iv pl) (hf4 : fS 5 = rv aF) (hf5 : fS 6 = rv aH) (hf6 : fS 7 = rv aL) (hpl : 0 ≤ pl ∧ pl ≤ 6) (hx_q : inR q) (hx_v : inR v) (hx_x : inR x) : AMi l yX11_tell cX11_tell 4 .boolean 2 0 0 [rv h0, iv q, iv v, iv x] [(h0, ob 10 f), (oW, ob 7 fW), (oS, ob 5 fS), (aF, ar 6 Fo), (aH, ar 6 Ho), (aL, ar 6 Lt), (oK, ob 9 (uF fK 0 (iv kk)))] (fun z u => (z = 0 ∧ u = [(h0, ob 10 f), (oW, ob 7 fW), (oS, ob 5 fS), (aF, ar 6 Fo), (aH, ar 6 Ho), (aL, ar 6 Lt), (oK, ob 9 (uF fK 0 (iv kk)))] ∧ (¬ ((0 ≤ q ∧ q < pl) ∧ ((v = 0 ∧ -1 ≤ x ∧ x < pl ∧ x ≠ q) ∨ (v = 1 ∧ 0 ≤ x ∧ x ≤ 10) ∨ (v = 2 ∧ 0 ≤ x ∧ x ≤ 50))))) ∨ (z = 1 ∧ u = [(h0, ob 10 f), (oW, ob 7 fW), (oS, ob 5 fS), (aF, ar 6 (uZ Fo q x)), (aH, ar 6 Ho), (aL, ar 6 Lt), (oK, ob 9 (uF fK 0 (iv 0)))] ∧ ((0 ≤ q ∧ q < pl) ∧ v = 0 ∧ -1 ≤ x ∧ x < pl ∧ x ≠ q)) ∨ (z = 1 ∧ u = [(h0, ob 10 f), (oW, ob 7 fW), (oS, ob 5 fS), (aF, ar 6 Fo), (aH, ar 6 (uZ Ho q x)), (aL, ar 6 Lt), (oK, ob 9 (uF fK 0 (iv 0)))] ∧ ((0 ≤ q ∧ q < pl) ∧ v = 1 ∧ 0 ≤ x ∧ x ≤ 10)) ∨ (z = 1 ∧ u = [(h0, ob 10 f), (oW, ob 7 fW), (oS, ob 5 fS), (aF, ar 6 Fo), (aH, ar 6 Ho), (aL, ar 6 (uZ Lt q x)), (oK, ob 9 (uF fK 0 (iv 0)))] ∧ ((0 ≤ q ∧ q < pl) ∧ v = 2 ∧ 0 ≤ x ∧ x ≤ 50))) := by
  refine AMi.of2 rfl (nle rfl) ?_
  intro D G A p e s m args below meth c Po hPo X
  refine S_aload_n X dX11_tell_0 rfl rfl ?_
  refine S_iload_n X dX11_tell_1 rfl rfl ?_
  refine S_calli X (kX11_isPlayer l h0 f oW fW pl q hf0 hf3 (by omega) (by omega)) (is := [0, 1]) rfl (run_V X lkX11_147 0 rfl rfl (is := [0, 1]) (avs := [iv q]) (rest := []) rfl rfl (nle rfl) ⟨nle rfl, nle rfl⟩ ⟨nle rfl, nle rfl⟩ dX11_tell_2 (by decide) rfl) (fun z_3 u_1 hp_2 => ?_)
  rcases hp_2 with ⟨hz_4, hu_5, hp_6⟩ | ⟨hz_7, hu_8, hp_9⟩
  ·
    subst hz_4
    subst hu_5
    refine ⟨rfl, ?_⟩
    refine S_w (ws' := [(h0, ob 10 f), (oW, ob 7 fW), (oS, ob 5 fS), (aF, ar 6 Fo), (aH, ar 6 Ho), (aL, ar 6 Lt), (oK, ob 9 (uF fK 0 (iv kk)))]) rfl ?_
    refine S_if_eq (tgt := 18) X dX11_tell_5 (by decide) (by decide) (fun _ => ?_) (fun h9 => absurd h9 (by decide))
    refine S_iconst X dX11_tell_18 ?_
    exact S_zret X (Or.inl rfl) (nle rfl) (nle rfl) dX11_tell_19 (hPo _ _ (Or.inl ⟨rfl, rfl, by omega⟩))
  ·
    subst hz_7
    subst hu_8
    refine ⟨rfl, ?_⟩
    refine S_w (ws' := [(h0, ob 10 f), (oW, ob 7 fW), (oS, ob 5 fS), (aF, ar 6 Fo), (aH, ar 6 Ho), (aL, ar 6 Lt), (oK, ob 9 (uF fK 0 (iv kk)))]) rfl ?_
    refine S_if_eq (tgt := 18) X dX11_tell_5 (by decide) (by decide) (fun h9 => absurd h9 (by decide)) (fun _ => ?_)
    refine S_aload_n X dX11_tell_8 rfl rfl ?_
    refine S_iload_n X dX11_tell_9 rfl rfl ?_
    refine S_iload_n X dX11_tell_10 rfl rfl ?_
    refine S_iload_n X dX11_tell_11 rfl rfl ?_
    refine S_calli X (kX11_mayTell l h0 f oW fW pl q v x hf0 hf3 (by omega) (by omega) (by omega) (by omega)) (is := [0, 1]) rfl (run_V X lkX11_189 0 rfl rfl (is := [0, 1]) (avs := [iv q, iv v, iv x]) (rest := []) rfl rfl (nle rfl) ⟨nle rfl, nle rfl⟩ ⟨nle rfl, nle rfl⟩ dX11_tell_12 (by decide) rfl) (fun z_14 u_12 hp_13 => ?_)
    rcases hp_13 with ⟨hz_15, hu_16, hp_17⟩ | ⟨hz_18, hu_19, hp_20⟩
    ·
      subst hz_15
      subst hu_16
      refine ⟨rfl, ?_⟩
      refine S_w (ws' := [(h0, ob 10 f), (oW, ob 7 fW), (oS, ob 5 fS), (aF, ar 6 Fo), (aH, ar 6 Ho), (aL, ar 6 Lt), (oK, ob 9 (uF fK 0 (iv kk)))]) rfl ?_
      refine S_if_ne (tgt := 20) X dX11_tell_15 (by decide) (by decide) (fun h9 => absurd h9 (by decide)) (fun _ => ?_)
      refine S_iconst X dX11_tell_18 ?_
      exact S_zret X (Or.inl rfl) (nle rfl) (nle rfl) dX11_tell_19 (hPo _ _ (Or.inl ⟨rfl, rfl, by omega⟩))
    ·
      subst hz_18
      subst hu_19
      refine ⟨rfl, ?_⟩
      refine S_w (ws' := [(h0, ob 10 f), (oW, ob 7 fW), (oS, ob 5 fS), (aF, ar 6 Fo), (aH, ar 6 Ho), (aL, ar 6 Lt), (oK, ob 9 (uF fK 0 (iv kk)))]) rfl ?_
      refine S_if_ne (tgt := 20) X dX11_tell_15 (by decide) (by decide) (fun _ => ?_) (fun h9 => absurd h9 (by decide))
      refine S_aload_n X dX11_tell_20 rfl rfl ?_
      refine S_get X fgX11_85_10 0 rfl hf2 dX11_tell_21 ?_
      refine S_iconst X dX11_tell_24 ?_
      refine S_put X fpX11_143_9 6 rfl (FT_b (Or.inl rfl)) dX11_tell_25 ?_
      refine S_w (ws' := [(h0, ob 10 f), (oW, ob 7 fW), (oS, ob 5 fS), (aF, ar 6 Fo), (aH, ar 6 Ho), (aL, ar 6 Lt), (oK, ob 9 (uF fK 0 (iv 0)))]) (by simp only [List.set]; rw [uF_same (k := 0)]) ?_
      refine S_iload_n X dX11_tell_28 rfl rfl ?_
      by_cases hs_23 : v = 0
      · refine S_lkp (v := 0) (tgt := 56) X dX11_tell_29 hs_23 (by decide) rfl rfl (by decide) ?_
        refine S_aload_n X dX11_tell_56 rfl rfl ?_
        refine S_get X fgX11_59_10 0 rfl hf1 dX11_tell_57 ?_
        refine S_get X fgX11_168_5 2 rfl hf4 dX11_tell_60 ?_
        refine S_iload_n X dX11_tell_63 rfl rfl ?_
        refine S_iload_n X dX11_tell_64 rfl rfl ?_
        refine S_iast X 3 rfl (by omega) (by omega) (nle rfl) dX11_tell_65 ?_
        refine S_w (ws' := [(h0, ob 10 f), (oW, ob 7 fW), (oS, ob 5 fS), (aF, ar 6 (uZ Fo q x)), (aH, ar 6 Ho), (aL, ar 6 Lt), (oK, ob 9 (uF fK 0 (iv 0)))]) rfl ?_
        refine S_iconst X dX11_tell_66 ?_
        exact S_zret X (Or.inr rfl) (nle rfl) (nle rfl) dX11_tell_67 (hPo _ _ (Or.inr (Or.inl (⟨rfl, rfl, by omega⟩))))
      by_cases hs_24 : v = 1
      · refine S_lkp (v := 1) (tgt := 68) X dX11_tell_29 hs_24 (by decide) rfl rfl (by decide) ?_
        refine S_aload_n X dX11_tell_68 rfl rfl ?_
        refine S_get X fgX11_59_10 0 rfl hf1 dX11_tell_69 ?_
        refine S_get X fgX11_171_5 2 rfl hf5 dX11_tell_72 ?_
        refine S_iload_n X dX11_tell_75 rfl rfl ?_
        refine S_iload_n X dX11_tell_76 rfl rfl ?_
        refine S_iast X 4 rfl (by omega) (by omega) (nle rfl) dX11_tell_77 ?_
        refine S_w (ws' := [(h0, ob 10 f), (oW, ob 7 fW), (oS, ob 5 fS), (aF, ar 6 Fo), (aH, ar 6 (uZ Ho q x)), (aL, ar 6 Lt), (oK, ob 9 (uF fK 0 (iv 0)))]) rfl ?_
        refine S_iconst X dX11_tell_78 ?_
        exact S_zret X (Or.inr rfl) (nle rfl) (nle rfl) dX11_tell_79 (hPo _ _ (Or.inr (Or.inr (Or.inl (⟨rfl, rfl, by omega⟩)))))
      refine S_lkpD (off := 51) (tgt := 80) X dX11_tell_29 (by omega) rfl (by show (if (0 : Int) = v then (27 : Int) else if (1 : Int) = v then (39 : Int) else (51 : Int)) = 51; rw [if_neg (fun h9 => hs_23 h9.symm), if_neg (fun h9 => hs_24 h9.symm)]) (by decide) ?_
      refine S_aload_n X dX11_tell_80 rfl rfl ?_
      refine S_get X fgX11_59_10 0 rfl hf1 dX11_tell_81 ?_
      refine S_get X fgX11_174_5 2 rfl hf6 dX11_tell_84 ?_
      refine S_iload_n X dX11_tell_87 rfl rfl ?_
      refine S_iload_n X dX11_tell_88 rfl rfl ?_
      refine S_iast X 5 rfl (by omega) (by omega) (nle rfl) dX11_tell_89 ?_
      refine S_w (ws' := [(h0, ob 10 f), (oW, ob 7 fW), (oS, ob 5 fS), (aF, ar 6 Fo), (aH, ar 6 Ho), (aL, ar 6 (uZ Lt q x)), (oK, ob 9 (uF fK 0 (iv 0)))]) rfl ?_
      refine S_iconst X dX11_tell_90 ?_
      exact S_zret X (Or.inr rfl) (nle rfl) (nle rfl) dX11_tell_91 (hPo _ _ (Or.inr (Or.inr (Or.inr (⟨rfl, rfl, by omega⟩)))))
set_option maxHeartbeats 4000000 in
set_option maxRecDepth 100000 in
theorem kX11_mark (l : Launch) (h0 : Nat) (f : Nat → AV) (oW : Nat) (fW : Nat → AV) (fS : Nat → AV) (pl : Int) (mk : Int) (oS : Nat) (oK : Nat) (fK : Nat → AV) (kk : Int) (b : Int) (v : Int) (hf0 : f 3 = rv oW) (hf1 : f 7 = rv oS) (hf2 : f 11 = rv oK) (hf3 : fW 0 = iv pl) (hpl : 0 ≤ pl ∧ pl ≤ 6) (hx_b : inR b) (hv : v = 0 ∨ v = 1) : AMi l yX11_mark cX11_mark 3 .boolean 1 0 0 [rv h0, iv b, iv v] [(h0, ob 10 f), (oW, ob 7 fW), (oS, ob 5 (uF fS 3 (iv mk))), (oK, ob 9 (uF fK 0 (iv kk)))] (fun z u => (z = 0 ∧ u = [(h0, ob 10 f), (oW, ob 7 fW), (oS, ob 5 (uF fS 3 (iv mk))), (oK, ob 9 (uF fK 0 (iv kk)))] ∧ (pl = 0 ∨ b < 0 ∨ 29 < b ∨ zAnd (zShr mk b) 1 = v)) ∨ (z = 1 ∧ u = [(h0, ob 10 f), (oW, ob 7 fW), (oS, ob 5 (uF fS 3 (iv (zXor mk (zShl 1 b))))), (oK, ob 9 (uF fK 0 (iv 0)))] ∧ (1 ≤ pl ∧ 0 ≤ b ∧ b ≤ 29 ∧ zAnd (zShr mk b) 1 ≠ v))) := by
  refine AMi.of2 rfl (nle rfl) ?_
  intro D G A p e s m args below meth c Po hPo X
  refine S_aload_n X dX11_mark_0 rfl rfl ?_
  refine S_get X fgX11_35_10 0 rfl hf0 dX11_mark_1 ?_
  refine S_get X fgX11_115_7 1 rfl hf3 dX11_mark_4 ?_
  refine S_if_eq (tgt := 32) X dX11_mark_7 (by decide) (by omega) (fun c_1 => ?_) (fun c_1 => ?_)
  ·
    refine S_iconst X dX11_mark_32 ?_
    exact S_zret X (Or.inl rfl) (nle rfl) (nle rfl) dX11_mark_33 (hPo _ _ (Or.inl (⟨by first | rfl | omega, rfl, by first | rfl | assumption | omega⟩)))
  ·
    refine S_iload_n X dX11_mark_10 rfl rfl ?_
    refine S_if_lt (tgt := 32) X dX11_mark_11 (by decide) (by omega) (fun c_2 => ?_) (fun c_2 => ?_)
    ·
      refine S_iconst X dX11_mark_32 ?_
      exact S_zret X (Or.inl rfl) (nle rfl) (nle rfl) dX11_mark_33 (hPo _ _ (Or.inl (⟨by first | rfl | omega, rfl, by first | rfl | assumption | omega⟩)))
    ·
      refine S_iload_n X dX11_mark_14 rfl rfl ?_
      refine S_bipush X dX11_mark_15 rfl ?_
      refine S_icmp_ge (tgt := 32) X dX11_mark_17 (by decide) (by omega) (by decide) (fun c_3 => ?_) (fun c_3 => ?_)
      ·
        refine S_iconst X dX11_mark_32 ?_
        exact S_zret X (Or.inl rfl) (nle rfl) (nle rfl) dX11_mark_33 (hPo _ _ (Or.inl (⟨by first | rfl | omega, rfl, by first | rfl | assumption | omega⟩)))
      ·
        have hza := zAnd1 (zShr mk b)
        refine S_aload_n X dX11_mark_20 rfl rfl ?_
        refine S_get X fgX11_59_10 0 rfl hf1 dX11_mark_21 ?_
        refine S_iload_n X dX11_mark_24 rfl rfl ?_
        refine S_calli X (kX6_isMarked l (uF fS 3 (iv mk)) mk oS b rfl) (is := [2]) rfl (run_V X lkX11_193 2 rfl rfl (is := [2]) (avs := [iv b]) (rest := []) rfl rfl (nle rfl) ⟨nle rfl, nle rfl⟩ ⟨nle rfl, nle rfl⟩ dX11_mark_25 (by decide) rfl) (fun z_6 u_4 hp_5 => ?_)
        rcases hp_5 with ⟨hz_7, hu_8, hq_9⟩ | ⟨hz_10, hu_11, hq_12⟩
        ·
          subst hz_7
          subst hu_8
          refine ⟨rfl, ?_⟩
          refine S_w (ws' := [(h0, ob 10 f), (oW, ob 7 fW), (oS, ob 5 (uF fS 3 (iv mk))), (oK, ob 9 (uF fK 0 (iv kk)))]) rfl ?_
          have hmz : ¬ zAnd (zShr mk b) 1 = 1 := of_decide_eq_false hq_9
          refine S_iload_n X dX11_mark_28 rfl rfl ?_
          refine S_icmp_ne (tgt := 34) X dX11_mark_29 (by decide) (by decide) (by omega) (fun c_13 => ?_) (fun c_13 => ?_)
          ·
            refine S_aload_n X dX11_mark_34 rfl rfl ?_
            refine S_get X fgX11_59_10 0 rfl hf1 dX11_mark_35 ?_
            refine S_dup X dX11_mark_38 ?_
            refine S_get (v := iv mk) X fgX11_196_5 2 rfl rfl dX11_mark_39 ?_
            refine S_iconst X dX11_mark_42 ?_
            refine S_iload_n X dX11_mark_43 rfl rfl ?_
            refine S_ishl X dX11_mark_44 ?_
            refine S_ixor X dX11_mark_45 ?_
            refine S_put X fpX11_196_5 2 rfl FT_i dX11_mark_46 ?_
            refine S_w (ws' := [(h0, ob 10 f), (oW, ob 7 fW), (oS, ob 5 (uF fS 3 (iv (zXor mk (zShl 1 b))))), (oK, ob 9 (uF fK 0 (iv kk)))]) (by simp only [List.set]; rw [uF_same (k := 3)]) ?_
            refine S_aload_n X dX11_mark_49 rfl rfl ?_
            refine S_get X fgX11_85_10 0 rfl hf2 dX11_mark_50 ?_
            refine S_iconst X dX11_mark_53 ?_
            refine S_put X fpX11_143_9 3 rfl (FT_b (Or.inl rfl)) dX11_mark_54 ?_
            refine S_w (ws' := [(h0, ob 10 f), (oW, ob 7 fW), (oS, ob 5 (uF fS 3 (iv (zXor mk (zShl 1 b))))), (oK, ob 9 (uF fK 0 (iv 0)))]) (by simp only [List.set]; rw [uF_same (k := 0)]) ?_
            refine S_iconst X dX11_mark_57 ?_
            exact S_zret X (Or.inr rfl) (nle rfl) (nle rfl) dX11_mark_58 (hPo _ _ (Or.inr (⟨by first | rfl | omega, rfl, by first | rfl | assumption | omega⟩)))
          ·
            refine S_iconst X dX11_mark_32 ?_
            exact S_zret X (Or.inl rfl) (nle rfl) (nle rfl) dX11_mark_33 (hPo _ _ (Or.inl (⟨by first | rfl | omega, rfl, by first | rfl | assumption | omega⟩)))
        ·
          subst hz_10
          subst hu_11
          refine ⟨rfl, ?_⟩
          refine S_w (ws' := [(h0, ob 10 f), (oW, ob 7 fW), (oS, ob 5 (uF fS 3 (iv mk))), (oK, ob 9 (uF fK 0 (iv kk)))]) rfl ?_
          have hmz : zAnd (zShr mk b) 1 = 1 := of_decide_eq_true hq_12
          refine S_iload_n X dX11_mark_28 rfl rfl ?_
          refine S_icmp_ne (tgt := 34) X dX11_mark_29 (by decide) (by decide) (by omega) (fun c_14 => ?_) (fun c_14 => ?_)
          ·
            refine S_aload_n X dX11_mark_34 rfl rfl ?_
            refine S_get X fgX11_59_10 0 rfl hf1 dX11_mark_35 ?_
            refine S_dup X dX11_mark_38 ?_
            refine S_get (v := iv mk) X fgX11_196_5 2 rfl rfl dX11_mark_39 ?_
            refine S_iconst X dX11_mark_42 ?_
            refine S_iload_n X dX11_mark_43 rfl rfl ?_
            refine S_ishl X dX11_mark_44 ?_
            refine S_ixor X dX11_mark_45 ?_
            refine S_put X fpX11_196_5 2 rfl FT_i dX11_mark_46 ?_
            refine S_w (ws' := [(h0, ob 10 f), (oW, ob 7 fW), (oS, ob 5 (uF fS 3 (iv (zXor mk (zShl 1 b))))), (oK, ob 9 (uF fK 0 (iv kk)))]) (by simp only [List.set]; rw [uF_same (k := 3)]) ?_
            refine S_aload_n X dX11_mark_49 rfl rfl ?_
            refine S_get X fgX11_85_10 0 rfl hf2 dX11_mark_50 ?_
            refine S_iconst X dX11_mark_53 ?_
            refine S_put X fpX11_143_9 3 rfl (FT_b (Or.inl rfl)) dX11_mark_54 ?_
            refine S_w (ws' := [(h0, ob 10 f), (oW, ob 7 fW), (oS, ob 5 (uF fS 3 (iv (zXor mk (zShl 1 b))))), (oK, ob 9 (uF fK 0 (iv 0)))]) (by simp only [List.set]; rw [uF_same (k := 0)]) ?_
            refine S_iconst X dX11_mark_57 ?_
            exact S_zret X (Or.inr rfl) (nle rfl) (nle rfl) dX11_mark_58 (hPo _ _ (Or.inr (⟨by first | rfl | omega, rfl, by first | rfl | assumption | omega⟩)))
          ·
            refine S_iconst X dX11_mark_32 ?_
            exact S_zret X (Or.inl rfl) (nle rfl) (nle rfl) dX11_mark_33 (hPo _ _ (Or.inl (⟨by first | rfl | omega, rfl, by first | rfl | assumption | omega⟩)))
set_option maxHeartbeats 4000000 in
set_option maxRecDepth 100000 in
theorem kX11_undo (l : Launch) (h0 : Nat) (f : Nat → AV) (fS : Nat → AV) (oS : Nat) (aB : Nat) (B : Int → Int) (oK : Nat) (fK : Nat → AV) (kk : Int) (oD : Nat) (fD : Nat → AV) (dR : Nat) (DR : Int → Int) (td : Int) (un : Int) (hi : Int) (im : Int) (nx : Int) (hf0 : f 7 = rv oS) (hf1 : f 5 = rv oD) (hf2 : f 11 = rv oK) (hf3 : fD 6 = rv dR) (hf4 : fS 4 = rv aB) (hnx : 0 ≤ nx ∧ nx ≤ 59) (hun : 0 ≤ un ∧ un ≤ 60) : AMi l yX11_undo cX11_undo 1 .int 2 0 0 [rv h0] [(h0, ob 10 f), (oD, ob 0 (uF (uF (uF (uF (uF fD 0 (iv td)) 1 (iv un)) 2 (iv hi)) 3 (iv im)) 4 (iv nx))), (dR, ar 360 DR), (oS, ob 5 fS), (aB, ar 6 B), (oK, ob 9 (uF fK 0 (iv kk)))] (fun z u => (z = -1 ∧ u = [(h0, ob 10 f), (oD, ob 0 (uF (uF (uF (uF (uF fD 0 (iv td)) 1 (iv un)) 2 (iv hi)) 3 (iv im)) 4 (iv nx))), (dR, ar 360 DR), (oS, ob 5 fS), (aB, ar 6 B), (oK, ob 9 (uF fK 0 (iv kk)))] ∧ un = 0) ∨ (z = td - 1 ∧ u = [(h0, ob 10 f), (oD, ob 0 (uF (uF (uF (uF (uF fD 0 (iv (td - 1))) 1 (iv (un - 1))) 2 (iv hi)) 3 (iv im)) 4 (iv ((nx + 60 - 1).tmod 60)))), (dR, ar 360 DR), (oS, ob 5 fS), (aB, ar 6 (cpZ DR B ((nx + 60 - 1).tmod 60 * 6) 0 6)), (oK, ob 9 (uF fK 0 (iv 0)))] ∧ 1 ≤ un)) := by
  refine AMi.of2 rfl (nle rfl) ?_
  intro D G A p e s m args below meth c Po hPo X
  refine S_aload_n X dX11_undo_0 rfl rfl ?_
  refine S_get X fgX11_48_10 0 rfl hf1 dX11_undo_1 ?_
  refine S_get (v := iv un) X fgX11_216_0 1 rfl rfl dX11_undo_4 ?_
  refine S_if_ne (tgt := 12) X dX11_undo_7 (by decide) (by omega) (fun c_1 => ?_) (fun c_1 => ?_)
  ·
    refine S_aload_n X dX11_undo_12 rfl rfl ?_
    refine S_get X fgX11_48_10 0 rfl hf1 dX11_undo_13 ?_
    refine S_aload_n X dX11_undo_16 rfl rfl ?_
    refine S_get X fgX11_59_10 0 rfl hf0 dX11_undo_17 ?_
    refine S_get X fgX11_158_5 3 rfl hf4 dX11_undo_20 ?_
    refine S_callv X (kX0_takeBack l oD fD dR DR td un hi im nx aB B hf3 (by omega)) (is := [1, 2, 4]) rfl (run_V X lkX11_219 1 rfl rfl (is := [1, 2, 4]) (avs := [rv aB]) (rest := []) rfl rfl (nle rfl) ⟨nle rfl, nle rfl⟩ ⟨nle rfl, nle rfl⟩ dX11_undo_23 (by decide) rfl) (fun u_2 hp_3 => ?_)
    have hu_6 := hp_3
    subst hu_6
    refine ⟨rfl, ?_⟩
    refine S_w (ws' := [(h0, ob 10 f), (oD, ob 0 (uF (uF (uF (uF (uF fD 0 (iv (td - 1))) 1 (iv (un - 1))) 2 (iv hi)) 3 (iv im)) 4 (iv ((nx + 60 - 1).tmod 60)))), (dR, ar 360 DR), (oS, ob 5 fS), (aB, ar 6 (cpZ DR B ((nx + 60 - 1).tmod 60 * 6) 0 6)), (oK, ob 9 (uF fK 0 (iv kk)))]) rfl ?_
    refine S_aload_n X dX11_undo_26 rfl rfl ?_
    refine S_get X fgX11_85_10 0 rfl hf2 dX11_undo_27 ?_
    refine S_iconst X dX11_undo_30 ?_
    refine S_put X fpX11_143_9 5 rfl (FT_b (Or.inl rfl)) dX11_undo_31 ?_
    refine S_w (ws' := [(h0, ob 10 f), (oD, ob 0 (uF (uF (uF (uF (uF fD 0 (iv (td - 1))) 1 (iv (un - 1))) 2 (iv hi)) 3 (iv im)) 4 (iv ((nx + 60 - 1).tmod 60)))), (dR, ar 360 DR), (oS, ob 5 fS), (aB, ar 6 (cpZ DR B ((nx + 60 - 1).tmod 60 * 6) 0 6)), (oK, ob 9 (uF fK 0 (iv 0)))]) (by simp only [List.set]; rw [uF_same (k := 0)]) ?_
    refine S_aload_n X dX11_undo_34 rfl rfl ?_
    refine S_get X fgX11_48_10 0 rfl hf1 dX11_undo_35 ?_
    refine S_get (v := iv (td - 1)) X fgX11_205_0 1 rfl rfl dX11_undo_38 ?_
    exact S_iret X (nle rfl) (nle rfl) dX11_undo_41 (hPo _ _ (Or.inr (⟨by first | rfl | omega, rfl, by first | rfl | assumption | omega⟩)))
  ·
    refine S_iconst X dX11_undo_10 ?_
    exact S_iret X (nle rfl) (nle rfl) dX11_undo_11 (hPo _ _ (Or.inl (⟨by first | rfl | omega, rfl, by first | rfl | assumption | omega⟩)))
set_option maxHeartbeats 4000000 in
set_option maxRecDepth 100000 in
theorem kX11_image (l : Launch) (h0 : Nat) (f : Nat → AV) (oW : Nat) (fW : Nat → AV) (fS : Nat → AV) (pl : Int) (oS : Nat) (aB : Nat) (B : Int → Int) (oD : Nat) (fD : Nat → AV) (dI : Nat) (DI : Int → Int) (td : Int) (un : Int) (hi : Int) (im : Int) (nx : Int) (hf0 : f 3 = rv oW) (hf1 : f 7 = rv oS) (hf2 : f 5 = rv oD) (hf3 : fW 0 = iv pl) (hf4 : fD 5 = rv dI) (hf5 : fS 4 = rv aB) (hpl : 0 ≤ pl ∧ pl ≤ 6) : AMi l yX11_image cX11_image 1 .int 2 0 0 [rv h0] [(h0, ob 10 f), (oW, ob 7 fW), (oD, ob 0 (uF (uF (uF (uF (uF fD 0 (iv td)) 1 (iv un)) 2 (iv hi)) 3 (iv im)) 4 (iv nx))), (dI, ar 6 DI), (oS, ob 5 fS), (aB, ar 6 B)] (fun z u => (z = -1 ∧ u = [(h0, ob 10 f), (oW, ob 7 fW), (oD, ob 0 (uF (uF (uF (uF (uF fD 0 (iv td)) 1 (iv un)) 2 (iv hi)) 3 (iv im)) 4 (iv nx))), (dI, ar 6 DI), (oS, ob 5 fS), (aB, ar 6 B)] ∧ pl = 0) ∨ (z = td ∧ u = [(h0, ob 10 f), (oW, ob 7 fW), (oD, ob 0 (uF (uF (uF (uF (uF fD 0 (iv td)) 1 (iv un)) 2 (iv 1)) 3 (iv td)) 4 (iv nx))), (dI, ar 6 (cpZ B DI 0 0 6)), (oS, ob 5 fS), (aB, ar 6 B)] ∧ 1 ≤ pl)) := by
  refine AMi.of2 rfl (nle rfl) ?_
  intro D G A p e s m args below meth c Po hPo X
  refine S_aload_n X dX11_image_0 rfl rfl ?_
  refine S_get X fgX11_35_10 0 rfl hf0 dX11_image_1 ?_
  refine S_get X fgX11_115_7 1 rfl hf3 dX11_image_4 ?_
  refine S_if_ne (tgt := 12) X dX11_image_7 (by decide) (by omega) (fun c_1 => ?_) (fun c_1 => ?_)
  ·
    refine S_aload_n X dX11_image_12 rfl rfl ?_
    refine S_get X fgX11_48_10 0 rfl hf2 dX11_image_13 ?_
    refine S_aload_n X dX11_image_16 rfl rfl ?_
    refine S_get X fgX11_59_10 0 rfl hf1 dX11_image_17 ?_
    refine S_get X fgX11_158_5 4 rfl hf5 dX11_image_20 ?_
    refine S_callv X (kX0_takeImage l oD fD dI DI td un hi im nx aB B hf4) (is := [2, 3, 5]) rfl (run_V X lkX11_222 2 rfl rfl (is := [2, 3, 5]) (avs := [rv aB]) (rest := []) rfl rfl (nle rfl) ⟨nle rfl, nle rfl⟩ ⟨nle rfl, nle rfl⟩ dX11_image_23 (by decide) rfl) (fun u_2 hp_3 => ?_)
    have hu_6 := hp_3
    subst hu_6
    refine ⟨rfl, ?_⟩
    refine S_w (ws' := [(h0, ob 10 f), (oW, ob 7 fW), (oD, ob 0 (uF (uF (uF (uF (uF fD 0 (iv td)) 1 (iv un)) 2 (iv 1)) 3 (iv td)) 4 (iv nx))), (dI, ar 6 (cpZ B DI 0 0 6)), (oS, ob 5 fS), (aB, ar 6 B)]) rfl ?_
    refine S_aload_n X dX11_image_26 rfl rfl ?_
    refine S_get X fgX11_48_10 0 rfl hf2 dX11_image_27 ?_
    refine S_get (v := iv td) X fgX11_205_0 2 rfl rfl dX11_image_30 ?_
    exact S_iret X (nle rfl) (nle rfl) dX11_image_33 (hPo _ _ (Or.inr (⟨by first | rfl | omega, rfl, by first | rfl | assumption | omega⟩)))
  ·
    refine S_iconst X dX11_image_10 ?_
    exact S_iret X (nle rfl) (nle rfl) dX11_image_11 (hPo _ _ (Or.inl (⟨by first | rfl | omega, rfl, by first | rfl | assumption | omega⟩)))
set_option maxHeartbeats 4000000 in
set_option maxRecDepth 100000 in
theorem kX11_back (l : Launch) (h0 : Nat) (f : Nat → AV) (fS : Nat → AV) (oS : Nat) (aB : Nat) (B : Int → Int) (oK : Nat) (fK : Nat → AV) (kk : Int) (oD : Nat) (fD : Nat → AV) (dI : Nat) (DI : Int → Int) (td : Int) (un : Int) (hi : Int) (im : Int) (nx : Int) (hf0 : f 7 = rv oS) (hf1 : f 5 = rv oD) (hf2 : f 11 = rv oK) (hf3 : fD 5 = rv dI) (hf4 : fS 4 = rv aB) (hhi : hi = 0 ∨ hi = 1) : AMi l yX11_back cX11_back 1 .int 2 0 0 [rv h0] [(h0, ob 10 f), (oD, ob 0 (uF (uF (uF (uF (uF fD 0 (iv td)) 1 (iv un)) 2 (iv hi)) 3 (iv im)) 4 (iv nx))), (dI, ar 6 DI), (oS, ob 5 fS), (aB, ar 6 B), (oK, ob 9 (uF fK 0 (iv kk)))] (fun z u => (z = -1 ∧ u = [(h0, ob 10 f), (oD, ob 0 (uF (uF (uF (uF (uF fD 0 (iv td)) 1 (iv un)) 2 (iv hi)) 3 (iv im)) 4 (iv nx))), (dI, ar 6 DI), (oS, ob 5 fS), (aB, ar 6 B), (oK, ob 9 (uF fK 0 (iv kk)))] ∧ hi = 0) ∨ (z = im ∧ u = [(h0, ob 10 f), (oD, ob 0 (uF (uF (uF (uF (uF fD 0 (iv im)) 1 (iv 0)) 2 (iv hi)) 3 (iv im)) 4 (iv nx))), (dI, ar 6 DI), (oS, ob 5 fS), (aB, ar 6 (cpZ DI B 0 0 6)), (oK, ob 9 (uF fK 0 (iv 0)))] ∧ hi = 1)) := by
  refine AMi.of2 rfl (nle rfl) ?_
  intro D G A p e s m args below meth c Po hPo X
  refine S_aload_n X dX11_back_0 rfl rfl ?_
  refine S_get X fgX11_48_10 0 rfl hf1 dX11_back_1 ?_
  refine S_get (v := iv hi) X fgX11_225_0 1 rfl rfl dX11_back_4 ?_
  refine S_if_ne (tgt := 12) X dX11_back_7 (by decide) (by omega) (fun c_1 => ?_) (fun c_1 => ?_)
  ·
    refine S_aload_n X dX11_back_12 rfl rfl ?_
    refine S_get X fgX11_48_10 0 rfl hf1 dX11_back_13 ?_
    refine S_aload_n X dX11_back_16 rfl rfl ?_
    refine S_get X fgX11_59_10 0 rfl hf0 dX11_back_17 ?_
    refine S_get X fgX11_158_5 3 rfl hf4 dX11_back_20 ?_
    refine S_callv X (kX0_comeBack l oD fD dI DI td un hi im nx aB B hf3) (is := [1, 2, 4]) rfl (run_V X lkX11_228 1 rfl rfl (is := [1, 2, 4]) (avs := [rv aB]) (rest := []) rfl rfl (nle rfl) ⟨nle rfl, nle rfl⟩ ⟨nle rfl, nle rfl⟩ dX11_back_23 (by decide) rfl) (fun u_2 hp_3 => ?_)
    have hu_6 := hp_3
    subst hu_6
    refine ⟨rfl, ?_⟩
    refine S_w (ws' := [(h0, ob 10 f), (oD, ob 0 (uF (uF (uF (uF (uF fD 0 (iv im)) 1 (iv 0)) 2 (iv hi)) 3 (iv im)) 4 (iv nx))), (dI, ar 6 DI), (oS, ob 5 fS), (aB, ar 6 (cpZ DI B 0 0 6)), (oK, ob 9 (uF fK 0 (iv kk)))]) rfl ?_
    refine S_aload_n X dX11_back_26 rfl rfl ?_
    refine S_get X fgX11_85_10 0 rfl hf2 dX11_back_27 ?_
    refine S_iconst X dX11_back_30 ?_
    refine S_put X fpX11_143_9 5 rfl (FT_b (Or.inl rfl)) dX11_back_31 ?_
    refine S_w (ws' := [(h0, ob 10 f), (oD, ob 0 (uF (uF (uF (uF (uF fD 0 (iv im)) 1 (iv 0)) 2 (iv hi)) 3 (iv im)) 4 (iv nx))), (dI, ar 6 DI), (oS, ob 5 fS), (aB, ar 6 (cpZ DI B 0 0 6)), (oK, ob 9 (uF fK 0 (iv 0)))]) (by simp only [List.set]; rw [uF_same (k := 0)]) ?_
    refine S_aload_n X dX11_back_34 rfl rfl ?_
    refine S_get X fgX11_48_10 0 rfl hf1 dX11_back_35 ?_
    refine S_get (v := iv im) X fgX11_205_0 1 rfl rfl dX11_back_38 ?_
    exact S_iret X (nle rfl) (nle rfl) dX11_back_41 (hPo _ _ (Or.inr (⟨by first | rfl | omega, rfl, by first | rfl | assumption | omega⟩)))
  ·
    refine S_iconst X dX11_back_10 ?_
    exact S_iret X (nle rfl) (nle rfl) dX11_back_11 (hPo _ _ (Or.inl (⟨by first | rfl | omega, rfl, by first | rfl | assumption | omega⟩)))
set_option maxHeartbeats 4000000 in
set_option maxRecDepth 100000 in
theorem kX11_settle (l : Launch) (h0 : Nat) (f : Nat → AV) (oW : Nat) (fW : Nat → AV) (fP : Nat → AV) (fS : Nat → AV) (pl : Int) (n : Int) (ec : Int) (mk : Int) (oP : Nat) (oS : Nat) (aA : Nat) (aT : Nat) (aW : Nat) (aS : Nat) (aB : Nat) (aF : Nat) (aH : Nat) (aL : Nat) (Ab : Int → Int) (Wq : Int → Int) (B : Int → Int) (Fo : Int → Int) (Ho : Int → Int) (Lt : Int → Int) (p0 : Int) (n0 : Int) (k0 : Int) (s4 : Int) (s5 : Int) (v : Int) (hf0 : f 3 = rv oW) (hf1 : f 7 = rv oS) (hf2 : f 9 = rv oP) (hf3 : fW 0 = iv pl) (hf4 : fP 0 = rv aA) (hf5 : fP 1 = rv aT) (hf6 : fP 2 = rv aW) (hf7 : fP 3 = rv aS) (hf8 : fS 0 = iv pl) (hf9 : fS 1 = iv n) (hf10 : fS 2 = iv ec) (hf11 : fS 3 = iv mk) (hf12 : fS 4 = rv aB) (hf13 : fS 5 = rv aF) (hf14 : fS 6 = rv aH) (hf15 : fS 7 = rv aL) (hz : okZ pl n ec Fo Ho B Lt) (hv : inR v) : AMi l yX11_settle cX11_settle 2 .int 4 0 0 [rv h0, iv v] [(h0, ob 10 f), (oW, ob 7 fW), (oP, ob 4 (uF (uF (uF (uF (uF fP 4 (iv s4)) 5 (iv s5)) 6 (iv p0)) 7 (iv n0)) 8 (iv k0))), (aA, ar 1206 Ab), (aW, ar 6 Wq), (oS, ob 5 fS), (aB, ar 6 B), (aF, ar 6 Fo), (aH, ar 6 Ho)] (fun z u => ∃ z9 : Int, ∃ p9 : Int, ∃ n9 : Int, ∃ k9 : Int, ∃ s6 : Int, ∃ s7 : Int, ∃ A2 : Int → Int, ∃ W2 : Int → Int, z = z9 ∧ u = [(h0, ob 10 f), (oW, ob 7 fW), (oP, ob 4 (uF (uF (uF (uF (uF fP 4 (iv s6)) 5 (iv s7)) 6 (iv p9)) 7 (iv n9)) 8 (iv k9))), (aA, ar 1206 A2), (aW, ar 6 W2), (oS, ob 5 fS), (aB, ar 6 B), (aF, ar 6 Fo), (aH, ar 6 Ho)] ∧ rSettle pl ec Fo Ho B v z9) := by
  refine AMi.of2 rfl (nle rfl) ?_
  intro D G A p e s m args below meth c Po hPo X
  have hz6 := hz.2.1
  have hz0 := hz.1
  have hzn := hz.2.2.1
  have hzm := hz.2.2.2.1
  have hze := hz.2.2.2.2
  refine S_aload_n X dX11_settle_0 rfl rfl ?_
  refine S_iload_n X dX11_settle_1 rfl rfl ?_
  refine S_calli X (kX11_isOneOfTwo l h0 f oW fW pl v hf0 hf3 (by omega) (by omega)) (is := [0, 1]) rfl (run_V X lkX11_252 0 rfl rfl (is := [0, 1]) (avs := [iv v]) (rest := []) rfl rfl (nle rfl) ⟨nle rfl, nle rfl⟩ ⟨nle rfl, nle rfl⟩ dX11_settle_2 (by decide) rfl) (fun z_3 u_1 hp_2 => ?_)
  rcases hp_2 with ⟨hz_4, hu_5, hp_6⟩ | ⟨hz_7, hu_8, hp_9⟩
  ·
    subst hz_4
    subst hu_5
    refine ⟨rfl, ?_⟩
    refine S_w (ws' := [(h0, ob 10 f), (oW, ob 7 fW), (oP, ob 4 (uF (uF (uF (uF (uF fP 4 (iv s4)) 5 (iv s5)) 6 (iv p0)) 7 (iv n0)) 8 (iv k0))), (aA, ar 1206 Ab), (aW, ar 6 Wq), (oS, ob 5 fS), (aB, ar 6 B), (aF, ar 6 Fo), (aH, ar 6 Ho)]) rfl ?_
    refine S_if_eq (tgt := 22) X dX11_settle_5 (by decide) (by decide) (fun _ => ?_) (fun h9 => absurd h9 (by decide))
    refine S_iconst X dX11_settle_22 ?_
    exact S_iret X (nle rfl) (nle rfl) dX11_settle_23 (hPo _ _ (⟨_, _, _, _, _, _, _, _, rfl, rfl, Or.inl ⟨by omega, rfl⟩⟩))
  ·
    subst hz_7
    subst hu_8
    refine ⟨rfl, ?_⟩
    refine S_w (ws' := [(h0, ob 10 f), (oW, ob 7 fW), (oP, ob 4 (uF (uF (uF (uF (uF fP 4 (iv s4)) 5 (iv s5)) 6 (iv p0)) 7 (iv n0)) 8 (iv k0))), (aA, ar 1206 Ab), (aW, ar 6 Wq), (oS, ob 5 fS), (aB, ar 6 B), (aF, ar 6 Fo), (aH, ar 6 Ho)]) rfl ?_
    refine S_if_eq (tgt := 22) X dX11_settle_5 (by decide) (by decide) (fun h9 => absurd h9 (by decide)) (fun _ => ?_)
    have hok := hz.s (by omega)
    have hpl := hok.2.1
    have hpl1 := hok.1
    have hn1 := hok.2.2.1
    have hn2 := hok.2.2.2.1
    have hec := hok.2.2.2.2
    refine S_aload_n X dX11_settle_8 rfl rfl ?_
    refine S_get X fgX11_69_10 0 rfl hf2 dX11_settle_9 ?_
    refine S_aload_n X dX11_settle_12 rfl rfl ?_
    refine S_get X fgX11_59_10 0 rfl hf1 dX11_settle_13 ?_
    refine S_calli X (kX4_settles l fP fS pl n ec mk oP oS aA aW aB aF aH Ab Wq B Fo Ho Lt p0 n0 k0 s4 s5 hf4 hf6 hf8 hf9 hf10 hf11 hf12 hf13 hf14 (by omega)) (is := [2, 3, 4, 5, 6, 7, 8]) rfl (run_V X lkX11_261 2 rfl rfl (is := [2, 3, 4, 5, 6, 7, 8]) (avs := [rv oS]) (rest := []) rfl rfl (nle rfl) ⟨nle rfl, nle rfl⟩ ⟨nle rfl, nle rfl⟩ dX11_settle_16 (by decide) rfl) (fun z_14 u_12 hp_13 => ?_)
    rcases hp_13 with ⟨A2_15, W2_16, hz_17, hu_18, hs_19⟩ | ⟨A2_20, W2_21, i2_22, k2_23, hz_24, hu_25, hs_26⟩
    ·
      subst hz_17
      subst hu_18
      refine ⟨rfl, ?_⟩
      refine S_w (ws' := [(h0, ob 10 f), (oW, ob 7 fW), (oP, ob 4 (uF (uF (uF (uF (uF fP 4 (iv s4)) 5 (iv s5)) 6 (iv pl)) 7 (iv n)) 8 (iv mk))), (aA, ar 1206 A2_15), (aW, ar 6 W2_16), (oS, ob 5 fS), (aB, ar 6 B), (aF, ar 6 Fo), (aH, ar 6 Ho)]) rfl ?_
      refine S_if_ne (tgt := 24) X dX11_settle_19 (by decide) (by decide) (fun h9 => absurd h9 (by decide)) (fun _ => ?_)
      refine S_iconst X dX11_settle_22 ?_
      exact S_iret X (nle rfl) (nle rfl) dX11_settle_23 (hPo _ _ (⟨_, _, _, _, _, _, _, _, rfl, rfl, Or.inr ⟨by omega, by omega, Or.inl ⟨hs_19, rfl⟩⟩⟩))
    ·
      subst hz_24
      subst hu_25
      refine ⟨rfl, ?_⟩
      refine S_w (ws' := [(h0, ob 10 f), (oW, ob 7 fW), (oP, ob 4 (uF (uF (uF (uF (uF fP 4 (iv i2_22)) 5 (iv k2_23)) 6 (iv pl)) 7 (iv n)) 8 (iv mk))), (aA, ar 1206 A2_20), (aW, ar 6 W2_21), (oS, ob 5 fS), (aB, ar 6 B), (aF, ar 6 Fo), (aH, ar 6 Ho)]) rfl ?_
      refine S_if_ne (tgt := 24) X dX11_settle_19 (by decide) (by decide) (fun _ => ?_) (fun h9 => absurd h9 (by decide))
      refine S_iload_n X dX11_settle_24 rfl rfl ?_
      refine S_if_ne (tgt := 38) X dX11_settle_25 (by decide) (by omega) (fun c_29 => ?_) (fun c_29 => ?_)
      ·
        refine S_aload_n X dX11_settle_38 rfl rfl ?_
        refine S_get X fgX11_69_10 0 rfl hf2 dX11_settle_39 ?_
        refine S_get (v := iv k2_23) X fgX11_268_4 2 rfl rfl dX11_settle_42 ?_
        exact S_iret X (nle rfl) (nle rfl) dX11_settle_45 (hPo _ _ (⟨_, _, _, _, _, _, _, _, rfl, rfl, Or.inr ⟨by omega, by omega, Or.inr (by obtain ⟨j, a1, a2, a3, a4, a5, a6, a7, a8⟩ := hs_26; exact ⟨j, _, a1, a2, a3, a4, a6, a7, a8, by rw [if_neg (by omega), a5]⟩)⟩⟩))
      ·
        refine S_aload_n X dX11_settle_28 rfl rfl ?_
        refine S_get X fgX11_69_10 0 rfl hf2 dX11_settle_29 ?_
        refine S_get (v := iv i2_22) X fgX11_265_4 2 rfl rfl dX11_settle_32 ?_
        refine S_goto (tgt := 45) X dX11_settle_35 (by decide) ?_
        exact S_iret X (nle rfl) (nle rfl) dX11_settle_45 (hPo _ _ (⟨_, _, _, _, _, _, _, _, rfl, rfl, Or.inr ⟨by omega, by omega, Or.inr (by obtain ⟨j, a1, a2, a3, a4, a5, a6, a7, a8⟩ := hs_26; exact ⟨j, _, a1, a2, a3, a4, a6, a7, a8, by rw [if_pos (by omega)]⟩)⟩⟩))
set_option maxHeartbeats 4000000 in
set_option maxRecDepth 100000 in
theorem kX11_ring (l : Launch) (h0 : Nat) (f : Nat → AV) (oW : Nat) (fW : Nat → AV) (fS : Nat → AV) (pl : Int) (n : Int) (ec : Int) (oS : Nat) (aF : Nat) (B : Int → Int) (Fo : Int → Int) (Ho : Int → Int) (Lt : Int → Int) (q : Int) (hf0 : f 3 = rv oW) (hf1 : f 7 = rv oS) (hf2 : fW 0 = iv pl) (hf3 : fS 5 = rv aF) (hz : okZ pl n ec Fo Ho B Lt) (hx_q : inR q) : AMi l yX11_ring cX11_ring 5 .int 2 0 0 [rv h0, iv q] [(h0, ob 10 f), (oW, ob 7 fW), (oS, ob 5 fS), (aF, ar 6 Fo)] (fun z u => z = aRingC pl Fo q ∧ u = [(h0, ob 10 f), (oW, ob 7 fW), (oS, ob 5 fS), (aF, ar 6 Fo)]) := by
  refine AMi.of2 rfl (nle rfl) ?_
  intro D G A p e s m args below meth c Po hPo X
  have hz6 := hz.2.1
  have hz0 := hz.1
  have hzn := hz.2.2.1
  have hzm := hz.2.2.2.1
  have hze := hz.2.2.2.2
  refine S_aload_n X dX11_ring_0 rfl rfl ?_
  refine S_iload_n X dX11_ring_1 rfl rfl ?_
  refine S_calli X (kX11_isPlayer l h0 f oW fW pl q hf0 hf2 (by omega) (by omega)) (is := [0, 1]) rfl (run_V X lkX11_147 0 rfl rfl (is := [0, 1]) (avs := [iv q]) (rest := []) rfl rfl (nle rfl) ⟨nle rfl, nle rfl⟩ ⟨nle rfl, nle rfl⟩ dX11_ring_2 (by decide) rfl) (fun z_3 u_1 hp_2 => ?_)
  rcases hp_2 with ⟨hz_4, hu_5, hp_6⟩ | ⟨hz_7, hu_8, hp_9⟩
  ·
    subst hz_4
    subst hu_5
    refine ⟨rfl, ?_⟩
    refine S_w (ws' := [(h0, ob 10 f), (oW, ob 7 fW), (oS, ob 5 fS), (aF, ar 6 Fo)]) rfl ?_
    refine S_if_ne (tgt := 10) X dX11_ring_5 (by decide) (by decide) (fun h9 => absurd h9 (by decide)) (fun _ => ?_)
    refine S_iconst X dX11_ring_8 ?_
    exact S_iret X (nle rfl) (nle rfl) dX11_ring_9 (hPo _ _ (⟨by unfold aRingC; rw [if_neg (by omega)], rfl⟩))
  ·
    subst hz_7
    subst hu_8
    refine ⟨rfl, ?_⟩
    refine S_w (ws' := [(h0, ob 10 f), (oW, ob 7 fW), (oS, ob 5 fS), (aF, ar 6 Fo)]) rfl ?_
    refine S_if_ne (tgt := 10) X dX11_ring_5 (by decide) (by decide) (fun _ => ?_) (fun h9 => absurd h9 (by decide))
    have hok := hz.s (by omega)
    have hpl := hok.2.1
    have hpl1 := hok.1
    have hn1 := hok.2.2.1
    have hn2 := hok.2.2.2.1
    have hec := hok.2.2.2.2
    have hi6 := it_in (F := Fo) (pl := pl) (fun p h0 h1 => (hok.2.2.2.2.2.2 p h0 h1).1) (x := q) (by omega) 6 (by decide)
    refine S_iconst X dX11_ring_10 ?_
    refine S_istore_n X dX11_ring_11 rfl (nle rfl) ?_
    refine S_aload_n X dX11_ring_12 rfl rfl ?_
    refine S_get X fgX11_59_10 0 rfl hf1 dX11_ring_13 ?_
    refine S_iload_n X dX11_ring_16 rfl rfl ?_
    refine S_bipush X dX11_ring_17 rfl ?_
    refine S_calli X (kX6_aheadOf l fS pl oS aF Fo q 6 hf3 (by omega) (fun p h0 h1 => (hok.2.2.2.2.2.2 p h0 h1).1) (by omega) (by omega)) (is := [2, 3]) rfl (run_V X lkX11_286 2 rfl rfl (is := [2, 3]) (avs := [iv q, iv 6]) (rest := []) rfl rfl (nle rfl) ⟨nle rfl, nle rfl⟩ ⟨nle rfl, nle rfl⟩ dX11_ring_19 (by decide) rfl) (fun z_14 u_12 hp_13 => ?_)
    obtain ⟨hz_15, hu_16⟩ := hp_13
    subst hz_15
    subst hu_16
    refine ⟨rfl, ?_⟩
    refine S_w (ws' := [(h0, ob 10 f), (oW, ob 7 fW), (oS, ob 5 fS), (aF, ar 6 Fo)]) rfl ?_
    refine S_istore_n X dX11_ring_22 rfl (nle rfl) ?_
    refine S_iconst X dX11_ring_23 ?_
    refine S_istore X dX11_ring_24 (nle rfl) ?_
    have lp26_1 : ∀ (N : Nat) (i : Int) (bi : Int) (x : Int) (L : Nat → Option AV), 0 ≤ i ∧ i ≤ 6 → -1 ≤ x ∧ x < pl → rcN Fo (6 - i).toNat bi x = rcN Fo 6 0 (itI Fo 6 q) → L 0 = some (rv h0) → L 1 = some (iv q) → L 2 = some (iv bi) → L 3 = some (iv x) → L 4 = some (iv i) → 7 - i < (N : Int) → S_ p l e (rmD 2 0 0) s m args below meth c (MQ below (QcI D G A Po) args s 0 0 A) D G A 5 0 0 26 L [] [(h0, ob 10 f), (oW, ob 7 fW), (oS, ob 5 fS), (aF, ar 6 Fo)] := by
      intro N
      induction N with
      | zero =>
        intro i bi x L26 hi hx hrc hL26_0 hL26_1 hL26_2 hL26_3 hL26_4 hN26
        exfalso; omega
      | succ N ih26 =>
        intro i bi x L26 hi hx hrc hL26_0 hL26_1 hL26_2 hL26_3 hL26_4 hN26
        refine S_iload X dX11_ring_26 hL26_4 ?_
        refine S_bipush X dX11_ring_28 rfl ?_
        refine S_icmp_ge (tgt := 63) X dX11_ring_30 (by decide) (by omega) (by decide) (fun c_17 => ?_) (fun c_17 => ?_)
        ·
          refine S_iload_n X dX11_ring_63 rfl hL26_2 ?_
          exact S_iret X (nle rfl) (nle rfl) dX11_ring_64 (hPo _ _ (⟨by unfold aRingC; rw [if_pos (by omega), ← hrc]; first | (rw [show (6 - i).toNat = 0 by omega]; rfl) | (rw [show x = -1 by omega, rcN_e]), rfl⟩))
        ·
          refine S_aload_n X dX11_ring_33 rfl hL26_0 ?_
          refine S_iload_n X dX11_ring_34 rfl hL26_3 ?_
          refine S_calli X (kX11_isPlayer l h0 f oW fW pl x hf0 hf2 (by omega) (by omega)) (is := [0, 1]) rfl (run_V X lkX11_147 0 rfl rfl (is := [0, 1]) (avs := [iv x]) (rest := []) rfl rfl (nle rfl) ⟨nle rfl, nle rfl⟩ ⟨nle rfl, nle rfl⟩ dX11_ring_35 (by decide) rfl) (fun z_20 u_18 hp_19 => ?_)
          rcases hp_19 with ⟨hz_21, hu_22, hp_23⟩ | ⟨hz_24, hu_25, hp_26⟩
          ·
            subst hz_21
            subst hu_22
            refine ⟨rfl, ?_⟩
            refine S_w (ws' := [(h0, ob 10 f), (oW, ob 7 fW), (oS, ob 5 fS), (aF, ar 6 Fo)]) rfl ?_
            refine S_if_eq (tgt := 63) X dX11_ring_38 (by decide) (by decide) (fun _ => ?_) (fun h9 => absurd h9 (by decide))
            refine S_iload_n X dX11_ring_63 rfl hL26_2 ?_
            exact S_iret X (nle rfl) (nle rfl) dX11_ring_64 (hPo _ _ (⟨by unfold aRingC; rw [if_pos (by omega), ← hrc]; first | (rw [show (6 - i).toNat = 0 by omega]; rfl) | (rw [show x = -1 by omega, rcN_e]), rfl⟩))
          ·
            subst hz_24
            subst hu_25
            refine ⟨rfl, ?_⟩
            refine S_w (ws' := [(h0, ob 10 f), (oW, ob 7 fW), (oS, ob 5 fS), (aF, ar 6 Fo)]) rfl ?_
            refine S_if_eq (tgt := 63) X dX11_ring_38 (by decide) (by decide) (fun h9 => absurd h9 (by decide)) (fun _ => ?_)
            refine S_iload_n X dX11_ring_41 rfl hL26_2 ?_
            refine S_iconst X dX11_ring_42 ?_
            refine S_iload_n X dX11_ring_43 rfl hL26_3 ?_
            refine S_ishl X dX11_ring_44 ?_
            refine S_ior X dX11_ring_45 ?_
            refine S_istore_n X dX11_ring_46 rfl (nle rfl) ?_
            have hfx := (hok.2.2.2.2.2.2 x (by omega) (by omega)).1
            refine S_aload_n X dX11_ring_47 rfl hL26_0 ?_
            refine S_get X fgX11_59_10 0 rfl hf1 dX11_ring_48 ?_
            refine S_iload_n X dX11_ring_51 rfl hL26_3 ?_
            refine S_iconst X dX11_ring_52 ?_
            refine S_calli X (kX6_aheadOf l fS pl oS aF Fo x 1 hf3 (by omega) (fun p h0 h1 => (hok.2.2.2.2.2.2 p h0 h1).1) (by omega) (by omega)) (is := [2, 3]) rfl (run_V X lkX11_286 2 rfl rfl (is := [2, 3]) (avs := [iv x, iv 1]) (rest := []) rfl rfl (nle rfl) ⟨nle rfl, nle rfl⟩ ⟨nle rfl, nle rfl⟩ dX11_ring_53 (by decide) rfl) (fun z_31 u_29 hp_30 => ?_)
            obtain ⟨hz_32, hu_33⟩ := hp_30
            subst hz_32
            subst hu_33
            refine ⟨rfl, ?_⟩
            refine S_w (ws' := [(h0, ob 10 f), (oW, ob 7 fW), (oS, ob 5 fS), (aF, ar 6 Fo)]) rfl ?_
            have hi1 : itI Fo 1 x = Fo x := by rw [itI_1, if_neg (by omega)]
            rw [hi1]
            refine S_istore_n X dX11_ring_56 rfl (nle rfl) ?_
            refine S_iinc X dX11_ring_57 (nle rfl) hL26_4 ?_
            refine S_goto (tgt := 26) X dX11_ring_60 (by decide) ?_
            exact ih26 (i + 1) (zOr bi (zShl 1 x)) (Fo x) _ (by omega) (by omega) (by rw [← hrc, show (6 - i).toNat = (6 - (i + 1)).toNat + 1 by omega, rcN, if_neg (by omega)]) hL26_0 hL26_1 rfl rfl rfl (by omega)
    exact lp26_1 (Int.toNat (7 - 0) + 1) 0 0 (itI Fo 6 q) _ (by omega) (by omega) (rfl) rfl rfl rfl rfl rfl (by omega)
set_option maxHeartbeats 4000000 in
set_option maxRecDepth 100000 in
theorem kX11_head (l : Launch) (h0 : Nat) (f : Nat → AV) (oW : Nat) (fW : Nat → AV) (fS : Nat → AV) (pl : Int) (n : Int) (ec : Int) (oS : Nat) (aF : Nat) (B : Int → Int) (Fo : Int → Int) (Ho : Int → Int) (Lt : Int → Int) (q : Int) (hf0 : f 3 = rv oW) (hf1 : f 7 = rv oS) (hf2 : fW 0 = iv pl) (hf3 : fS 5 = rv aF) (hz : okZ pl n ec Fo Ho B Lt) (hx_q : inR q) : AMi l yX11_head cX11_head 4 .int 2 0 0 [rv h0, iv q] [(h0, ob 10 f), (oW, ob 7 fW), (oS, ob 5 fS), (aF, ar 6 Fo)] (fun z u => z = aHeadC pl Fo q ∧ u = [(h0, ob 10 f), (oW, ob 7 fW), (oS, ob 5 fS), (aF, ar 6 Fo)]) := by
  refine AMi.of2 rfl (nle rfl) ?_
  intro D G A p e s m args below meth c Po hPo X
  have hz6 := hz.2.1
  have hz0 := hz.1
  have hzn := hz.2.2.1
  have hzm := hz.2.2.2.1
  have hze := hz.2.2.2.2
  refine S_aload_n X dX11_head_0 rfl rfl ?_
  refine S_iload_n X dX11_head_1 rfl rfl ?_
  refine S_calli X (kX11_isPlayer l h0 f oW fW pl q hf0 hf2 (by omega) (by omega)) (is := [0, 1]) rfl (run_V X lkX11_147 0 rfl rfl (is := [0, 1]) (avs := [iv q]) (rest := []) rfl rfl (nle rfl) ⟨nle rfl, nle rfl⟩ ⟨nle rfl, nle rfl⟩ dX11_head_2 (by decide) rfl) (fun z_3 u_1 hp_2 => ?_)
  rcases hp_2 with ⟨hz_4, hu_5, hp_6⟩ | ⟨hz_7, hu_8, hp_9⟩
  ·
    subst hz_4
    subst hu_5
    refine ⟨rfl, ?_⟩
    refine S_w (ws' := [(h0, ob 10 f), (oW, ob 7 fW), (oS, ob 5 fS), (aF, ar 6 Fo)]) rfl ?_
    refine S_if_eq (tgt := 22) X dX11_head_5 (by decide) (by decide) (fun _ => ?_) (fun h9 => absurd h9 (by decide))
    refine S_iconst X dX11_head_22 ?_
    exact S_iret X (nle rfl) (nle rfl) dX11_head_23 (hPo _ _ (⟨by unfold aHeadC; rw [if_neg (by omega)], rfl⟩))
  ·
    subst hz_7
    subst hu_8
    refine ⟨rfl, ?_⟩
    refine S_w (ws' := [(h0, ob 10 f), (oW, ob 7 fW), (oS, ob 5 fS), (aF, ar 6 Fo)]) rfl ?_
    refine S_if_eq (tgt := 22) X dX11_head_5 (by decide) (by decide) (fun h9 => absurd h9 (by decide)) (fun _ => ?_)
    have hok := hz.s (by omega)
    have hpl := hok.2.1
    have hpl1 := hok.1
    have hn1 := hok.2.2.1
    have hn2 := hok.2.2.2.1
    have hec := hok.2.2.2.2
    have hi6 := it_in (F := Fo) (pl := pl) (fun p h0 h1 => (hok.2.2.2.2.2.2 p h0 h1).1) (x := q) (by omega) 6 (by decide)
    refine S_aload_n X dX11_head_8 rfl rfl ?_
    refine S_get X fgX11_59_10 0 rfl hf1 dX11_head_9 ?_
    refine S_iload_n X dX11_head_12 rfl rfl ?_
    refine S_bipush X dX11_head_13 rfl ?_
    refine S_calli X (kX6_aheadOf l fS pl oS aF Fo q 6 hf3 (by omega) (fun p h0 h1 => (hok.2.2.2.2.2.2 p h0 h1).1) (by omega) (by omega)) (is := [2, 3]) rfl (run_V X lkX11_286 2 rfl rfl (is := [2, 3]) (avs := [iv q, iv 6]) (rest := []) rfl rfl (nle rfl) ⟨nle rfl, nle rfl⟩ ⟨nle rfl, nle rfl⟩ dX11_head_15 (by decide) rfl) (fun z_14 u_12 hp_13 => ?_)
    obtain ⟨hz_15, hu_16⟩ := hp_13
    subst hz_15
    subst hu_16
    refine ⟨rfl, ?_⟩
    refine S_w (ws' := [(h0, ob 10 f), (oW, ob 7 fW), (oS, ob 5 fS), (aF, ar 6 Fo)]) rfl ?_
    refine S_iconst X dX11_head_18 ?_
    refine S_icmp_eq (tgt := 24) X dX11_head_19 (by decide) (by omega) (by decide) (fun c_17 => ?_) (fun c_17 => ?_)
    ·
      refine S_iload_n X dX11_head_24 rfl rfl ?_
      refine S_istore_n X dX11_head_25 rfl (nle rfl) ?_
      refine S_iconst X dX11_head_26 ?_
      refine S_istore_n X dX11_head_27 rfl (nle rfl) ?_
      have lp28_2 : ∀ (N : Nat) (i : Int) (x : Int) (L : Nat → Option AV), 0 ≤ i ∧ i ≤ 6 → 0 ≤ x ∧ x < pl → hcN Fo (6 - i).toNat x = hcN Fo 6 q → L 0 = some (rv h0) → L 1 = some (iv q) → L 2 = some (iv x) → L 3 = some (iv i) → 7 - i < (N : Int) → S_ p l e (rmD 2 0 0) s m args below meth c (MQ below (QcI D G A Po) args s 0 0 A) D G A 4 0 0 28 L [] [(h0, ob 10 f), (oW, ob 7 fW), (oS, ob 5 fS), (aF, ar 6 Fo)] := by
        intro N
        induction N with
        | zero =>
          intro i x L28 hi hx hrc hL28_0 hL28_1 hL28_2 hL28_3 hN28
          exfalso; omega
        | succ N ih28 =>
          intro i x L28 hi hx hrc hL28_0 hL28_1 hL28_2 hL28_3 hN28
          refine S_iload_n X dX11_head_28 rfl hL28_3 ?_
          refine S_bipush X dX11_head_29 rfl ?_
          refine S_icmp_ge (tgt := 63) X dX11_head_31 (by decide) (by omega) (by decide) (fun c_18 => ?_) (fun c_18 => ?_)
          ·
            refine S_iload_n X dX11_head_63 rfl hL28_2 ?_
            exact S_iret X (nle rfl) (nle rfl) dX11_head_64 (hPo _ _ (⟨by unfold aHeadC; rw [if_pos (by omega), ← hrc]; first | (rw [show (6 - i).toNat = 0 by omega]; rfl) | (rw [show (6 - i).toNat = (6 - (i + 1)).toNat + 1 by omega, hcN, if_pos (by omega)]), rfl⟩))
          ·
            have hfx := (hok.2.2.2.2.2.2 x (by omega) (by omega)).1
            refine S_aload_n X dX11_head_34 rfl hL28_0 ?_
            refine S_get X fgX11_59_10 0 rfl hf1 dX11_head_35 ?_
            refine S_iload_n X dX11_head_38 rfl hL28_2 ?_
            refine S_iconst X dX11_head_39 ?_
            refine S_calli X (kX6_aheadOf l fS pl oS aF Fo x 1 hf3 (by omega) (fun p h0 h1 => (hok.2.2.2.2.2.2 p h0 h1).1) (by omega) (by omega)) (is := [2, 3]) rfl (run_V X lkX11_286 2 rfl rfl (is := [2, 3]) (avs := [iv x, iv 1]) (rest := []) rfl rfl (nle rfl) ⟨nle rfl, nle rfl⟩ ⟨nle rfl, nle rfl⟩ dX11_head_40 (by decide) rfl) (fun z_21 u_19 hp_20 => ?_)
            obtain ⟨hz_22, hu_23⟩ := hp_20
            subst hz_22
            subst hu_23
            refine ⟨rfl, ?_⟩
            refine S_w (ws' := [(h0, ob 10 f), (oW, ob 7 fW), (oS, ob 5 fS), (aF, ar 6 Fo)]) rfl ?_
            have hi1 : itI Fo 1 x = Fo x := by rw [itI_1, if_neg (by omega)]
            rw [hi1]
            refine S_iconst X dX11_head_43 ?_
            refine S_icmp_eq (tgt := 63) X dX11_head_44 (by decide) (by omega) (by decide) (fun c_24 => ?_) (fun c_24 => ?_)
            ·
              refine S_iload_n X dX11_head_63 rfl hL28_2 ?_
              exact S_iret X (nle rfl) (nle rfl) dX11_head_64 (hPo _ _ (⟨by unfold aHeadC; rw [if_pos (by omega), ← hrc]; first | (rw [show (6 - i).toNat = 0 by omega]; rfl) | (rw [show (6 - i).toNat = (6 - (i + 1)).toNat + 1 by omega, hcN, if_pos (by omega)]), rfl⟩))
            ·
              refine S_aload_n X dX11_head_47 rfl hL28_0 ?_
              refine S_get X fgX11_59_10 0 rfl hf1 dX11_head_48 ?_
              refine S_iload_n X dX11_head_51 rfl hL28_2 ?_
              refine S_iconst X dX11_head_52 ?_
              refine S_calli X (kX6_aheadOf l fS pl oS aF Fo x 1 hf3 (by omega) (fun p h0 h1 => (hok.2.2.2.2.2.2 p h0 h1).1) (by omega) (by omega)) (is := [2, 3]) rfl (run_V X lkX11_286 2 rfl rfl (is := [2, 3]) (avs := [iv x, iv 1]) (rest := []) rfl rfl (nle rfl) ⟨nle rfl, nle rfl⟩ ⟨nle rfl, nle rfl⟩ dX11_head_53 (by decide) rfl) (fun z_27 u_25 hp_26 => ?_)
              obtain ⟨hz_28, hu_29⟩ := hp_26
              subst hz_28
              subst hu_29
              refine ⟨rfl, ?_⟩
              refine S_w (ws' := [(h0, ob 10 f), (oW, ob 7 fW), (oS, ob 5 fS), (aF, ar 6 Fo)]) rfl ?_
              rw [hi1]
              refine S_istore_n X dX11_head_56 rfl (nle rfl) ?_
              refine S_iinc X dX11_head_57 (nle rfl) hL28_3 ?_
              refine S_goto (tgt := 28) X dX11_head_60 (by decide) ?_
              exact ih28 (i + 1) (Fo x) _ (by omega) (by omega) (by rw [← hrc, show (6 - i).toNat = (6 - (i + 1)).toNat + 1 by omega, hcN, if_neg (by omega)]) hL28_0 hL28_1 rfl rfl (by omega)
      exact lp28_2 (Int.toNat (7 - 0) + 1) 0 q _ (by omega) (by omega) (rfl) rfl rfl rfl rfl (by omega)
    ·
      refine S_iconst X dX11_head_22 ?_
      exact S_iret X (nle rfl) (nle rfl) dX11_head_23 (hPo _ _ (⟨by unfold aHeadC; rw [if_neg (by omega)], rfl⟩))
set_option maxHeartbeats 4000000 in
set_option maxRecDepth 100000 in
theorem kX11_roll (l : Launch) (h0 : Nat) (f : Nat → AV) (oW : Nat) (fW : Nat → AV) (pl : Int) (hTo : Nat) (To : Int → Int) (rl : Int) (q : Int) (b : Int) (t : Int) (hf0 : f 3 = rv oW) (hf1 : f 6 = rv hTo) (hf2 : fW 0 = iv pl) (hpl : 0 ≤ pl ∧ pl ≤ 6) (hrl : 0 ≤ rl ∧ rl ≤ 20) (hx_q : inR q) (hx_b : inR b) (hx_t : inR t) : AMi l yX11_roll cX11_roll 6 .int 1 0 0 [rv h0, iv q, iv b, iv t] [(h0, ob 10 (uF f 15 (iv rl))), (oW, ob 7 fW), (hTo, ar 60 To)] (fun z u => (z = -1 ∧ u = [(h0, ob 10 (uF f 15 (iv rl))), (oW, ob 7 fW), (hTo, ar 60 To)] ∧ (¬ ((0 ≤ q ∧ q < pl) ∧ (0 ≤ b ∧ b ≤ 29) ∧ (0 ≤ t ∧ t ≤ 9999) ∧ rl < 20))) ∨ (z = rl + 1 ∧ u = [(h0, ob 10 (uF f 15 (iv (rl + 1)))), (oW, ob 7 fW), (hTo, ar 60 (uZ (uZ (uZ To (rl * 3) q) (rl * 3 + 1) b) (rl * 3 + 2) t))] ∧ ((0 ≤ q ∧ q < pl) ∧ (0 ≤ b ∧ b ≤ 29) ∧ (0 ≤ t ∧ t ≤ 9999) ∧ rl < 20))) := by
  refine AMi.of2 rfl (nle rfl) ?_
  intro D G A p e s m args below meth c Po hPo X
  refine S_aload_n X dX11_roll_0 rfl rfl ?_
  refine S_iload_n X dX11_roll_1 rfl rfl ?_
  refine S_calli X (kX11_isPlayer l h0 (uF f 15 (iv rl)) oW fW pl q hf0 hf2 (by omega) (by omega)) (is := [0, 1]) rfl (run_V X lkX11_147 0 rfl rfl (is := [0, 1]) (avs := [iv q]) (rest := []) rfl rfl (nle rfl) ⟨nle rfl, nle rfl⟩ ⟨nle rfl, nle rfl⟩ dX11_roll_2 (by decide) rfl) (fun z_3 u_1 hp_2 => ?_)
  rcases hp_2 with ⟨hz_4, hu_5, hp_6⟩ | ⟨hz_7, hu_8, hp_9⟩
  ·
    subst hz_4
    subst hu_5
    refine ⟨rfl, ?_⟩
    refine S_w (ws' := [(h0, ob 10 (uF f 15 (iv rl))), (oW, ob 7 fW), (hTo, ar 60 To)]) rfl ?_
    refine S_if_eq (tgt := 33) X dX11_roll_5 (by decide) (by decide) (fun _ => ?_) (fun h9 => absurd h9 (by decide))
    refine S_iconst X dX11_roll_33 ?_
    refine S_istore X dX11_roll_34 (nle rfl) ?_
    refine S_iload X dX11_roll_36 rfl ?_
    refine S_if_eq (tgt := 50) X dX11_roll_38 (by decide) (by decide) (fun _ => ?_) (fun h9 => absurd h9 (by decide))
    refine S_iconst X dX11_roll_50 ?_
    exact S_iret X (nle rfl) (nle rfl) dX11_roll_51 (hPo _ _ (Or.inl (⟨by first | rfl | omega, rfl, by first | rfl | assumption | omega⟩)))
  ·
    subst hz_7
    subst hu_8
    refine ⟨rfl, ?_⟩
    refine S_w (ws' := [(h0, ob 10 (uF f 15 (iv rl))), (oW, ob 7 fW), (hTo, ar 60 To)]) rfl ?_
    refine S_if_eq (tgt := 33) X dX11_roll_5 (by decide) (by decide) (fun h9 => absurd h9 (by decide)) (fun _ => ?_)
    refine S_iload_n X dX11_roll_8 rfl rfl ?_
    refine S_if_lt (tgt := 33) X dX11_roll_9 (by decide) (by omega) (fun c_13 => ?_) (fun c_13 => ?_)
    ·
      refine S_iconst X dX11_roll_33 ?_
      refine S_istore X dX11_roll_34 (nle rfl) ?_
      refine S_iload X dX11_roll_36 rfl ?_
      refine S_if_eq (tgt := 50) X dX11_roll_38 (by decide) (by decide) (fun _ => ?_) (fun h9 => absurd h9 (by decide))
      refine S_iconst X dX11_roll_50 ?_
      exact S_iret X (nle rfl) (nle rfl) dX11_roll_51 (hPo _ _ (Or.inl (⟨by first | rfl | omega, rfl, by first | rfl | assumption | omega⟩)))
    ·
      refine S_iload_n X dX11_roll_12 rfl rfl ?_
      refine S_bipush X dX11_roll_13 rfl ?_
      refine S_icmp_ge (tgt := 33) X dX11_roll_15 (by decide) (by omega) (by decide) (fun c_15 => ?_) (fun c_15 => ?_)
      ·
        refine S_iconst X dX11_roll_33 ?_
        refine S_istore X dX11_roll_34 (nle rfl) ?_
        refine S_iload X dX11_roll_36 rfl ?_
        refine S_if_eq (tgt := 50) X dX11_roll_38 (by decide) (by decide) (fun _ => ?_) (fun h9 => absurd h9 (by decide))
        refine S_iconst X dX11_roll_50 ?_
        exact S_iret X (nle rfl) (nle rfl) dX11_roll_51 (hPo _ _ (Or.inl (⟨by first | rfl | omega, rfl, by first | rfl | assumption | omega⟩)))
      ·
        refine S_iload_n X dX11_roll_18 rfl rfl ?_
        refine S_if_lt (tgt := 33) X dX11_roll_19 (by decide) (by omega) (fun c_17 => ?_) (fun c_17 => ?_)
        ·
          refine S_iconst X dX11_roll_33 ?_
          refine S_istore X dX11_roll_34 (nle rfl) ?_
          refine S_iload X dX11_roll_36 rfl ?_
          refine S_if_eq (tgt := 50) X dX11_roll_38 (by decide) (by decide) (fun _ => ?_) (fun h9 => absurd h9 (by decide))
          refine S_iconst X dX11_roll_50 ?_
          exact S_iret X (nle rfl) (nle rfl) dX11_roll_51 (hPo _ _ (Or.inl (⟨by first | rfl | omega, rfl, by first | rfl | assumption | omega⟩)))
        ·
          refine S_iload_n X dX11_roll_22 rfl rfl ?_
          refine S_sipush X dX11_roll_23 rfl ?_
          refine S_icmp_gt (tgt := 33) X dX11_roll_26 (by decide) (by omega) (by decide) (fun c_19 => ?_) (fun c_19 => ?_)
          ·
            refine S_iconst X dX11_roll_33 ?_
            refine S_istore X dX11_roll_34 (nle rfl) ?_
            refine S_iload X dX11_roll_36 rfl ?_
            refine S_if_eq (tgt := 50) X dX11_roll_38 (by decide) (by decide) (fun _ => ?_) (fun h9 => absurd h9 (by decide))
            refine S_iconst X dX11_roll_50 ?_
            exact S_iret X (nle rfl) (nle rfl) dX11_roll_51 (hPo _ _ (Or.inl (⟨by first | rfl | omega, rfl, by first | rfl | assumption | omega⟩)))
          ·
            refine S_iconst X dX11_roll_29 ?_
            refine S_goto (tgt := 34) X dX11_roll_30 (by decide) ?_
            refine S_istore X dX11_roll_34 (nle rfl) ?_
            refine S_iload X dX11_roll_36 rfl ?_
            refine S_if_eq (tgt := 50) X dX11_roll_38 (by decide) (by decide) (fun h9 => absurd h9 (by decide)) (fun _ => ?_)
            refine S_aload_n X dX11_roll_41 rfl rfl ?_
            refine S_get (v := iv rl) X fgX11_137_10 0 rfl rfl dX11_roll_42 ?_
            refine S_bipush X dX11_roll_45 rfl ?_
            refine S_icmp_lt (tgt := 52) X dX11_roll_47 (by decide) (by omega) (by decide) (fun c_22 => ?_) (fun c_22 => ?_)
            ·
              refine S_aload_n X dX11_roll_52 rfl rfl ?_
              refine S_get (v := iv rl) X fgX11_137_10 0 rfl rfl dX11_roll_53 ?_
              refine S_iconst X dX11_roll_56 ?_
              refine S_imul X dX11_roll_57 ?_
              refine S_istore X dX11_roll_58 (nle rfl) ?_
              refine S_aload_n X dX11_roll_60 rfl rfl ?_
              refine S_get X fgX11_52_10 0 rfl hf1 dX11_roll_61 ?_
              refine S_iload X dX11_roll_64 rfl ?_
              refine S_iload_n X dX11_roll_66 rfl rfl ?_
              refine S_iast X 2 rfl (by omega) (by omega) (nle rfl) dX11_roll_67 ?_
              refine S_w (ws' := [(h0, ob 10 (uF f 15 (iv rl))), (oW, ob 7 fW), (hTo, ar 60 (uZ To (rl * 3) q))]) rfl ?_
              refine S_aload_n X dX11_roll_68 rfl rfl ?_
              refine S_get X fgX11_52_10 0 rfl hf1 dX11_roll_69 ?_
              refine S_iload X dX11_roll_72 rfl ?_
              refine S_iconst X dX11_roll_74 ?_
              refine S_iadd X dX11_roll_75 ?_
              refine S_iload_n X dX11_roll_76 rfl rfl ?_
              refine S_iast X 2 rfl (by omega) (by omega) (nle rfl) dX11_roll_77 ?_
              refine S_w (ws' := [(h0, ob 10 (uF f 15 (iv rl))), (oW, ob 7 fW), (hTo, ar 60 (uZ (uZ To (rl * 3) q) ((rl * 3) + 1) b))]) rfl ?_
              refine S_aload_n X dX11_roll_78 rfl rfl ?_
              refine S_get X fgX11_52_10 0 rfl hf1 dX11_roll_79 ?_
              refine S_iload X dX11_roll_82 rfl ?_
              refine S_iconst X dX11_roll_84 ?_
              refine S_iadd X dX11_roll_85 ?_
              refine S_iload_n X dX11_roll_86 rfl rfl ?_
              refine S_iast X 2 rfl (by omega) (by omega) (nle rfl) dX11_roll_87 ?_
              refine S_w (ws' := [(h0, ob 10 (uF f 15 (iv rl))), (oW, ob 7 fW), (hTo, ar 60 (uZ (uZ (uZ To (rl * 3) q) ((rl * 3) + 1) b) ((rl * 3) + 2) t))]) rfl ?_
              refine S_aload_n X dX11_roll_88 rfl rfl ?_
              refine S_dup X dX11_roll_89 ?_
              refine S_get (v := iv rl) X fgX11_137_10 0 rfl rfl dX11_roll_90 ?_
              refine S_iconst X dX11_roll_93 ?_
              refine S_iadd X dX11_roll_94 ?_
              refine S_put X fpX11_137_10 0 rfl FT_i dX11_roll_95 ?_
              refine S_w (ws' := [(h0, ob 10 (uF f 15 (iv (rl + 1)))), (oW, ob 7 fW), (hTo, ar 60 (uZ (uZ (uZ To (rl * 3) q) ((rl * 3) + 1) b) ((rl * 3) + 2) t))]) (by simp only [List.set]; rw [uF_same (k := 15)]) ?_
              refine S_aload_n X dX11_roll_98 rfl rfl ?_
              refine S_get (v := iv (rl + 1)) X fgX11_137_10 0 rfl rfl dX11_roll_99 ?_
              exact S_iret X (nle rfl) (nle rfl) dX11_roll_102 (hPo _ _ (Or.inr (⟨by first | rfl | omega, rfl, by first | rfl | assumption | omega⟩)))
            ·
              refine S_iconst X dX11_roll_50 ?_
              exact S_iret X (nle rfl) (nle rfl) dX11_roll_51 (hPo _ _ (Or.inl (⟨by first | rfl | omega, rfl, by first | rfl | assumption | omega⟩)))
set_option maxHeartbeats 4000000 in
set_option maxRecDepth 100000 in
theorem kX11_count (l : Launch) (h0 : Nat) (f : Nat → AV) (oW : Nat) (fW : Nat → AV) (fS : Nat → AV) (pl : Int) (n : Int) (ec : Int) (mk : Int) (oS : Nat) (oD : Nat) (fD : Nat → AV) (td : Int) (un : Int) (hi : Int) (im : Int) (nx : Int) (hTa : Nat) (fTa : Nat → AV) (mt : Int) (v : Int) (z2 : Int) (z3 : Int) (z5 : Int) (z8 : Int) (z10 : Int) (hf0 : f 3 = rv oW) (hf1 : f 7 = rv oS) (hf2 : f 5 = rv oD) (hf3 : fW 0 = iv pl) (hf4 : fW 1 = iv mt) (hf5 : f 0 = rv hTa) (hf6 : fTa 1 = iv z3) (hf7 : f 13 = iv z2) (hf8 : f 14 = iv z5) (hf9 : f 12 = iv z8) (hf10 : f 15 = iv z10) (hf11 : fS 0 = iv pl) (hf12 : fS 1 = iv n) (hf13 : fS 2 = iv ec) (hf14 : fS 3 = iv mk) (hx_v : inR v) : AMi l yX11_count cX11_count 2 .int 0 0 0 [rv h0, iv v] [(h0, ob 10 f), (oW, ob 7 fW), (oS, ob 5 fS), (oD, ob 0 (uF (uF (uF (uF (uF fD 0 (iv td)) 1 (iv un)) 2 (iv hi)) 3 (iv im)) 4 (iv nx))), (hTa, ob 6 fTa)] (fun z u => ∃ z9 : Int, z = z9 ∧ u = [(h0, ob 10 f), (oW, ob 7 fW), (oS, ob 5 fS), (oD, ob 0 (uF (uF (uF (uF (uF fD 0 (iv td)) 1 (iv un)) 2 (iv hi)) 3 (iv im)) 4 (iv nx))), (hTa, ob 6 fTa)]) := by
  refine AMi.of2 rfl (nle rfl) ?_
  intro D G A p e s m args below meth c Po hPo X
  refine S_iload_n X dX11_count_0 rfl rfl ?_
  by_cases hs_1 : v = 0
  · refine S_tswIn (j := 0) (tgt := 64) X dX11_count_1 hs_1 rfl (by decide) (by decide) ?_
    refine S_aload_n X dX11_count_64 rfl rfl ?_
    refine S_get X fgX11_35_10 0 rfl hf0 dX11_count_65 ?_
    refine S_get X fgX11_115_7 1 rfl hf3 dX11_count_68 ?_
    exact S_iret X (nle rfl) (nle rfl) dX11_count_71 (hPo _ _ (⟨_, rfl, rfl⟩))
  by_cases hs_2 : v = 1
  · refine S_tswIn (j := 1) (tgt := 72) X dX11_count_1 hs_2 rfl (by decide) (by decide) ?_
    refine S_aload_n X dX11_count_72 rfl rfl ?_
    refine S_get X fgX11_35_10 0 rfl hf0 dX11_count_73 ?_
    refine S_get X fgX11_335_7 1 rfl hf4 dX11_count_76 ?_
    exact S_iret X (nle rfl) (nle rfl) dX11_count_79 (hPo _ _ (⟨_, rfl, rfl⟩))
  by_cases hs_3 : v = 2
  · refine S_tswIn (j := 2) (tgt := 80) X dX11_count_1 hs_3 rfl (by decide) (by decide) ?_
    refine S_aload_n X dX11_count_80 rfl rfl ?_
    refine S_get X fgX11_118_10 0 rfl hf7 dX11_count_81 ?_
    exact S_iret X (nle rfl) (nle rfl) dX11_count_84 (hPo _ _ (⟨_, rfl, rfl⟩))
  by_cases hs_4 : v = 3
  · refine S_tswIn (j := 3) (tgt := 85) X dX11_count_1 hs_4 rfl (by decide) (by decide) ?_
    refine S_aload_n X dX11_count_85 rfl rfl ?_
    refine S_get X fgX11_10_10 0 rfl hf5 dX11_count_86 ?_
    refine S_get X fgX11_100_6 4 rfl hf6 dX11_count_89 ?_
    exact S_iret X (nle rfl) (nle rfl) dX11_count_92 (hPo _ _ (⟨_, rfl, rfl⟩))
  by_cases hs_5 : v = 4
  · refine S_tswIn (j := 4) (tgt := 93) X dX11_count_1 hs_5 rfl (by decide) (by decide) ?_
    refine S_aload_n X dX11_count_93 rfl rfl ?_
    refine S_get X fgX11_48_10 0 rfl hf2 dX11_count_94 ?_
    refine S_get (v := iv td) X fgX11_205_0 3 rfl rfl dX11_count_97 ?_
    exact S_iret X (nle rfl) (nle rfl) dX11_count_100 (hPo _ _ (⟨_, rfl, rfl⟩))
  by_cases hs_6 : v = 5
  · refine S_tswIn (j := 5) (tgt := 101) X dX11_count_1 hs_6 rfl (by decide) (by decide) ?_
    refine S_aload_n X dX11_count_101 rfl rfl ?_
    refine S_get X fgX11_93_10 0 rfl hf8 dX11_count_102 ?_
    exact S_iret X (nle rfl) (nle rfl) dX11_count_105 (hPo _ _ (⟨_, rfl, rfl⟩))
  by_cases hs_7 : v = 6
  · refine S_tswIn (j := 6) (tgt := 106) X dX11_count_1 hs_7 rfl (by decide) (by decide) ?_
    refine S_aload_n X dX11_count_106 rfl rfl ?_
    refine S_get X fgX11_59_10 0 rfl hf1 dX11_count_107 ?_
    refine S_get X fgX11_182_5 2 rfl hf12 dX11_count_110 ?_
    exact S_iret X (nle rfl) (nle rfl) dX11_count_113 (hPo _ _ (⟨_, rfl, rfl⟩))
  by_cases hs_8 : v = 7
  · refine S_tswIn (j := 7) (tgt := 114) X dX11_count_1 hs_8 rfl (by decide) (by decide) ?_
    refine S_aload_n X dX11_count_114 rfl rfl ?_
    refine S_get X fgX11_59_10 0 rfl hf1 dX11_count_115 ?_
    refine S_get X fgX11_185_5 2 rfl hf13 dX11_count_118 ?_
    exact S_iret X (nle rfl) (nle rfl) dX11_count_121 (hPo _ _ (⟨_, rfl, rfl⟩))
  by_cases hs_9 : v = 8
  · refine S_tswIn (j := 8) (tgt := 122) X dX11_count_1 hs_9 rfl (by decide) (by decide) ?_
    refine S_aload_n X dX11_count_122 rfl rfl ?_
    refine S_get X fgX11_89_10 0 rfl hf9 dX11_count_123 ?_
    exact S_iret X (nle rfl) (nle rfl) dX11_count_126 (hPo _ _ (⟨_, rfl, rfl⟩))
  by_cases hs_10 : v = 9
  · refine S_tswIn (j := 9) (tgt := 127) X dX11_count_1 hs_10 rfl (by decide) (by decide) ?_
    refine S_aload_n X dX11_count_127 rfl rfl ?_
    refine S_get X fgX11_59_10 0 rfl hf1 dX11_count_128 ?_
    refine S_get X fgX11_196_5 2 rfl hf14 dX11_count_131 ?_
    exact S_iret X (nle rfl) (nle rfl) dX11_count_134 (hPo _ _ (⟨_, rfl, rfl⟩))
  by_cases hs_11 : v = 10
  · refine S_tswIn (j := 10) (tgt := 135) X dX11_count_1 hs_11 rfl (by decide) (by decide) ?_
    refine S_aload_n X dX11_count_135 rfl rfl ?_
    refine S_get X fgX11_137_10 0 rfl hf10 dX11_count_136 ?_
    exact S_iret X (nle rfl) (nle rfl) dX11_count_139 (hPo _ _ (⟨_, rfl, rfl⟩))
  by_cases hs_12 : v = 11
  · refine S_tswIn (j := 11) (tgt := 140) X dX11_count_1 hs_12 rfl (by decide) (by decide) ?_
    refine S_aload_n X dX11_count_140 rfl rfl ?_
    refine S_get X fgX11_48_10 0 rfl hf2 dX11_count_141 ?_
    refine S_get (v := iv un) X fgX11_216_0 3 rfl rfl dX11_count_144 ?_
    exact S_iret X (nle rfl) (nle rfl) dX11_count_147 (hPo _ _ (⟨_, rfl, rfl⟩))
  refine S_tswOut (tgt := 148) X dX11_count_1 (by omega) (by omega) (by decide) ?_
  refine S_ldc (n := -1000000) X (by rw [show i32 (-1000000) = (-1000000 : Int32) from by decide]; exact m697) dX11_count_148 ?_
  exact S_iret X (nle rfl) (nle rfl) dX11_count_150 (hPo _ _ (⟨_, rfl, rfl⟩))
end pt_68cf2
/- 69.cf3.lean.txt -/
section pt_69cf3
section TE
variable {pl n ec mk q v : Int} {Fo Ho B Lt F2 H2 B2 L2 : Int → Int}
def teq (pl : Int) (Fo Ho B Lt F2 H2 B2 L2 : Int → Int) : Prop := ∀ p, 0 ≤ p → p < pl → Fo p = F2 p ∧ Ho p = H2 p ∧ B p = B2 p ∧ Lt p = L2 p
theorem te_0 (hp : pl ≤ 6) (hB : ∀ x, 0 ≤ x → x < 6 → B2 x = B x) (hF : ∀ x, 0 ≤ x → x < 6 → F2 x = Fo x) (hH : ∀ x, 0 ≤ x → x < 6 → H2 x = Ho x) (hL : ∀ x, 0 ≤ x → x < 6 → L2 x = Lt x) : teq pl Fo Ho B Lt F2 H2 B2 L2 := fun p h0 h1 => ⟨(hF p h0 (by omega)).symm, (hH p h0 (by omega)).symm, (hB p h0 (by omega)).symm, (hL p h0 (by omega)).symm⟩
theorem te_F (h : teq pl Fo Ho B Lt F2 H2 B2 L2) : teq pl (uZ Fo q v) Ho B Lt (uZ F2 q v) H2 B2 L2 := fun p h0 h1 => by
  obtain ⟨a, b⟩ := h p h0 h1
  refine ⟨?_, b⟩
  unfold uZ
  split
  · rfl
  · exact a
theorem te_H (h : teq pl Fo Ho B Lt F2 H2 B2 L2) : teq pl Fo (uZ Ho q v) B Lt F2 (uZ H2 q v) B2 L2 := fun p h0 h1 => by
  obtain ⟨a, b, d⟩ := h p h0 h1
  refine ⟨a, ?_, d⟩
  unfold uZ
  split
  · rfl
  · exact b
theorem te_L (h : teq pl Fo Ho B Lt F2 H2 B2 L2) : teq pl Fo Ho B (uZ Lt q v) F2 H2 B2 (uZ L2 q v) := fun p h0 h1 => by
  obtain ⟨a, b, d, g⟩ := h p h0 h1
  refine ⟨a, b, d, ?_⟩
  unfold uZ
  split
  · rfl
  · exact g
theorem wS_c (h : okS pl n ec Fo Ho B Lt) (e : teq pl Fo Ho B Lt F2 H2 B2 L2) (b p : Int) (hb : 0 ≤ b) (h0 : 0 ≤ p) (h1 : p < pl) : wS pl ec mk Fo Ho B Lt b p = wS pl ec mk F2 H2 B2 L2 b p := by
  unfold wS wF
  have k := fun y y0 y1 => tS_c (mk := mk) h e b y hb y0 y1
  have k2 := mxI_c pl (by have := h.1; omega) k
  have k3 := k p h0 h1
  unfold tS at k2 k3
  rw [k2, k3]
theorem ld_keep {o be le : Int} (hok : okS pl n ec Fo Ho B Lt) (ho : -1 ≤ o ∧ o < pl) (hq : 0 ≤ q) (h : (o = -1 ∧ le = 1000000000 ∧ be = -1) ∨ (0 ≤ o ∧ ldI pl n ec mk Fo Ho B Lt q o = (be, le))) (c : o = q ∨ le ≤ WO pl n ec mk (uZ Fo q o) Ho B Lt) : (o + 1 = -1 ∧ le = 1000000000 ∧ be = -1) ∨ (0 ≤ o + 1 ∧ ldI pl n ec mk Fo Ho B Lt q (o + 1) = (be, le)) := by
  have hw := (hok.fo (p := q) (v := o) ho).worst (mk := mk)
  rcases h with ⟨a, b, d⟩ | ⟨a, b⟩
  · exfalso; omega
  · refine Or.inr ⟨by omega, ?_⟩
    rw [ldI_S a, b, if_neg (fun g => by have := g.2; dsimp only at this; omega)]
theorem ld_take {o be le : Int} (hok : okS pl n ec Fo Ho B Lt) (ho : -1 ≤ o ∧ o < pl) (hne : o ≠ q) (h : (o = -1 ∧ le = 1000000000 ∧ be = -1) ∨ (0 ≤ o ∧ ldI pl n ec mk Fo Ho B Lt q o = (be, le))) (c : WO pl n ec mk (uZ Fo q o) Ho B Lt < le) : (o + 1 = -1 ∧ WO pl n ec mk (uZ Fo q o) Ho B Lt = 1000000000 ∧ o = -1) ∨ (0 ≤ o + 1 ∧ ldI pl n ec mk Fo Ho B Lt q (o + 1) = (o, WO pl n ec mk (uZ Fo q o) Ho B Lt)) := by
  refine Or.inr ⟨by omega, ?_⟩
  rcases h with ⟨a, b, d⟩ | ⟨a, b⟩
  · subst a; exact ldI_0
  · rw [ldI_S a, b, if_pos ⟨hne, c⟩]
theorem ec_keep {o be le : Int} (hok : okS pl n o Fo Ho B Lt) (h : (o = 0 ∧ le = 1000000000 ∧ be = 0) ∨ (1 ≤ o ∧ ehI pl n mk Fo Ho B Lt (o - 1) = (be, le))) (c : le ≤ WO pl n o mk Fo Ho B Lt) : (o + 1 = 0 ∧ le = 1000000000 ∧ be = 0) ∨ (1 ≤ o + 1 ∧ ehI pl n mk Fo Ho B Lt (o + 1 - 1) = (be, le)) := by
  have hw := hok.worst (mk := mk)
  rcases h with ⟨a, b, d⟩ | ⟨a, b⟩
  · exfalso; omega
  · refine Or.inr ⟨by omega, ?_⟩
    have e : ehI pl n mk Fo Ho B Lt (o - 1 + 1) = _ := ehI_S (by omega)
    rw [Int.sub_add_cancel, b] at e
    rw [Int.add_sub_cancel, e, if_neg (by dsimp only; omega)]
theorem ec_take {o be le : Int} (h0 : 0 ≤ o) (h : (o = 0 ∧ le = 1000000000 ∧ be = 0) ∨ (1 ≤ o ∧ ehI pl n mk Fo Ho B Lt (o - 1) = (be, le))) (c : WO pl n o mk Fo Ho B Lt < le) : (o + 1 = 0 ∧ WO pl n o mk Fo Ho B Lt = 1000000000 ∧ o = 0) ∨ (1 ≤ o + 1 ∧ ehI pl n mk Fo Ho B Lt (o + 1 - 1) = (o, WO pl n o mk Fo Ho B Lt)) := by
  refine Or.inr ⟨by omega, ?_⟩
  rw [Int.add_sub_cancel]
  rcases h with ⟨a, b, d⟩ | ⟨a, b⟩
  · subst a; exact ehI_0
  · have e : ehI pl n mk Fo Ho B Lt (o - 1 + 1) = _ := ehI_S (by omega)
    rw [Int.sub_add_cancel, b] at e
    rw [e, if_pos (by dsimp only; omega)]
theorem alL_c (h : okS pl n ec Fo Ho B (uZ Lt q v)) (e : teq pl Fo Ho B (uZ Lt q v) F2 H2 B2 L2) (hq : 0 ≤ q ∧ q < pl) : (∀ o, 0 ≤ o → o < pl → o ≠ q → tS pl ec mk F2 H2 B2 L2 (n - 1) o < tS pl ec mk F2 H2 B2 L2 (n - 1) q) ↔ alL pl n ec mk Fo Ho B Lt q v := by
  have hn := h.2.2.1
  have k := fun y y0 y1 => tS_c (mk := mk) h e (n - 1) y (by omega) y0 y1
  constructor
  · intro g o h0 h1 hne
    rw [k o h0 h1, k q hq.1 hq.2]
    exact g o h0 h1 hne
  · intro g o h0 h1 hne
    rw [← k o h0 h1, ← k q hq.1 hq.2]
    exact g o h0 h1 hne
theorem agR_c {rl o : Int} {P1 B1 T1 : Int → Int} (h : okS pl n ec (uZ Fo q o) Ho B Lt) (e : teq pl (uZ Fo q o) Ho B Lt F2 H2 B2 L2) (hr : ∀ k, 0 ≤ k → k < rl → (0 ≤ P1 k ∧ P1 k < pl) ∧ 0 ≤ B1 k) : (∀ k, 0 ≤ k → k < rl → B1 k < n ∧ wS pl ec mk F2 H2 B2 L2 (B1 k) (P1 k) = T1 k) ↔ agR pl n ec mk Fo Ho B Lt rl P1 B1 T1 q o := by
  constructor
  · intro g k h0 h1
    have := g k h0 h1
    have r := hr k h0 h1
    exact ⟨this.1, (wS_c h e (B1 k) (P1 k) r.2 r.1.1 r.1.2).trans this.2⟩
  · intro g k h0 h1
    have := g k h0 h1
    have r := hr k h0 h1
    exact ⟨this.1, (wS_c h e (B1 k) (P1 k) r.2 r.1.1 r.1.2).symm.trans this.2⟩
theorem fb_no2 {rl f st : Int} {P1 B1 T1 : Int → Int} (hf : -1 ≤ f) (h : (f = -1 ∧ st = 0) ∨ (0 ≤ f ∧ st = fiB pl n ec mk Fo Ho B Lt rl P1 B1 T1 q f.toNat)) (hr : inR st) (e : f ≠ q) (hq : agB pl n ec mk Fo Ho B Lt rl P1 B1 T1 q f = false) : (f + 1 = -1 ∧ st = 0) ∨ (0 ≤ f + 1 ∧ st = fiB pl n ec mk Fo Ho B Lt rl P1 B1 T1 q (f + 1).toNat) := by
  have := fb_no hf h e hr hq
  rwa [zOr_0 hr] at this
end TE
def t3 (To : Int → Int) (j : Int) : Int → Int := fun k => To (k * 3 + j)
section TV
variable {P : Int → Int} {own sp hw lim : Int}
def stepOf (own k : Int) : Int := if own ≤ k then 2 * (k - own) else 2 * (own - k) - 1
theorem stepOf_e (own k : Int) : (own ≤ k ∧ stepOf own k = 2 * (k - own)) ∨ (k < own ∧ stepOf own k = 2 * (own - k) - 1) := by
  unfold stepOf
  split <;> omega
theorem tu_no (h : ∀ k, 0 ≤ k → k ≤ 10 → stepOf own k < sp → lim < P k) (hs : stepOf own hw = sp) (c : lim < P hw) : ∀ k, 0 ≤ k → k ≤ 10 → stepOf own k < sp + 1 → lim < P k := by
  intro k h0 h1 h2
  have a := stepOf_e own k
  have b := stepOf_e own hw
  by_cases e : k = hw
  · rw [e]; exact c
  · exact h k h0 h1 (by omega)
theorem tu_out (h : ∀ k, 0 ≤ k → k ≤ 10 → stepOf own k < sp → lim < P k) (hs : stepOf own hw = sp) (c : hw < 0 ∨ 10 < hw) : ∀ k, 0 ≤ k → k ≤ 10 → stepOf own k < sp + 1 → lim < P k := by
  intro k h0 h1 h2
  have a := stepOf_e own k
  have b := stepOf_e own hw
  exact h k h0 h1 (by omega)
theorem tu_best (h : ∀ k, 0 ≤ k → k ≤ 10 → stepOf own k < sp → lim < P k) (hs : stepOf own hw = sp) : ∀ k, 0 ≤ k → k ≤ 10 → P k ≤ lim → (hw - own).natAbs < (k - own).natAbs ∨ (hw - own).natAbs = (k - own).natAbs ∧ hw ≤ k := by
  intro k h0 h1 h2
  have a := stepOf_e own k
  have b := stepOf_e own hw
  have c := fun g => h k h0 h1 g
  by_cases d : stepOf own k < sp
  · have := c d; omega
  · omega
end TV
set_option maxHeartbeats 4000000 in
set_option maxRecDepth 100000 in
theorem kX11_deaf (l : Launch) (h0 : Nat) (f : Nat → AV) (oW : Nat) (fW : Nat → AV) (fP : Nat → AV) (fS : Nat → AV) (pl : Int) (n : Int) (ec : Int) (mk : Int) (oP : Nat) (oS : Nat) (aA : Nat) (aT : Nat) (aW : Nat) (aS : Nat) (aB : Nat) (aF : Nat) (aH : Nat) (aL : Nat) (Ab : Int → Int) (Tm : Int → Int) (Wq : Int → Int) (Sp : Int → Int) (B : Int → Int) (Fo : Int → Int) (Ho : Int → Int) (Lt : Int → Int) (p0 : Int) (n0 : Int) (k0 : Int) (q : Int) (oT : Nat) (tB : Nat) (tF : Nat) (tH : Nat) (tL : Nat) (fT : Nat → AV) (TB : Int → Int) (TF : Int → Int) (TH : Int → Int) (TL : Int → Int) (t0 : Int) (t1 : Int) (t2 : Int) (t3 : Int) (hf0 : f 3 = rv oW) (hf1 : f 7 = rv oS) (hf2 : f 9 = rv oP) (hf3 : f 8 = rv oT) (hf4 : fW 0 = iv pl) (hf5 : fP 0 = rv aA) (hf6 : fP 1 = rv aT) (hf7 : fP 2 = rv aW) (hf8 : fP 3 = rv aS) (hf9 : fS 0 = iv pl) (hf10 : fS 1 = iv n) (hf11 : fS 2 = iv ec) (hf12 : fS 3 = iv mk) (hf13 : fS 4 = rv aB) (hf14 : fS 5 = rv aF) (hf15 : fS 6 = rv aH) (hf16 : fS 7 = rv aL) (hf17 : fT 4 = rv tB) (hf18 : fT 5 = rv tF) (hf19 : fT 6 = rv tH) (hf20 : fT 7 = rv tL) (hz : okZ pl n ec Fo Ho B Lt) (hx_q : inR q) : AMi l yX11_deaf cX11_deaf 2 .int 4 0 0 [rv h0, iv q] [(h0, ob 10 f), (oW, ob 7 fW), (oP, ob 4 (uF (uF (uF fP 6 (iv p0)) 7 (iv n0)) 8 (iv k0))), (aA, ar 1206 Ab), (aT, ar 180 Tm), (aW, ar 6 Wq), (aS, ar 30 Sp), (oS, ob 5 fS), (aB, ar 6 B), (aF, ar 6 Fo), (aH, ar 6 Ho), (aL, ar 6 Lt), (oT, ob 5 (uF (uF (uF (uF fT 0 (iv t0)) 1 (iv t1)) 2 (iv t2)) 3 (iv t3))), (tB, ar 6 TB), (tF, ar 6 TF), (tH, ar 6 TH), (tL, ar 6 TL)] (fun z u => ∃ p9 : Int, ∃ n9 : Int, ∃ k9 : Int, ∃ A2 : Int → Int, ∃ T2 : Int → Int, ∃ W2 : Int → Int, ∃ S2 : Int → Int, ∃ t4 : Int, ∃ t5 : Int, ∃ t6 : Int, ∃ t7 : Int, ∃ B3 : Int → Int, ∃ F3 : Int → Int, ∃ H3 : Int → Int, ∃ L3 : Int → Int, z = aDeaf pl n ec mk Fo Ho B Lt q ∧ u = [(h0, ob 10 f), (oW, ob 7 fW), (oP, ob 4 (uF (uF (uF fP 6 (iv p9)) 7 (iv n9)) 8 (iv k9))), (aA, ar 1206 A2), (aT, ar 180 T2), (aW, ar 6 W2), (aS, ar 30 S2), (oS, ob 5 fS), (aB, ar 6 B), (aF, ar 6 Fo), (aH, ar 6 Ho), (aL, ar 6 Lt), (oT, ob 5 (uF (uF (uF (uF fT 0 (iv t4)) 1 (iv t5)) 2 (iv t6)) 3 (iv t7))), (tB, ar 6 B3), (tF, ar 6 F3), (tH, ar 6 H3), (tL, ar 6 L3)]) := by
  refine AMi.of2 rfl (nle rfl) ?_
  intro D G A p e s m args below meth c Po hPo X
  have hz6 := hz.2.1
  have hz0 := hz.1
  have hzn := hz.2.2.1
  have hzm := hz.2.2.2.1
  have hze := hz.2.2.2.2
  refine S_aload_n X dX11_deaf_0 rfl rfl ?_
  refine S_iload_n X dX11_deaf_1 rfl rfl ?_
  refine S_calli X (kX11_isPlayer l h0 f oW fW pl q hf0 hf4 (by omega) (by omega)) (is := [0, 1]) rfl (run_V X lkX11_147 0 rfl rfl (is := [0, 1]) (avs := [iv q]) (rest := []) rfl rfl (nle rfl) ⟨nle rfl, nle rfl⟩ ⟨nle rfl, nle rfl⟩ dX11_deaf_2 (by decide) rfl) (fun z_3 u_1 hp_2 => ?_)
  rcases hp_2 with ⟨hz_4, hu_5, hp_6⟩ | ⟨hz_7, hu_8, hp_9⟩
  ·
    subst hz_4
    subst hu_5
    refine ⟨rfl, ?_⟩
    refine S_w (ws' := [(h0, ob 10 f), (oW, ob 7 fW), (oP, ob 4 (uF (uF (uF fP 6 (iv p0)) 7 (iv n0)) 8 (iv k0))), (aA, ar 1206 Ab), (aT, ar 180 Tm), (aW, ar 6 Wq), (aS, ar 30 Sp), (oS, ob 5 fS), (aB, ar 6 B), (aF, ar 6 Fo), (aH, ar 6 Ho), (aL, ar 6 Lt), (oT, ob 5 (uF (uF (uF (uF fT 0 (iv t0)) 1 (iv t1)) 2 (iv t2)) 3 (iv t3))), (tB, ar 6 TB), (tF, ar 6 TF), (tH, ar 6 TH), (tL, ar 6 TL)]) rfl ?_
    refine S_if_ne (tgt := 10) X dX11_deaf_5 (by decide) (by decide) (fun h9 => absurd h9 (by decide)) (fun _ => ?_)
    refine S_iconst X dX11_deaf_8 ?_
    exact S_iret X (nle rfl) (nle rfl) dX11_deaf_9 (hPo _ _ (⟨_, _, _, _, _, _, _, _, _, _, _, _, _, _, _, by unfold aDeaf; rw [if_neg (by omega)], rfl⟩))
  ·
    subst hz_7
    subst hu_8
    refine ⟨rfl, ?_⟩
    refine S_w (ws' := [(h0, ob 10 f), (oW, ob 7 fW), (oP, ob 4 (uF (uF (uF fP 6 (iv p0)) 7 (iv n0)) 8 (iv k0))), (aA, ar 1206 Ab), (aT, ar 180 Tm), (aW, ar 6 Wq), (aS, ar 30 Sp), (oS, ob 5 fS), (aB, ar 6 B), (aF, ar 6 Fo), (aH, ar 6 Ho), (aL, ar 6 Lt), (oT, ob 5 (uF (uF (uF (uF fT 0 (iv t0)) 1 (iv t1)) 2 (iv t2)) 3 (iv t3))), (tB, ar 6 TB), (tF, ar 6 TF), (tH, ar 6 TH), (tL, ar 6 TL)]) rfl ?_
    refine S_if_ne (tgt := 10) X dX11_deaf_5 (by decide) (by decide) (fun _ => ?_) (fun h9 => absurd h9 (by decide))
    have hok := hz.s (by omega)
    have hpl := hok.2.1
    have hpl1 := hok.1
    have hn1 := hok.2.2.1
    have hn2 := hok.2.2.2.1
    have hec := hok.2.2.2.2
    refine S_aload_n X dX11_deaf_10 rfl rfl ?_
    refine S_get X fgX11_63_10 0 rfl hf3 dX11_deaf_11 ?_
    refine S_aload_n X dX11_deaf_14 rfl rfl ?_
    refine S_get X fgX11_59_10 0 rfl hf1 dX11_deaf_15 ?_
    refine S_callv X (kX6_copyFrom l fS pl n ec mk oS aB aF aH aL B Fo Ho Lt oT tB tF tH tL fT TB TF TH TL t0 t1 t2 t3 hf9 hf10 hf11 hf12 hf13 hf14 hf15 hf16 hf17 hf18 hf19 hf20) (is := [12, 13, 14, 15, 16, 7, 8, 9, 10, 11]) rfl (run_V X lkX11_289 12 rfl rfl (is := [12, 13, 14, 15, 16, 7, 8, 9, 10, 11]) (avs := [rv oS]) (rest := []) rfl rfl (nle rfl) ⟨nle rfl, nle rfl⟩ ⟨nle rfl, nle rfl⟩ dX11_deaf_18 (by decide) rfl) (fun u_12 hp_13 => ?_)
    obtain ⟨B2_15, F2_16, H2_17, L2_18, hu_20, hB2_21, hF2_22, hH2_23, hL2_24⟩ := hp_13
    subst hu_20
    refine ⟨rfl, ?_⟩
    refine S_w (ws' := [(h0, ob 10 f), (oW, ob 7 fW), (oP, ob 4 (uF (uF (uF fP 6 (iv p0)) 7 (iv n0)) 8 (iv k0))), (aA, ar 1206 Ab), (aT, ar 180 Tm), (aW, ar 6 Wq), (aS, ar 30 Sp), (oS, ob 5 fS), (aB, ar 6 B), (aF, ar 6 Fo), (aH, ar 6 Ho), (aL, ar 6 Lt), (oT, ob 5 (uF (uF (uF (uF fT 0 (iv pl)) 1 (iv n)) 2 (iv ec)) 3 (iv mk))), (tB, ar 6 B2_15), (tF, ar 6 F2_16), (tH, ar 6 H2_17), (tL, ar 6 L2_18)]) rfl ?_
    have hB9 := hB2_21
    have hF9 := hF2_22
    have hH9 := hH2_23
    have hL9 := hL2_24
    have hte := te_0 (pl := pl) (by omega) hB9 hF9 hH9 hL9
    refine S_aload_n X dX11_deaf_21 rfl rfl ?_
    refine S_get X fgX11_63_10 0 rfl hf3 dX11_deaf_22 ?_
    refine S_get X fgX11_168_5 12 rfl hf18 dX11_deaf_25 ?_
    refine S_iload_n X dX11_deaf_28 rfl rfl ?_
    refine S_iconst X dX11_deaf_29 ?_
    refine S_iast X 14 rfl (by omega) (by omega) (nle rfl) dX11_deaf_30 ?_
    refine S_w (ws' := [(h0, ob 10 f), (oW, ob 7 fW), (oP, ob 4 (uF (uF (uF fP 6 (iv p0)) 7 (iv n0)) 8 (iv k0))), (aA, ar 1206 Ab), (aT, ar 180 Tm), (aW, ar 6 Wq), (aS, ar 30 Sp), (oS, ob 5 fS), (aB, ar 6 B), (aF, ar 6 Fo), (aH, ar 6 Ho), (aL, ar 6 Lt), (oT, ob 5 (uF (uF (uF (uF fT 0 (iv pl)) 1 (iv n)) 2 (iv ec)) 3 (iv mk))), (tB, ar 6 B2_15), (tF, ar 6 (uZ F2_16 q (-1))), (tH, ar 6 H2_17), (tL, ar 6 L2_18)]) rfl ?_
    refine S_aload_n X dX11_deaf_31 rfl rfl ?_
    refine S_get X fgX11_69_10 0 rfl hf2 dX11_deaf_32 ?_
    refine S_aload_n X dX11_deaf_35 rfl rfl ?_
    refine S_get X fgX11_63_10 0 rfl hf3 dX11_deaf_36 ?_
    refine S_ldc (n := 1000000000) X m813 dX11_deaf_39 ?_
    refine S_calli X (kX4_performE l fP (uF (uF (uF (uF fT 0 (iv pl)) 1 (iv n)) 2 (iv ec)) 3 (iv mk)) pl n ec mk oP oT aA aT aW aS tB tF tH tL Ab Tm Wq Sp B2_15 (uZ F2_16 q (-1)) H2_17 L2_18 p0 n0 k0 hf5 hf6 hf7 hf8 rfl rfl rfl rfl hf17 hf18 hf19 hf20 ((hok.fo (p := q) (v := -1) (by omega)).c (te_F hte))) (is := [2, 3, 4, 5, 6, 12, 13, 14, 15, 16]) rfl (run_V X lkX11_235 2 rfl rfl (is := [2, 3, 4, 5, 6, 12, 13, 14, 15, 16]) (avs := [rv oT, iv 1000000000]) (rest := []) rfl rfl (nle rfl) ⟨nle rfl, nle rfl⟩ ⟨nle rfl, nle rfl⟩ dX11_deaf_41 (by decide) rfl) (fun z_27 u_25 hp_26 => ?_)
    obtain ⟨A2_28, T2_29, W2_30, S2_31, hz_32, hu_33, hq_34, hA2_35, hT2_36, hS2_37⟩ := hp_26
    subst hz_32
    subst hu_33
    refine ⟨rfl, ?_⟩
    refine S_w (ws' := [(h0, ob 10 f), (oW, ob 7 fW), (oP, ob 4 (uF (uF (uF fP 6 (iv pl)) 7 (iv n)) 8 (iv mk))), (aA, ar 1206 A2_28), (aT, ar 180 T2_29), (aW, ar 6 W2_30), (aS, ar 30 S2_31), (oS, ob 5 fS), (aB, ar 6 B), (aF, ar 6 Fo), (aH, ar 6 Ho), (aL, ar 6 Lt), (oT, ob 5 (uF (uF (uF (uF fT 0 (iv pl)) 1 (iv n)) 2 (iv ec)) 3 (iv mk))), (tB, ar 6 B2_15), (tF, ar 6 (uZ F2_16 q (-1))), (tH, ar 6 H2_17), (tL, ar 6 L2_18)]) rfl ?_
    exact S_iret X (nle rfl) (nle rfl) dX11_deaf_44 (hPo _ _ (⟨_, _, _, _, _, _, _, _, _, _, _, _, _, _, _, by unfold aDeaf; rw [if_pos (by omega)]; exact (WO_c (hok.fo (p := q) (v := -1) (by omega)) (te_F hte)).symm, rfl⟩))
set_option maxHeartbeats 4000000 in
set_option maxRecDepth 100000 in
theorem kX11_leader (l : Launch) (h0 : Nat) (f : Nat → AV) (oW : Nat) (fW : Nat → AV) (fP : Nat → AV) (fS : Nat → AV) (pl : Int) (n : Int) (ec : Int) (mk : Int) (oP : Nat) (oS : Nat) (aA : Nat) (aT : Nat) (aW : Nat) (aS : Nat) (aB : Nat) (aF : Nat) (aH : Nat) (aL : Nat) (Ab : Int → Int) (Tm : Int → Int) (Wq : Int → Int) (Sp : Int → Int) (B : Int → Int) (Fo : Int → Int) (Ho : Int → Int) (Lt : Int → Int) (p0 : Int) (n0 : Int) (k0 : Int) (q : Int) (v : Int) (oT : Nat) (tB : Nat) (tF : Nat) (tH : Nat) (tL : Nat) (fT : Nat → AV) (TB : Int → Int) (TF : Int → Int) (TH : Int → Int) (TL : Int → Int) (t0 : Int) (t1 : Int) (t2 : Int) (t3 : Int) (hf0 : f 3 = rv oW) (hf1 : f 7 = rv oS) (hf2 : f 9 = rv oP) (hf3 : f 8 = rv oT) (hf4 : fW 0 = iv pl) (hf5 : fP 0 = rv aA) (hf6 : fP 1 = rv aT) (hf7 : fP 2 = rv aW) (hf8 : fP 3 = rv aS) (hf9 : fS 0 = iv pl) (hf10 : fS 1 = iv n) (hf11 : fS 2 = iv ec) (hf12 : fS 3 = iv mk) (hf13 : fS 4 = rv aB) (hf14 : fS 5 = rv aF) (hf15 : fS 6 = rv aH) (hf16 : fS 7 = rv aL) (hf17 : fT 4 = rv tB) (hf18 : fT 5 = rv tF) (hf19 : fT 6 = rv tH) (hf20 : fT 7 = rv tL) (hz : okZ pl n ec Fo Ho B Lt) (hx_q : inR q) (hx_v : inR v) : AMi l yX11_leader cX11_leader 7 .int 4 0 0 [rv h0, iv q, iv v] [(h0, ob 10 f), (oW, ob 7 fW), (oP, ob 4 (uF (uF (uF fP 6 (iv p0)) 7 (iv n0)) 8 (iv k0))), (aA, ar 1206 Ab), (aT, ar 180 Tm), (aW, ar 6 Wq), (aS, ar 30 Sp), (oS, ob 5 fS), (aB, ar 6 B), (aF, ar 6 Fo), (aH, ar 6 Ho), (aL, ar 6 Lt), (oT, ob 5 (uF (uF (uF (uF fT 0 (iv t0)) 1 (iv t1)) 2 (iv t2)) 3 (iv t3))), (tB, ar 6 TB), (tF, ar 6 TF), (tH, ar 6 TH), (tL, ar 6 TL)] (fun z u => ∃ p9 : Int, ∃ n9 : Int, ∃ k9 : Int, ∃ A2 : Int → Int, ∃ T2 : Int → Int, ∃ W2 : Int → Int, ∃ S2 : Int → Int, ∃ t4 : Int, ∃ t5 : Int, ∃ t6 : Int, ∃ t7 : Int, ∃ B3 : Int → Int, ∃ F3 : Int → Int, ∃ H3 : Int → Int, ∃ L3 : Int → Int, z = aLeader pl n ec mk Fo Ho B Lt q v ∧ u = [(h0, ob 10 f), (oW, ob 7 fW), (oP, ob 4 (uF (uF (uF fP 6 (iv p9)) 7 (iv n9)) 8 (iv k9))), (aA, ar 1206 A2), (aT, ar 180 T2), (aW, ar 6 W2), (aS, ar 30 S2), (oS, ob 5 fS), (aB, ar 6 B), (aF, ar 6 Fo), (aH, ar 6 Ho), (aL, ar 6 Lt), (oT, ob 5 (uF (uF (uF (uF fT 0 (iv t4)) 1 (iv t5)) 2 (iv t6)) 3 (iv t7))), (tB, ar 6 B3), (tF, ar 6 F3), (tH, ar 6 H3), (tL, ar 6 L3)]) := by
  refine AMi.of2 rfl (nle rfl) ?_
  intro D G A p e s m args below meth c Po hPo X
  have hz6 := hz.2.1
  have hz0 := hz.1
  have hzn := hz.2.2.1
  have hzm := hz.2.2.2.1
  have hze := hz.2.2.2.2
  refine S_aload_n X dX11_leader_0 rfl rfl ?_
  refine S_iload_n X dX11_leader_1 rfl rfl ?_
  refine S_calli X (kX11_isPlayer l h0 f oW fW pl q hf0 hf4 (by omega) (by omega)) (is := [0, 1]) rfl (run_V X lkX11_147 0 rfl rfl (is := [0, 1]) (avs := [iv q]) (rest := []) rfl rfl (nle rfl) ⟨nle rfl, nle rfl⟩ ⟨nle rfl, nle rfl⟩ dX11_leader_2 (by decide) rfl) (fun z_3 u_1 hp_2 => ?_)
  rcases hp_2 with ⟨hz_4, hu_5, hp_6⟩ | ⟨hz_7, hu_8, hp_9⟩
  ·
    subst hz_4
    subst hu_5
    refine ⟨rfl, ?_⟩
    refine S_w (ws' := [(h0, ob 10 f), (oW, ob 7 fW), (oP, ob 4 (uF (uF (uF fP 6 (iv p0)) 7 (iv n0)) 8 (iv k0))), (aA, ar 1206 Ab), (aT, ar 180 Tm), (aW, ar 6 Wq), (aS, ar 30 Sp), (oS, ob 5 fS), (aB, ar 6 B), (aF, ar 6 Fo), (aH, ar 6 Ho), (aL, ar 6 Lt), (oT, ob 5 (uF (uF (uF (uF fT 0 (iv t0)) 1 (iv t1)) 2 (iv t2)) 3 (iv t3))), (tB, ar 6 TB), (tF, ar 6 TF), (tH, ar 6 TH), (tL, ar 6 TL)]) rfl ?_
    refine S_if_eq (tgt := 17) X dX11_leader_5 (by decide) (by decide) (fun _ => ?_) (fun h9 => absurd h9 (by decide))
    refine S_ldc (n := -1000000) X (by rw [show i32 (-1000000) = (-1000000 : Int32) from by decide]; exact m697) dX11_leader_17 ?_
    exact S_iret X (nle rfl) (nle rfl) dX11_leader_19 (hPo _ _ (⟨_, _, _, _, _, _, _, _, _, _, _, _, _, _, _, by unfold aLeader; rw [if_neg (by omega)], rfl⟩))
  ·
    subst hz_7
    subst hu_8
    refine ⟨rfl, ?_⟩
    refine S_w (ws' := [(h0, ob 10 f), (oW, ob 7 fW), (oP, ob 4 (uF (uF (uF fP 6 (iv p0)) 7 (iv n0)) 8 (iv k0))), (aA, ar 1206 Ab), (aT, ar 180 Tm), (aW, ar 6 Wq), (aS, ar 30 Sp), (oS, ob 5 fS), (aB, ar 6 B), (aF, ar 6 Fo), (aH, ar 6 Ho), (aL, ar 6 Lt), (oT, ob 5 (uF (uF (uF (uF fT 0 (iv t0)) 1 (iv t1)) 2 (iv t2)) 3 (iv t3))), (tB, ar 6 TB), (tF, ar 6 TF), (tH, ar 6 TH), (tL, ar 6 TL)]) rfl ?_
    refine S_if_eq (tgt := 17) X dX11_leader_5 (by decide) (by decide) (fun h9 => absurd h9 (by decide)) (fun _ => ?_)
    refine S_iload_n X dX11_leader_8 rfl rfl ?_
    refine S_if_lt (tgt := 17) X dX11_leader_9 (by decide) (by omega) (fun c_12 => ?_) (fun c_12 => ?_)
    ·
      refine S_ldc (n := -1000000) X (by rw [show i32 (-1000000) = (-1000000 : Int32) from by decide]; exact m697) dX11_leader_17 ?_
      exact S_iret X (nle rfl) (nle rfl) dX11_leader_19 (hPo _ _ (⟨_, _, _, _, _, _, _, _, _, _, _, _, _, _, _, by unfold aLeader; rw [if_neg (by omega)], rfl⟩))
    ·
      refine S_iload_n X dX11_leader_12 rfl rfl ?_
      refine S_iconst X dX11_leader_13 ?_
      refine S_icmp_le (tgt := 20) X dX11_leader_14 (by decide) (by omega) (by decide) (fun c_13 => ?_) (fun c_13 => ?_)
      ·
        have hok := hz.s (by omega)
        have hpl := hok.2.1
        have hpl1 := hok.1
        have hn1 := hok.2.2.1
        have hn2 := hok.2.2.2.1
        have hec := hok.2.2.2.2
        refine S_aload_n X dX11_leader_20 rfl rfl ?_
        refine S_get X fgX11_63_10 0 rfl hf3 dX11_leader_21 ?_
        refine S_aload_n X dX11_leader_24 rfl rfl ?_
        refine S_get X fgX11_59_10 0 rfl hf1 dX11_leader_25 ?_
        refine S_callv X (kX6_copyFrom l fS pl n ec mk oS aB aF aH aL B Fo Ho Lt oT tB tF tH tL fT TB TF TH TL t0 t1 t2 t3 hf9 hf10 hf11 hf12 hf13 hf14 hf15 hf16 hf17 hf18 hf19 hf20) (is := [12, 13, 14, 15, 16, 7, 8, 9, 10, 11]) rfl (run_V X lkX11_289 12 rfl rfl (is := [12, 13, 14, 15, 16, 7, 8, 9, 10, 11]) (avs := [rv oS]) (rest := []) rfl rfl (nle rfl) ⟨nle rfl, nle rfl⟩ ⟨nle rfl, nle rfl⟩ dX11_leader_28 (by decide) rfl) (fun u_14 hp_15 => ?_)
        obtain ⟨B2_17, F2_18, H2_19, L2_20, hu_22, hB2_23, hF2_24, hH2_25, hL2_26⟩ := hp_15
        subst hu_22
        refine ⟨rfl, ?_⟩
        refine S_w (ws' := [(h0, ob 10 f), (oW, ob 7 fW), (oP, ob 4 (uF (uF (uF fP 6 (iv p0)) 7 (iv n0)) 8 (iv k0))), (aA, ar 1206 Ab), (aT, ar 180 Tm), (aW, ar 6 Wq), (aS, ar 30 Sp), (oS, ob 5 fS), (aB, ar 6 B), (aF, ar 6 Fo), (aH, ar 6 Ho), (aL, ar 6 Lt), (oT, ob 5 (uF (uF (uF (uF fT 0 (iv pl)) 1 (iv n)) 2 (iv ec)) 3 (iv mk))), (tB, ar 6 B2_17), (tF, ar 6 F2_18), (tH, ar 6 H2_19), (tL, ar 6 L2_20)]) rfl ?_
        have hB9 := hB2_23
        have hF9 := hF2_24
        have hH9 := hH2_25
        have hL9 := hL2_26
        have hte := te_0 (pl := pl) (by omega) hB9 hF9 hH9 hL9
        refine S_ldc (n := 1000000000) X m813 dX11_leader_31 ?_
        refine S_istore_n X dX11_leader_33 rfl (nle rfl) ?_
        refine S_iconst X dX11_leader_34 ?_
        refine S_istore X dX11_leader_35 (nle rfl) ?_
        refine S_iconst X dX11_leader_37 ?_
        refine S_istore X dX11_leader_38 (nle rfl) ?_
        have lp40_3 : ∀ (N : Nat) (o : Int) (be : Int) (le : Int) (Fv : Int → Int) (Aw : Int → Int) (Tw : Int → Int) (Ww : Int → Int) (Sw : Int → Int) (pw : Int) (nw : Int) (kw : Int) (L : Nat → Option AV), -1 ≤ o ∧ o ≤ pl → 0 ≤ le ∧ le ≤ 1000000000 → (∀ x, uZ Fv q x = uZ F2_18 q x) → (o = -1 ∧ le = 1000000000 ∧ be = -1) ∨ (0 ≤ o ∧ ldI pl n ec mk Fo Ho B Lt q o = (be, le)) → L 0 = some (rv h0) → L 1 = some (iv q) → L 2 = some (iv v) → L 3 = some (iv le) → L 4 = some (iv be) → L 5 = some (iv o) → pl + 1 - o < (N : Int) → S_ p l e (rmD 4 0 0) s m args below meth c (MQ below (QcI D G A Po) args s 0 0 A) D G A 7 0 0 40 L [] [(h0, ob 10 f), (oW, ob 7 fW), (oP, ob 4 (uF (uF (uF fP 6 (iv pw)) 7 (iv nw)) 8 (iv kw))), (aA, ar 1206 Aw), (aT, ar 180 Tw), (aW, ar 6 Ww), (aS, ar 30 Sw), (oS, ob 5 fS), (aB, ar 6 B), (aF, ar 6 Fo), (aH, ar 6 Ho), (aL, ar 6 Lt), (oT, ob 5 (uF (uF (uF (uF fT 0 (iv pl)) 1 (iv n)) 2 (iv ec)) 3 (iv mk))), (tB, ar 6 B2_17), (tF, ar 6 Fv), (tH, ar 6 H2_19), (tL, ar 6 L2_20)] := by
          intro N
          induction N with
          | zero =>
            intro o be le Fv Aw Tw Ww Sw pw nw kw L40 ho hle hFv hld hL40_0 hL40_1 hL40_2 hL40_3 hL40_4 hL40_5 hN40
            exfalso; omega
          | succ N ih40 =>
            intro o be le Fv Aw Tw Ww Sw pw nw kw L40 ho hle hFv hld hL40_0 hL40_1 hL40_2 hL40_3 hL40_4 hL40_5 hN40
            refine S_iload X dX11_leader_40 hL40_5 ?_
            refine S_aload_n X dX11_leader_42 rfl hL40_0 ?_
            refine S_get X fgX11_35_10 0 rfl hf0 dX11_leader_43 ?_
            refine S_get X fgX11_115_7 1 rfl hf4 dX11_leader_46 ?_
            refine S_icmp_ge (tgt := 106) X dX11_leader_49 (by decide) (by omega) (by omega) (fun c_27 => ?_) (fun c_27 => ?_)
            ·
              refine S_iload_n X dX11_leader_106 rfl hL40_2 ?_
              refine S_if_ne (tgt := 115) X dX11_leader_107 (by decide) (by omega) (fun c_28 => ?_) (fun c_28 => ?_)
              ·
                refine S_iload_n X dX11_leader_115 rfl hL40_3 ?_
                exact S_iret X (nle rfl) (nle rfl) dX11_leader_116 (hPo _ _ (⟨_, _, _, _, _, _, _, _, _, _, _, _, _, _, _, by unfold aLeader; rw [if_pos (by omega), if_neg (by omega)]; rcases hld with h9 | h9; (exfalso; omega); have h8 := h9.2; rw [show o = pl by omega] at h8; rw [h8], rfl⟩))
              ·
                refine S_iload X dX11_leader_110 hL40_4 ?_
                refine S_goto (tgt := 116) X dX11_leader_112 (by decide) ?_
                exact S_iret X (nle rfl) (nle rfl) dX11_leader_116 (hPo _ _ (⟨_, _, _, _, _, _, _, _, _, _, _, _, _, _, _, by unfold aLeader; rw [if_pos (by omega), if_pos (by omega)]; rcases hld with h9 | h9; (exfalso; omega); have h8 := h9.2; rw [show o = pl by omega] at h8; rw [h8], rfl⟩))
            ·
              refine S_aload_n X dX11_leader_52 rfl hL40_0 ?_
              refine S_get X fgX11_63_10 0 rfl hf3 dX11_leader_53 ?_
              refine S_get X fgX11_168_5 12 rfl hf18 dX11_leader_56 ?_
              refine S_iload_n X dX11_leader_59 rfl hL40_1 ?_
              refine S_iload X dX11_leader_60 hL40_5 ?_
              refine S_iast X 14 rfl (by omega) (by omega) (nle rfl) dX11_leader_62 ?_
              refine S_w (ws' := [(h0, ob 10 f), (oW, ob 7 fW), (oP, ob 4 (uF (uF (uF fP 6 (iv pw)) 7 (iv nw)) 8 (iv kw))), (aA, ar 1206 Aw), (aT, ar 180 Tw), (aW, ar 6 Ww), (aS, ar 30 Sw), (oS, ob 5 fS), (aB, ar 6 B), (aF, ar 6 Fo), (aH, ar 6 Ho), (aL, ar 6 Lt), (oT, ob 5 (uF (uF (uF (uF fT 0 (iv pl)) 1 (iv n)) 2 (iv ec)) 3 (iv mk))), (tB, ar 6 B2_17), (tF, ar 6 (uZ Fv q o)), (tH, ar 6 H2_19), (tL, ar 6 L2_20)]) rfl ?_
              refine S_iload X dX11_leader_63 hL40_5 ?_
              refine S_iload_n X dX11_leader_65 rfl hL40_1 ?_
              refine S_icmp_ne (tgt := 73) X dX11_leader_66 (by decide) (by omega) (by omega) (fun c_29 => ?_) (fun c_29 => ?_)
              ·
                refine S_aload_n X dX11_leader_73 rfl hL40_0 ?_
                refine S_get X fgX11_69_10 0 rfl hf2 dX11_leader_74 ?_
                refine S_aload_n X dX11_leader_77 rfl hL40_0 ?_
                refine S_get X fgX11_63_10 0 rfl hf3 dX11_leader_78 ?_
                refine S_iload_n X dX11_leader_81 rfl hL40_3 ?_
                refine S_calli X (kX4_perform l fP (uF (uF (uF (uF fT 0 (iv pl)) 1 (iv n)) 2 (iv ec)) 3 (iv mk)) pl n ec mk oP oT aA aT aW aS tB tF tH tL Aw Tw Ww Sw B2_17 (uZ Fv q o) H2_19 L2_20 pw nw kw le hf5 hf6 hf7 hf8 rfl rfl rfl rfl hf17 hf18 hf19 hf20 (by rw [hFv]; exact (hok.fo (p := q) (v := o) (by omega)).c (te_F hte)) (by omega)) (is := [2, 3, 4, 5, 6, 12, 13, 14, 15, 16]) rfl (run_V X lkX11_235 2 rfl rfl (is := [2, 3, 4, 5, 6, 12, 13, 14, 15, 16]) (avs := [rv oT, iv le]) (rest := []) rfl rfl (nle rfl) ⟨nle rfl, nle rfl⟩ ⟨nle rfl, nle rfl⟩ dX11_leader_82 (by decide) rfl) (fun z_32 u_30 hp_31 => ?_)
                rcases hp_31 with ⟨A2_33, T2_34, W2_35, S2_36, hz_37, hu_38, hq_39⟩ | ⟨A2_40, T2_41, W2_42, S2_43, hz_44, hu_45, hq_46, hA2_47, hT2_48, hS2_49⟩
                ·
                  replace hz_37 := Eq.symm hz_37
                  subst hz_37
                  subst hu_38
                  refine ⟨rfl, ?_⟩
                  refine S_w (ws' := [(h0, ob 10 f), (oW, ob 7 fW), (oP, ob 4 (uF (uF (uF fP 6 (iv pl)) 7 (iv n)) 8 (iv mk))), (aA, ar 1206 A2_33), (aT, ar 180 T2_34), (aW, ar 6 W2_35), (aS, ar 30 S2_36), (oS, ob 5 fS), (aB, ar 6 B), (aF, ar 6 Fo), (aH, ar 6 Ho), (aL, ar 6 Lt), (oT, ob 5 (uF (uF (uF (uF fT 0 (iv pl)) 1 (iv n)) 2 (iv ec)) 3 (iv mk))), (tB, ar 6 B2_17), (tF, ar 6 (uZ Fv q o)), (tH, ar 6 H2_19), (tL, ar 6 L2_20)]) rfl ?_
                  have hcu : le ≤ WO pl n ec mk (uZ Fo q o) Ho B Lt := by have h9 := hq_39; rw [hFv] at h9; rwa [← WO_c (hok.fo (p := q) (v := o) (by omega)) (te_F hte)] at h9
                  have hwr := (hok.fo (p := q) (v := o) (by omega)).worst (mk := mk)
                  refine S_istore X dX11_leader_85 (nle rfl) ?_
                  refine S_iload X dX11_leader_87 rfl ?_
                  refine S_iload_n X dX11_leader_89 rfl hL40_3 ?_
                  refine S_icmp_ge (tgt := 100) X dX11_leader_90 (by decide) (by omega) (by omega) (fun c_50 => ?_) (fun c_50 => by exfalso; omega)
                  refine S_iinc X dX11_leader_100 (nle rfl) hL40_5 ?_
                  refine S_goto (tgt := 40) X dX11_leader_103 (by decide) ?_
                  exact ih40 (o + 1) be le (uZ Fv q o) A2_33 T2_34 W2_35 S2_36 pl n mk _ (by omega) (by omega) (fun x => by first | (rw [uZ_twice]; exact hFv x) | exact hFv x) (ld_keep hok (by omega) (by omega) hld (by omega)) hL40_0 hL40_1 hL40_2 hL40_3 hL40_4 rfl (by omega)
                ·
                  subst hz_44
                  subst hu_45
                  refine ⟨rfl, ?_⟩
                  refine S_w (ws' := [(h0, ob 10 f), (oW, ob 7 fW), (oP, ob 4 (uF (uF (uF fP 6 (iv pl)) 7 (iv n)) 8 (iv mk))), (aA, ar 1206 A2_40), (aT, ar 180 T2_41), (aW, ar 6 W2_42), (aS, ar 30 S2_43), (oS, ob 5 fS), (aB, ar 6 B), (aF, ar 6 Fo), (aH, ar 6 Ho), (aL, ar 6 Lt), (oT, ob 5 (uF (uF (uF (uF fT 0 (iv pl)) 1 (iv n)) 2 (iv ec)) 3 (iv mk))), (tB, ar 6 B2_17), (tF, ar 6 (uZ Fv q o)), (tH, ar 6 H2_19), (tL, ar 6 L2_20)]) rfl ?_
                  have hv1 : WO pl n ec mk (uZ Fv q o) H2_19 B2_17 L2_20 = WO pl n ec mk (uZ Fo q o) Ho B Lt := by rw [hFv]; exact (WO_c (hok.fo (p := q) (v := o) (by omega)) (te_F hte)).symm
                  rw [hv1]
                  have hwr := (hok.fo (p := q) (v := o) (by omega)).worst (mk := mk)
                  refine S_istore X dX11_leader_85 (nle rfl) ?_
                  refine S_iload X dX11_leader_87 rfl ?_
                  refine S_iload_n X dX11_leader_89 rfl hL40_3 ?_
                  refine S_icmp_ge (tgt := 100) X dX11_leader_90 (by decide) (by omega) (by omega) (fun c_51 => ?_) (fun c_51 => ?_)
                  ·
                    refine S_iinc X dX11_leader_100 (nle rfl) hL40_5 ?_
                    refine S_goto (tgt := 40) X dX11_leader_103 (by decide) ?_
                    exact ih40 (o + 1) be le (uZ Fv q o) A2_40 T2_41 W2_42 S2_43 pl n mk _ (by omega) (by omega) (fun x => by first | (rw [uZ_twice]; exact hFv x) | exact hFv x) (ld_keep hok (by omega) (by omega) hld (by omega)) hL40_0 hL40_1 hL40_2 hL40_3 hL40_4 rfl (by omega)
                  ·
                    refine S_iload X dX11_leader_93 rfl ?_
                    refine S_istore_n X dX11_leader_95 rfl (nle rfl) ?_
                    refine S_iload X dX11_leader_96 hL40_5 ?_
                    refine S_istore X dX11_leader_98 (nle rfl) ?_
                    refine S_iinc X dX11_leader_100 (nle rfl) hL40_5 ?_
                    refine S_goto (tgt := 40) X dX11_leader_103 (by decide) ?_
                    exact ih40 (o + 1) o (WO pl n ec mk (uZ Fo q o) Ho B Lt) (uZ Fv q o) A2_40 T2_41 W2_42 S2_43 pl n mk _ (by omega) (by omega) (fun x => by first | (rw [uZ_twice]; exact hFv x) | exact hFv x) (ld_take hok (by omega) (by omega) hld (by omega)) hL40_0 hL40_1 hL40_2 rfl rfl rfl (by omega)
              ·
                refine S_iload_n X dX11_leader_69 rfl hL40_3 ?_
                refine S_goto (tgt := 85) X dX11_leader_70 (by decide) ?_
                refine S_istore X dX11_leader_85 (nle rfl) ?_
                refine S_iload X dX11_leader_87 rfl ?_
                refine S_iload_n X dX11_leader_89 rfl hL40_3 ?_
                refine S_icmp_ge (tgt := 100) X dX11_leader_90 (by decide) (by omega) (by omega) (fun c_52 => ?_) (fun c_52 => by exfalso; omega)
                refine S_iinc X dX11_leader_100 (nle rfl) hL40_5 ?_
                refine S_goto (tgt := 40) X dX11_leader_103 (by decide) ?_
                exact ih40 (o + 1) be le (uZ Fv q o) Aw Tw Ww Sw pw nw kw _ (by omega) (by omega) (fun x => by first | (rw [uZ_twice]; exact hFv x) | exact hFv x) (ld_keep hok (by omega) (by omega) hld (by omega)) hL40_0 hL40_1 hL40_2 hL40_3 hL40_4 rfl (by omega)
        exact lp40_3 (Int.toNat (pl + 1 - (-1)) + 1) (-1) (-1) 1000000000 F2_18 Ab Tm Wq Sp p0 n0 k0 _ (by omega) (by omega) (fun x => rfl) (Or.inl ⟨rfl, rfl, rfl⟩) rfl rfl rfl rfl rfl rfl (by omega)
      ·
        refine S_ldc (n := -1000000) X (by rw [show i32 (-1000000) = (-1000000 : Int32) from by decide]; exact m697) dX11_leader_17 ?_
        exact S_iret X (nle rfl) (nle rfl) dX11_leader_19 (hPo _ _ (⟨_, _, _, _, _, _, _, _, _, _, _, _, _, _, _, by unfold aLeader; rw [if_neg (by omega)], rfl⟩))
set_option maxHeartbeats 4000000 in
set_option maxRecDepth 100000 in
theorem kX11_echoes (l : Launch) (h0 : Nat) (f : Nat → AV) (oW : Nat) (fW : Nat → AV) (fP : Nat → AV) (fS : Nat → AV) (pl : Int) (n : Int) (ec : Int) (mk : Int) (oP : Nat) (oS : Nat) (aA : Nat) (aT : Nat) (aW : Nat) (aS : Nat) (aB : Nat) (aF : Nat) (aH : Nat) (aL : Nat) (Ab : Int → Int) (Tm : Int → Int) (Wq : Int → Int) (Sp : Int → Int) (B : Int → Int) (Fo : Int → Int) (Ho : Int → Int) (Lt : Int → Int) (p0 : Int) (n0 : Int) (k0 : Int) (v : Int) (oT : Nat) (tB : Nat) (tF : Nat) (tH : Nat) (tL : Nat) (fT : Nat → AV) (TB : Int → Int) (TF : Int → Int) (TH : Int → Int) (TL : Int → Int) (t0 : Int) (t1 : Int) (t2 : Int) (t3 : Int) (hf0 : f 3 = rv oW) (hf1 : f 7 = rv oS) (hf2 : f 9 = rv oP) (hf3 : f 8 = rv oT) (hf4 : fW 0 = iv pl) (hf5 : fP 0 = rv aA) (hf6 : fP 1 = rv aT) (hf7 : fP 2 = rv aW) (hf8 : fP 3 = rv aS) (hf9 : fS 0 = iv pl) (hf10 : fS 1 = iv n) (hf11 : fS 2 = iv ec) (hf12 : fS 3 = iv mk) (hf13 : fS 4 = rv aB) (hf14 : fS 5 = rv aF) (hf15 : fS 6 = rv aH) (hf16 : fS 7 = rv aL) (hf17 : fT 4 = rv tB) (hf18 : fT 5 = rv tF) (hf19 : fT 6 = rv tH) (hf20 : fT 7 = rv tL) (hz : okZ pl n ec Fo Ho B Lt) (hx_v : inR v) : AMi l yX11_echoes cX11_echoes 6 .int 4 0 0 [rv h0, iv v] [(h0, ob 10 f), (oW, ob 7 fW), (oP, ob 4 (uF (uF (uF fP 6 (iv p0)) 7 (iv n0)) 8 (iv k0))), (aA, ar 1206 Ab), (aT, ar 180 Tm), (aW, ar 6 Wq), (aS, ar 30 Sp), (oS, ob 5 fS), (aB, ar 6 B), (aF, ar 6 Fo), (aH, ar 6 Ho), (aL, ar 6 Lt), (oT, ob 5 (uF (uF (uF (uF fT 0 (iv t0)) 1 (iv t1)) 2 (iv t2)) 3 (iv t3))), (tB, ar 6 TB), (tF, ar 6 TF), (tH, ar 6 TH), (tL, ar 6 TL)] (fun z u => ∃ p9 : Int, ∃ n9 : Int, ∃ k9 : Int, ∃ A2 : Int → Int, ∃ T2 : Int → Int, ∃ W2 : Int → Int, ∃ S2 : Int → Int, ∃ t4 : Int, ∃ t5 : Int, ∃ t6 : Int, ∃ t7 : Int, ∃ B3 : Int → Int, ∃ F3 : Int → Int, ∃ H3 : Int → Int, ∃ L3 : Int → Int, z = aEchoes pl n mk Fo Ho B Lt v ∧ u = [(h0, ob 10 f), (oW, ob 7 fW), (oP, ob 4 (uF (uF (uF fP 6 (iv p9)) 7 (iv n9)) 8 (iv k9))), (aA, ar 1206 A2), (aT, ar 180 T2), (aW, ar 6 W2), (aS, ar 30 S2), (oS, ob 5 fS), (aB, ar 6 B), (aF, ar 6 Fo), (aH, ar 6 Ho), (aL, ar 6 Lt), (oT, ob 5 (uF (uF (uF (uF fT 0 (iv t4)) 1 (iv t5)) 2 (iv t6)) 3 (iv t7))), (tB, ar 6 B3), (tF, ar 6 F3), (tH, ar 6 H3), (tL, ar 6 L3)]) := by
  refine AMi.of2 rfl (nle rfl) ?_
  intro D G A p e s m args below meth c Po hPo X
  have hz6 := hz.2.1
  have hz0 := hz.1
  have hzn := hz.2.2.1
  have hzm := hz.2.2.2.1
  have hze := hz.2.2.2.2
  refine S_aload_n X dX11_echoes_0 rfl rfl ?_
  refine S_iload_n X dX11_echoes_1 rfl rfl ?_
  refine S_calli X (kX11_isOneOfTwo l h0 f oW fW pl v hf0 hf4 (by omega) (by omega)) (is := [0, 1]) rfl (run_V X lkX11_252 0 rfl rfl (is := [0, 1]) (avs := [iv v]) (rest := []) rfl rfl (nle rfl) ⟨nle rfl, nle rfl⟩ ⟨nle rfl, nle rfl⟩ dX11_echoes_2 (by decide) rfl) (fun z_3 u_1 hp_2 => ?_)
  rcases hp_2 with ⟨hz_4, hu_5, hp_6⟩ | ⟨hz_7, hu_8, hp_9⟩
  ·
    subst hz_4
    subst hu_5
    refine ⟨rfl, ?_⟩
    refine S_w (ws' := [(h0, ob 10 f), (oW, ob 7 fW), (oP, ob 4 (uF (uF (uF fP 6 (iv p0)) 7 (iv n0)) 8 (iv k0))), (aA, ar 1206 Ab), (aT, ar 180 Tm), (aW, ar 6 Wq), (aS, ar 30 Sp), (oS, ob 5 fS), (aB, ar 6 B), (aF, ar 6 Fo), (aH, ar 6 Ho), (aL, ar 6 Lt), (oT, ob 5 (uF (uF (uF (uF fT 0 (iv t0)) 1 (iv t1)) 2 (iv t2)) 3 (iv t3))), (tB, ar 6 TB), (tF, ar 6 TF), (tH, ar 6 TH), (tL, ar 6 TL)]) rfl ?_
    refine S_if_ne (tgt := 10) X dX11_echoes_5 (by decide) (by decide) (fun h9 => absurd h9 (by decide)) (fun _ => ?_)
    refine S_iconst X dX11_echoes_8 ?_
    exact S_iret X (nle rfl) (nle rfl) dX11_echoes_9 (hPo _ _ (⟨_, _, _, _, _, _, _, _, _, _, _, _, _, _, _, by unfold aEchoes; rw [if_neg (by omega)], rfl⟩))
  ·
    subst hz_7
    subst hu_8
    refine ⟨rfl, ?_⟩
    refine S_w (ws' := [(h0, ob 10 f), (oW, ob 7 fW), (oP, ob 4 (uF (uF (uF fP 6 (iv p0)) 7 (iv n0)) 8 (iv k0))), (aA, ar 1206 Ab), (aT, ar 180 Tm), (aW, ar 6 Wq), (aS, ar 30 Sp), (oS, ob 5 fS), (aB, ar 6 B), (aF, ar 6 Fo), (aH, ar 6 Ho), (aL, ar 6 Lt), (oT, ob 5 (uF (uF (uF (uF fT 0 (iv t0)) 1 (iv t1)) 2 (iv t2)) 3 (iv t3))), (tB, ar 6 TB), (tF, ar 6 TF), (tH, ar 6 TH), (tL, ar 6 TL)]) rfl ?_
    refine S_if_ne (tgt := 10) X dX11_echoes_5 (by decide) (by decide) (fun _ => ?_) (fun h9 => absurd h9 (by decide))
    have hok := hz.s (by omega)
    have hpl := hok.2.1
    have hpl1 := hok.1
    have hn1 := hok.2.2.1
    have hn2 := hok.2.2.2.1
    have hec := hok.2.2.2.2
    refine S_aload_n X dX11_echoes_10 rfl rfl ?_
    refine S_get X fgX11_63_10 0 rfl hf3 dX11_echoes_11 ?_
    refine S_aload_n X dX11_echoes_14 rfl rfl ?_
    refine S_get X fgX11_59_10 0 rfl hf1 dX11_echoes_15 ?_
    refine S_callv X (kX6_copyFrom l fS pl n ec mk oS aB aF aH aL B Fo Ho Lt oT tB tF tH tL fT TB TF TH TL t0 t1 t2 t3 hf9 hf10 hf11 hf12 hf13 hf14 hf15 hf16 hf17 hf18 hf19 hf20) (is := [12, 13, 14, 15, 16, 7, 8, 9, 10, 11]) rfl (run_V X lkX11_289 12 rfl rfl (is := [12, 13, 14, 15, 16, 7, 8, 9, 10, 11]) (avs := [rv oS]) (rest := []) rfl rfl (nle rfl) ⟨nle rfl, nle rfl⟩ ⟨nle rfl, nle rfl⟩ dX11_echoes_18 (by decide) rfl) (fun u_12 hp_13 => ?_)
    obtain ⟨B2_15, F2_16, H2_17, L2_18, hu_20, hB2_21, hF2_22, hH2_23, hL2_24⟩ := hp_13
    subst hu_20
    refine ⟨rfl, ?_⟩
    refine S_w (ws' := [(h0, ob 10 f), (oW, ob 7 fW), (oP, ob 4 (uF (uF (uF fP 6 (iv p0)) 7 (iv n0)) 8 (iv k0))), (aA, ar 1206 Ab), (aT, ar 180 Tm), (aW, ar 6 Wq), (aS, ar 30 Sp), (oS, ob 5 fS), (aB, ar 6 B), (aF, ar 6 Fo), (aH, ar 6 Ho), (aL, ar 6 Lt), (oT, ob 5 (uF (uF (uF (uF fT 0 (iv pl)) 1 (iv n)) 2 (iv ec)) 3 (iv mk))), (tB, ar 6 B2_15), (tF, ar 6 F2_16), (tH, ar 6 H2_17), (tL, ar 6 L2_18)]) rfl ?_
    have hB9 := hB2_21
    have hF9 := hF2_22
    have hH9 := hH2_23
    have hL9 := hL2_24
    have hte := te_0 (pl := pl) (by omega) hB9 hF9 hH9 hL9
    refine S_ldc (n := 1000000000) X m813 dX11_echoes_21 ?_
    refine S_istore_n X dX11_echoes_23 rfl (nle rfl) ?_
    refine S_iconst X dX11_echoes_24 ?_
    refine S_istore_n X dX11_echoes_25 rfl (nle rfl) ?_
    refine S_iconst X dX11_echoes_26 ?_
    refine S_istore X dX11_echoes_27 (nle rfl) ?_
    have lp29_1 : ∀ (N : Nat) (o : Int) (be : Int) (le : Int) (e7 : Int) (Aw : Int → Int) (Tw : Int → Int) (Ww : Int → Int) (Sw : Int → Int) (pw : Int) (nw : Int) (kw : Int) (L : Nat → Option AV), 0 ≤ o ∧ o ≤ 4 → 0 ≤ le ∧ le ≤ 1000000000 → (o = 0 ∧ le = 1000000000 ∧ be = 0) ∨ (1 ≤ o ∧ ehI pl n mk Fo Ho B Lt (o - 1) = (be, le)) → L 0 = some (rv h0) → L 1 = some (iv v) → L 2 = some (iv le) → L 3 = some (iv be) → L 4 = some (iv o) → 5 - o < (N : Int) → S_ p l e (rmD 4 0 0) s m args below meth c (MQ below (QcI D G A Po) args s 0 0 A) D G A 6 0 0 29 L [] [(h0, ob 10 f), (oW, ob 7 fW), (oP, ob 4 (uF (uF (uF fP 6 (iv pw)) 7 (iv nw)) 8 (iv kw))), (aA, ar 1206 Aw), (aT, ar 180 Tw), (aW, ar 6 Ww), (aS, ar 30 Sw), (oS, ob 5 fS), (aB, ar 6 B), (aF, ar 6 Fo), (aH, ar 6 Ho), (aL, ar 6 Lt), (oT, ob 5 (uF (uF (uF (uF fT 0 (iv pl)) 1 (iv n)) 2 (iv e7)) 3 (iv mk))), (tB, ar 6 B2_15), (tF, ar 6 F2_16), (tH, ar 6 H2_17), (tL, ar 6 L2_18)] := by
      intro N
      induction N with
      | zero =>
        intro o be le e7 Aw Tw Ww Sw pw nw kw L29 ho hle heh hL29_0 hL29_1 hL29_2 hL29_3 hL29_4 hN29
        exfalso; omega
      | succ N ih29 =>
        intro o be le e7 Aw Tw Ww Sw pw nw kw L29 ho hle heh hL29_0 hL29_1 hL29_2 hL29_3 hL29_4 hN29
        refine S_iload X dX11_echoes_29 hL29_4 ?_
        refine S_iconst X dX11_echoes_31 ?_
        refine S_icmp_gt (tgt := 76) X dX11_echoes_32 (by decide) (by omega) (by decide) (fun c_25 => ?_) (fun c_25 => ?_)
        ·
          refine S_iload_n X dX11_echoes_76 rfl hL29_1 ?_
          refine S_if_ne (tgt := 84) X dX11_echoes_77 (by decide) (by omega) (fun c_26 => ?_) (fun c_26 => ?_)
          ·
            refine S_iload_n X dX11_echoes_84 rfl hL29_2 ?_
            exact S_iret X (nle rfl) (nle rfl) dX11_echoes_85 (hPo _ _ (⟨_, _, _, _, _, _, _, _, _, _, _, _, _, _, _, by unfold aEchoes; rw [if_pos (by omega), if_neg (by omega)]; rcases heh with h9 | h9; (exfalso; omega); have h8 := h9.2; rw [show o - 1 = 3 by omega] at h8; exact (congrArg Prod.snd h8).symm, rfl⟩))
          ·
            refine S_iload_n X dX11_echoes_80 rfl hL29_3 ?_
            refine S_goto (tgt := 85) X dX11_echoes_81 (by decide) ?_
            exact S_iret X (nle rfl) (nle rfl) dX11_echoes_85 (hPo _ _ (⟨_, _, _, _, _, _, _, _, _, _, _, _, _, _, _, by unfold aEchoes; rw [if_pos (by omega), if_pos (by omega)]; rcases heh with h9 | h9; (exfalso; omega); have h8 := h9.2; rw [show o - 1 = 3 by omega] at h8; exact (congrArg Prod.fst h8).symm, rfl⟩))
        ·
          refine S_aload_n X dX11_echoes_35 rfl hL29_0 ?_
          refine S_get X fgX11_63_10 0 rfl hf3 dX11_echoes_36 ?_
          refine S_iload X dX11_echoes_39 hL29_4 ?_
          refine S_put X fpX11_185_5 12 rfl FT_i dX11_echoes_41 ?_
          refine S_w (ws' := [(h0, ob 10 f), (oW, ob 7 fW), (oP, ob 4 (uF (uF (uF fP 6 (iv pw)) 7 (iv nw)) 8 (iv kw))), (aA, ar 1206 Aw), (aT, ar 180 Tw), (aW, ar 6 Ww), (aS, ar 30 Sw), (oS, ob 5 fS), (aB, ar 6 B), (aF, ar 6 Fo), (aH, ar 6 Ho), (aL, ar 6 Lt), (oT, ob 5 (uF (uF (uF (uF fT 0 (iv pl)) 1 (iv n)) 2 (iv o)) 3 (iv mk))), (tB, ar 6 B2_15), (tF, ar 6 F2_16), (tH, ar 6 H2_17), (tL, ar 6 L2_18)]) (by simp only [List.set]; rw [uF_mv (j := 3) (k := 2) (by decide), uF_same (k := 2)]) ?_
          refine S_aload_n X dX11_echoes_44 rfl hL29_0 ?_
          refine S_get X fgX11_69_10 0 rfl hf2 dX11_echoes_45 ?_
          refine S_aload_n X dX11_echoes_48 rfl hL29_0 ?_
          refine S_get X fgX11_63_10 0 rfl hf3 dX11_echoes_49 ?_
          refine S_iload_n X dX11_echoes_52 rfl hL29_2 ?_
          refine S_calli X (kX4_perform l fP (uF (uF (uF (uF fT 0 (iv pl)) 1 (iv n)) 2 (iv o)) 3 (iv mk)) pl n o mk oP oT aA aT aW aS tB tF tH tL Aw Tw Ww Sw B2_15 F2_16 H2_17 L2_18 pw nw kw le hf5 hf6 hf7 hf8 rfl rfl rfl rfl hf17 hf18 hf19 hf20 ((hok.ec (e2 := o) (by omega)).c hte) (by omega)) (is := [2, 3, 4, 5, 6, 12, 13, 14, 15, 16]) rfl (run_V X lkX11_235 2 rfl rfl (is := [2, 3, 4, 5, 6, 12, 13, 14, 15, 16]) (avs := [rv oT, iv le]) (rest := []) rfl rfl (nle rfl) ⟨nle rfl, nle rfl⟩ ⟨nle rfl, nle rfl⟩ dX11_echoes_53 (by decide) rfl) (fun z_29 u_27 hp_28 => ?_)
          rcases hp_28 with ⟨A2_30, T2_31, W2_32, S2_33, hz_34, hu_35, hq_36⟩ | ⟨A2_37, T2_38, W2_39, S2_40, hz_41, hu_42, hq_43, hA2_44, hT2_45, hS2_46⟩
          ·
            replace hz_34 := Eq.symm hz_34
            subst hz_34
            subst hu_35
            refine ⟨rfl, ?_⟩
            refine S_w (ws' := [(h0, ob 10 f), (oW, ob 7 fW), (oP, ob 4 (uF (uF (uF fP 6 (iv pl)) 7 (iv n)) 8 (iv mk))), (aA, ar 1206 A2_30), (aT, ar 180 T2_31), (aW, ar 6 W2_32), (aS, ar 30 S2_33), (oS, ob 5 fS), (aB, ar 6 B), (aF, ar 6 Fo), (aH, ar 6 Ho), (aL, ar 6 Lt), (oT, ob 5 (uF (uF (uF (uF fT 0 (iv pl)) 1 (iv n)) 2 (iv o)) 3 (iv mk))), (tB, ar 6 B2_15), (tF, ar 6 F2_16), (tH, ar 6 H2_17), (tL, ar 6 L2_18)]) rfl ?_
            have hcu : le ≤ WO pl n o mk Fo Ho B Lt := by have h9 := hq_36; rwa [← WO_c (hok.ec (e2 := o) (by omega)) hte] at h9
            have hwr := (hok.ec (e2 := o) (by omega)).worst (mk := mk)
            refine S_istore X dX11_echoes_56 (nle rfl) ?_
            refine S_iload X dX11_echoes_58 rfl ?_
            refine S_iload_n X dX11_echoes_60 rfl hL29_2 ?_
            refine S_icmp_ge (tgt := 70) X dX11_echoes_61 (by decide) (by omega) (by omega) (fun c_47 => ?_) (fun c_47 => by exfalso; omega)
            refine S_iinc X dX11_echoes_70 (nle rfl) hL29_4 ?_
            refine S_goto (tgt := 29) X dX11_echoes_73 (by decide) ?_
            exact ih29 (o + 1) be le o A2_30 T2_31 W2_32 S2_33 pl n mk _ (by omega) (by omega) (ec_keep (hok.ec (by omega)) heh (by omega)) hL29_0 hL29_1 hL29_2 hL29_3 rfl (by omega)
          ·
            subst hz_41
            subst hu_42
            refine ⟨rfl, ?_⟩
            refine S_w (ws' := [(h0, ob 10 f), (oW, ob 7 fW), (oP, ob 4 (uF (uF (uF fP 6 (iv pl)) 7 (iv n)) 8 (iv mk))), (aA, ar 1206 A2_37), (aT, ar 180 T2_38), (aW, ar 6 W2_39), (aS, ar 30 S2_40), (oS, ob 5 fS), (aB, ar 6 B), (aF, ar 6 Fo), (aH, ar 6 Ho), (aL, ar 6 Lt), (oT, ob 5 (uF (uF (uF (uF fT 0 (iv pl)) 1 (iv n)) 2 (iv o)) 3 (iv mk))), (tB, ar 6 B2_15), (tF, ar 6 F2_16), (tH, ar 6 H2_17), (tL, ar 6 L2_18)]) rfl ?_
            have hv1 : WO pl n o mk F2_16 H2_17 B2_15 L2_18 = WO pl n o mk Fo Ho B Lt := (WO_c (hok.ec (e2 := o) (by omega)) hte).symm
            rw [hv1]
            have hwr := (hok.ec (e2 := o) (by omega)).worst (mk := mk)
            refine S_istore X dX11_echoes_56 (nle rfl) ?_
            refine S_iload X dX11_echoes_58 rfl ?_
            refine S_iload_n X dX11_echoes_60 rfl hL29_2 ?_
            refine S_icmp_ge (tgt := 70) X dX11_echoes_61 (by decide) (by omega) (by omega) (fun c_48 => ?_) (fun c_48 => ?_)
            ·
              refine S_iinc X dX11_echoes_70 (nle rfl) hL29_4 ?_
              refine S_goto (tgt := 29) X dX11_echoes_73 (by decide) ?_
              exact ih29 (o + 1) be le o A2_37 T2_38 W2_39 S2_40 pl n mk _ (by omega) (by omega) (ec_keep (hok.ec (by omega)) heh (by omega)) hL29_0 hL29_1 hL29_2 hL29_3 rfl (by omega)
            ·
              refine S_iload X dX11_echoes_64 rfl ?_
              refine S_istore_n X dX11_echoes_66 rfl (nle rfl) ?_
              refine S_iload X dX11_echoes_67 hL29_4 ?_
              refine S_istore_n X dX11_echoes_69 rfl (nle rfl) ?_
              refine S_iinc X dX11_echoes_70 (nle rfl) hL29_4 ?_
              refine S_goto (tgt := 29) X dX11_echoes_73 (by decide) ?_
              exact ih29 (o + 1) o (WO pl n o mk Fo Ho B Lt) o A2_37 T2_38 W2_39 S2_40 pl n mk _ (by omega) (by omega) (ec_take (by omega) heh (by omega)) hL29_0 hL29_1 rfl rfl rfl (by omega)
    exact lp29_1 (Int.toNat (5 - 0) + 1) 0 0 1000000000 ec Ab Tm Wq Sp p0 n0 k0 _ (by omega) (by omega) (Or.inl ⟨rfl, rfl, rfl⟩) rfl rfl rfl rfl rfl (by omega)
set_option maxHeartbeats 4000000 in
set_option maxRecDepth 100000 in
theorem kX11_paid (l : Launch) (h0 : Nat) (f : Nat → AV) (oW : Nat) (fW : Nat → AV) (fP : Nat → AV) (fS : Nat → AV) (pl : Int) (n : Int) (ec : Int) (mk : Int) (oP : Nat) (oS : Nat) (aA : Nat) (aT : Nat) (aW : Nat) (aS : Nat) (aB : Nat) (aF : Nat) (aH : Nat) (aL : Nat) (Ab : Int → Int) (Tm : Int → Int) (Wq : Int → Int) (Sp : Int → Int) (B : Int → Int) (Fo : Int → Int) (Ho : Int → Int) (Lt : Int → Int) (p0 : Int) (n0 : Int) (k0 : Int) (q : Int) (oT : Nat) (tB : Nat) (tF : Nat) (tH : Nat) (tL : Nat) (fT : Nat → AV) (TB : Int → Int) (TF : Int → Int) (TH : Int → Int) (TL : Int → Int) (t0 : Int) (t1 : Int) (t2 : Int) (t3 : Int) (hf0 : f 3 = rv oW) (hf1 : f 7 = rv oS) (hf2 : f 9 = rv oP) (hf3 : f 8 = rv oT) (hf4 : fW 0 = iv pl) (hf5 : fP 0 = rv aA) (hf6 : fP 1 = rv aT) (hf7 : fP 2 = rv aW) (hf8 : fP 3 = rv aS) (hf9 : fS 0 = iv pl) (hf10 : fS 1 = iv n) (hf11 : fS 2 = iv ec) (hf12 : fS 3 = iv mk) (hf13 : fS 4 = rv aB) (hf14 : fS 5 = rv aF) (hf15 : fS 6 = rv aH) (hf16 : fS 7 = rv aL) (hf17 : fT 4 = rv tB) (hf18 : fT 5 = rv tF) (hf19 : fT 6 = rv tH) (hf20 : fT 7 = rv tL) (hz : okZ pl n ec Fo Ho B Lt) (hx_q : inR q) : AMi l yX11_paid cX11_paid 4 .int 4 0 0 [rv h0, iv q] [(h0, ob 10 f), (oW, ob 7 fW), (oP, ob 4 (uF (uF (uF fP 6 (iv p0)) 7 (iv n0)) 8 (iv k0))), (aA, ar 1206 Ab), (aT, ar 180 Tm), (aW, ar 6 Wq), (aS, ar 30 Sp), (oS, ob 5 fS), (aB, ar 6 B), (aF, ar 6 Fo), (aH, ar 6 Ho), (aL, ar 6 Lt), (oT, ob 5 (uF (uF (uF (uF fT 0 (iv t0)) 1 (iv t1)) 2 (iv t2)) 3 (iv t3))), (tB, ar 6 TB), (tF, ar 6 TF), (tH, ar 6 TH), (tL, ar 6 TL)] (fun z u => ∃ z9 : Int, ∃ p9 : Int, ∃ n9 : Int, ∃ k9 : Int, ∃ A2 : Int → Int, ∃ T2 : Int → Int, ∃ W2 : Int → Int, ∃ S2 : Int → Int, ∃ t4 : Int, ∃ t5 : Int, ∃ t6 : Int, ∃ t7 : Int, ∃ B3 : Int → Int, ∃ F3 : Int → Int, ∃ H3 : Int → Int, ∃ L3 : Int → Int, z = z9 ∧ u = [(h0, ob 10 f), (oW, ob 7 fW), (oP, ob 4 (uF (uF (uF fP 6 (iv p9)) 7 (iv n9)) 8 (iv k9))), (aA, ar 1206 A2), (aT, ar 180 T2), (aW, ar 6 W2), (aS, ar 30 S2), (oS, ob 5 fS), (aB, ar 6 B), (aF, ar 6 Fo), (aH, ar 6 Ho), (aL, ar 6 Lt), (oT, ob 5 (uF (uF (uF (uF fT 0 (iv t4)) 1 (iv t5)) 2 (iv t6)) 3 (iv t7))), (tB, ar 6 B3), (tF, ar 6 F3), (tH, ar 6 H3), (tL, ar 6 L3)] ∧ rPaid pl n ec mk Fo Ho B Lt q z9) := by
  refine AMi.of2 rfl (nle rfl) ?_
  intro D G A p e s m args below meth c Po hPo X
  have hz6 := hz.2.1
  have hz0 := hz.1
  have hzn := hz.2.2.1
  have hzm := hz.2.2.2.1
  have hze := hz.2.2.2.2
  refine S_aload_n X dX11_paid_0 rfl rfl ?_
  refine S_iload_n X dX11_paid_1 rfl rfl ?_
  refine S_calli X (kX11_isPlayer l h0 f oW fW pl q hf0 hf4 (by omega) (by omega)) (is := [0, 1]) rfl (run_V X lkX11_147 0 rfl rfl (is := [0, 1]) (avs := [iv q]) (rest := []) rfl rfl (nle rfl) ⟨nle rfl, nle rfl⟩ ⟨nle rfl, nle rfl⟩ dX11_paid_2 (by decide) rfl) (fun z_3 u_1 hp_2 => ?_)
  rcases hp_2 with ⟨hz_4, hu_5, hp_6⟩ | ⟨hz_7, hu_8, hp_9⟩
  ·
    subst hz_4
    subst hu_5
    refine ⟨rfl, ?_⟩
    refine S_w (ws' := [(h0, ob 10 f), (oW, ob 7 fW), (oP, ob 4 (uF (uF (uF fP 6 (iv p0)) 7 (iv n0)) 8 (iv k0))), (aA, ar 1206 Ab), (aT, ar 180 Tm), (aW, ar 6 Wq), (aS, ar 30 Sp), (oS, ob 5 fS), (aB, ar 6 B), (aF, ar 6 Fo), (aH, ar 6 Ho), (aL, ar 6 Lt), (oT, ob 5 (uF (uF (uF (uF fT 0 (iv t0)) 1 (iv t1)) 2 (iv t2)) 3 (iv t3))), (tB, ar 6 TB), (tF, ar 6 TF), (tH, ar 6 TH), (tL, ar 6 TL)]) rfl ?_
    refine S_if_ne (tgt := 10) X dX11_paid_5 (by decide) (by decide) (fun h9 => absurd h9 (by decide)) (fun _ => ?_)
    refine S_iconst X dX11_paid_8 ?_
    exact S_iret X (nle rfl) (nle rfl) dX11_paid_9 (hPo _ _ (⟨_, _, _, _, _, _, _, _, _, _, _, _, _, _, _, _, rfl, rfl, Or.inl ⟨by omega, rfl⟩⟩))
  ·
    subst hz_7
    subst hu_8
    refine ⟨rfl, ?_⟩
    refine S_w (ws' := [(h0, ob 10 f), (oW, ob 7 fW), (oP, ob 4 (uF (uF (uF fP 6 (iv p0)) 7 (iv n0)) 8 (iv k0))), (aA, ar 1206 Ab), (aT, ar 180 Tm), (aW, ar 6 Wq), (aS, ar 30 Sp), (oS, ob 5 fS), (aB, ar 6 B), (aF, ar 6 Fo), (aH, ar 6 Ho), (aL, ar 6 Lt), (oT, ob 5 (uF (uF (uF (uF fT 0 (iv t0)) 1 (iv t1)) 2 (iv t2)) 3 (iv t3))), (tB, ar 6 TB), (tF, ar 6 TF), (tH, ar 6 TH), (tL, ar 6 TL)]) rfl ?_
    refine S_if_ne (tgt := 10) X dX11_paid_5 (by decide) (by decide) (fun _ => ?_) (fun h9 => absurd h9 (by decide))
    have hok := hz.s (by omega)
    have hpl := hok.2.1
    have hpl1 := hok.1
    have hn1 := hok.2.2.1
    have hn2 := hok.2.2.2.1
    have hec := hok.2.2.2.2
    refine S_aload_n X dX11_paid_10 rfl rfl ?_
    refine S_get X fgX11_63_10 0 rfl hf3 dX11_paid_11 ?_
    refine S_aload_n X dX11_paid_14 rfl rfl ?_
    refine S_get X fgX11_59_10 0 rfl hf1 dX11_paid_15 ?_
    refine S_callv X (kX6_copyFrom l fS pl n ec mk oS aB aF aH aL B Fo Ho Lt oT tB tF tH tL fT TB TF TH TL t0 t1 t2 t3 hf9 hf10 hf11 hf12 hf13 hf14 hf15 hf16 hf17 hf18 hf19 hf20) (is := [12, 13, 14, 15, 16, 7, 8, 9, 10, 11]) rfl (run_V X lkX11_289 12 rfl rfl (is := [12, 13, 14, 15, 16, 7, 8, 9, 10, 11]) (avs := [rv oS]) (rest := []) rfl rfl (nle rfl) ⟨nle rfl, nle rfl⟩ ⟨nle rfl, nle rfl⟩ dX11_paid_18 (by decide) rfl) (fun u_12 hp_13 => ?_)
    obtain ⟨B2_15, F2_16, H2_17, L2_18, hu_20, hB2_21, hF2_22, hH2_23, hL2_24⟩ := hp_13
    subst hu_20
    refine ⟨rfl, ?_⟩
    refine S_w (ws' := [(h0, ob 10 f), (oW, ob 7 fW), (oP, ob 4 (uF (uF (uF fP 6 (iv p0)) 7 (iv n0)) 8 (iv k0))), (aA, ar 1206 Ab), (aT, ar 180 Tm), (aW, ar 6 Wq), (aS, ar 30 Sp), (oS, ob 5 fS), (aB, ar 6 B), (aF, ar 6 Fo), (aH, ar 6 Ho), (aL, ar 6 Lt), (oT, ob 5 (uF (uF (uF (uF fT 0 (iv pl)) 1 (iv n)) 2 (iv ec)) 3 (iv mk))), (tB, ar 6 B2_15), (tF, ar 6 F2_16), (tH, ar 6 H2_17), (tL, ar 6 L2_18)]) rfl ?_
    have hB9 := hB2_21
    have hF9 := hF2_22
    have hH9 := hH2_23
    have hL9 := hL2_24
    have hte := te_0 (pl := pl) (by omega) hB9 hF9 hH9 hL9
    refine S_aload_n X dX11_paid_21 rfl rfl ?_
    refine S_get X fgX11_63_10 0 rfl hf3 dX11_paid_22 ?_
    refine S_get (v := iv n) X fgX11_182_5 12 rfl rfl dX11_paid_25 ?_
    refine S_iconst X dX11_paid_28 ?_
    refine S_isub X dX11_paid_29 ?_
    refine S_istore_n X dX11_paid_30 rfl (nle rfl) ?_
    refine S_iconst X dX11_paid_31 ?_
    refine S_istore_n X dX11_paid_32 rfl (nle rfl) ?_
    have lp33_1 : ∀ (N : Nat) (la : Int) (Lv : Int → Int) (Aw : Int → Int) (Tw : Int → Int) (Ww : Int → Int) (Sw : Int → Int) (pw : Int) (nw : Int) (kw : Int) (L : Nat → Option AV), 0 ≤ la ∧ la ≤ 51 → (∀ x, uZ Lv q x = uZ L2_18 q x) → (∀ x, 0 ≤ x → x < la → ¬ alL pl n ec mk Fo Ho B Lt q x) → L 0 = some (rv h0) → L 1 = some (iv q) → L 2 = some (iv (n - 1)) → L 3 = some (iv la) → 52 - la < (N : Int) → S_ p l e (rmD 4 0 0) s m args below meth c (MQ below (QcI D G A Po) args s 0 0 A) D G A 4 0 0 33 L [] [(h0, ob 10 f), (oW, ob 7 fW), (oP, ob 4 (uF (uF (uF fP 6 (iv pw)) 7 (iv nw)) 8 (iv kw))), (aA, ar 1206 Aw), (aT, ar 180 Tw), (aW, ar 6 Ww), (aS, ar 30 Sw), (oS, ob 5 fS), (aB, ar 6 B), (aF, ar 6 Fo), (aH, ar 6 Ho), (aL, ar 6 Lt), (oT, ob 5 (uF (uF (uF (uF fT 0 (iv pl)) 1 (iv n)) 2 (iv ec)) 3 (iv mk))), (tB, ar 6 B2_15), (tF, ar 6 F2_16), (tH, ar 6 H2_17), (tL, ar 6 Lv)] := by
      intro N
      induction N with
      | zero =>
        intro la Lv Aw Tw Ww Sw pw nw kw L33 hla hLv hno hL33_0 hL33_1 hL33_2 hL33_3 hN33
        exfalso; omega
      | succ N ih33 =>
        intro la Lv Aw Tw Ww Sw pw nw kw L33 hla hLv hno hL33_0 hL33_1 hL33_2 hL33_3 hN33
        refine S_iload_n X dX11_paid_33 rfl hL33_3 ?_
        refine S_bipush X dX11_paid_34 rfl ?_
        refine S_icmp_gt (tgt := 83) X dX11_paid_36 (by decide) (by omega) (by decide) (fun c_25 => ?_) (fun c_25 => ?_)
        ·
          refine S_iconst X dX11_paid_83 ?_
          exact S_iret X (nle rfl) (nle rfl) dX11_paid_84 (hPo _ _ (⟨_, _, _, _, _, _, _, _, _, _, _, _, _, _, _, _, rfl, rfl, Or.inr ⟨by omega, Or.inl ⟨rfl, fun x h0 h1 => hno x h0 (by omega)⟩⟩⟩))
        ·
          refine S_aload_n X dX11_paid_39 rfl hL33_0 ?_
          refine S_get X fgX11_63_10 0 rfl hf3 dX11_paid_40 ?_
          refine S_get X fgX11_174_5 12 rfl hf20 dX11_paid_43 ?_
          refine S_iload_n X dX11_paid_46 rfl hL33_1 ?_
          refine S_iload_n X dX11_paid_47 rfl hL33_3 ?_
          refine S_iast X 16 rfl (by omega) (by omega) (nle rfl) dX11_paid_48 ?_
          refine S_w (ws' := [(h0, ob 10 f), (oW, ob 7 fW), (oP, ob 4 (uF (uF (uF fP 6 (iv pw)) 7 (iv nw)) 8 (iv kw))), (aA, ar 1206 Aw), (aT, ar 180 Tw), (aW, ar 6 Ww), (aS, ar 30 Sw), (oS, ob 5 fS), (aB, ar 6 B), (aF, ar 6 Fo), (aH, ar 6 Ho), (aL, ar 6 Lt), (oT, ob 5 (uF (uF (uF (uF fT 0 (iv pl)) 1 (iv n)) 2 (iv ec)) 3 (iv mk))), (tB, ar 6 B2_15), (tF, ar 6 F2_16), (tH, ar 6 H2_17), (tL, ar 6 (uZ Lv q la))]) rfl ?_
          refine S_aload_n X dX11_paid_49 rfl hL33_0 ?_
          refine S_get X fgX11_69_10 0 rfl hf2 dX11_paid_50 ?_
          refine S_aload_n X dX11_paid_53 rfl hL33_0 ?_
          refine S_get X fgX11_63_10 0 rfl hf3 dX11_paid_54 ?_
          refine S_ldc (n := 1000000000) X m813 dX11_paid_57 ?_
          refine S_calli X (kX4_performE l fP (uF (uF (uF (uF fT 0 (iv pl)) 1 (iv n)) 2 (iv ec)) 3 (iv mk)) pl n ec mk oP oT aA aT aW aS tB tF tH tL Aw Tw Ww Sw B2_15 F2_16 H2_17 (uZ Lv q la) pw nw kw hf5 hf6 hf7 hf8 rfl rfl rfl rfl hf17 hf18 hf19 hf20 (by rw [hLv]; exact (hok.la (p := q) (v := la) (by omega)).c (te_L hte))) (is := [2, 3, 4, 5, 6, 12, 13, 14, 15, 16]) rfl (run_V X lkX11_235 2 rfl rfl (is := [2, 3, 4, 5, 6, 12, 13, 14, 15, 16]) (avs := [rv oT, iv 1000000000]) (rest := []) rfl rfl (nle rfl) ⟨nle rfl, nle rfl⟩ ⟨nle rfl, nle rfl⟩ dX11_paid_59 (by decide) rfl) (fun z_28 u_26 hp_27 => ?_)
          obtain ⟨A2_29, T2_30, W2_31, S2_32, hz_33, hu_34, hq_35, hA2_36, hT2_37, hS2_38⟩ := hp_27
          subst hz_33
          subst hu_34
          refine ⟨rfl, ?_⟩
          refine S_w (ws' := [(h0, ob 10 f), (oW, ob 7 fW), (oP, ob 4 (uF (uF (uF fP 6 (iv pl)) 7 (iv n)) 8 (iv mk))), (aA, ar 1206 A2_29), (aT, ar 180 T2_30), (aW, ar 6 W2_31), (aS, ar 30 S2_32), (oS, ob 5 fS), (aB, ar 6 B), (aF, ar 6 Fo), (aH, ar 6 Ho), (aL, ar 6 Lt), (oT, ob 5 (uF (uF (uF (uF fT 0 (iv pl)) 1 (iv n)) 2 (iv ec)) 3 (iv mk))), (tB, ar 6 B2_15), (tF, ar 6 F2_16), (tH, ar 6 H2_17), (tL, ar 6 (uZ Lv q la))]) rfl ?_
          have hTL := hT2_37
          refine S_pop X dX11_paid_62 ?_
          refine S_aload_n X dX11_paid_63 rfl hL33_0 ?_
          refine S_get X fgX11_69_10 0 rfl hf2 dX11_paid_64 ?_
          refine S_iload_n X dX11_paid_67 rfl hL33_1 ?_
          refine S_iload_n X dX11_paid_68 rfl hL33_2 ?_
          refine S_calli X (kX4_isAloneLast l (uF (uF (uF fP 6 (iv pl)) 7 (iv n)) 8 (iv mk)) pl n ec mk oP aT T2_30 B2_15 F2_16 H2_17 (uZ Lv q la) q (n - 1) hf6 rfl (by rw [hLv]; exact (hok.la (p := q) (v := la) (by omega)).c (te_L hte)) hTL (by omega) (by omega)) (is := [2, 4]) rfl (run_V X lkX11_296 2 rfl rfl (is := [2, 4]) (avs := [iv q, iv (n - 1)]) (rest := []) rfl rfl (nle rfl) ⟨nle rfl, nle rfl⟩ ⟨nle rfl, nle rfl⟩ dX11_paid_69 (by decide) rfl) (fun z_41 u_39 hp_40 => ?_)
          rcases hp_40 with ⟨hz_42, hu_43, hal_44⟩ | ⟨hz_45, hu_46, hal_47⟩
          ·
            subst hz_42
            subst hu_43
            refine ⟨rfl, ?_⟩
            refine S_w (ws' := [(h0, ob 10 f), (oW, ob 7 fW), (oP, ob 4 (uF (uF (uF fP 6 (iv pl)) 7 (iv n)) 8 (iv mk))), (aA, ar 1206 A2_29), (aT, ar 180 T2_30), (aW, ar 6 W2_31), (aS, ar 30 S2_32), (oS, ob 5 fS), (aB, ar 6 B), (aF, ar 6 Fo), (aH, ar 6 Ho), (aL, ar 6 Lt), (oT, ob 5 (uF (uF (uF (uF fT 0 (iv pl)) 1 (iv n)) 2 (iv ec)) 3 (iv mk))), (tB, ar 6 B2_15), (tF, ar 6 F2_16), (tH, ar 6 H2_17), (tL, ar 6 (uZ Lv q la))]) rfl ?_
            have hal9 := hal_44
            rw [hLv] at hal9
            rw [alL_c (hok.la (p := q) (v := la) (by omega)) (te_L hte) (by omega)] at hal9
            refine S_if_eq (tgt := 77) X dX11_paid_72 (by decide) (by decide) (fun _ => ?_) (fun h9 => absurd h9 (by decide))
            refine S_iinc X dX11_paid_77 (nle rfl) hL33_3 ?_
            refine S_goto (tgt := 33) X dX11_paid_80 (by decide) ?_
            exact ih33 (la + 1) (uZ Lv q la) A2_29 T2_30 W2_31 S2_32 pl n mk _ (by omega) (fun x => by first | (rw [uZ_twice]; exact hLv x) | exact hLv x) (fun x h0 h1 => (by omega : x < la ∨ x = la).elim (fun q9 => hno x h0 q9) (fun q9 => by rw [q9]; exact hal9)) hL33_0 hL33_1 hL33_2 rfl (by omega)
          ·
            subst hz_45
            subst hu_46
            refine ⟨rfl, ?_⟩
            refine S_w (ws' := [(h0, ob 10 f), (oW, ob 7 fW), (oP, ob 4 (uF (uF (uF fP 6 (iv pl)) 7 (iv n)) 8 (iv mk))), (aA, ar 1206 A2_29), (aT, ar 180 T2_30), (aW, ar 6 W2_31), (aS, ar 30 S2_32), (oS, ob 5 fS), (aB, ar 6 B), (aF, ar 6 Fo), (aH, ar 6 Ho), (aL, ar 6 Lt), (oT, ob 5 (uF (uF (uF (uF fT 0 (iv pl)) 1 (iv n)) 2 (iv ec)) 3 (iv mk))), (tB, ar 6 B2_15), (tF, ar 6 F2_16), (tH, ar 6 H2_17), (tL, ar 6 (uZ Lv q la))]) rfl ?_
            have hal9 := hal_47
            rw [hLv] at hal9
            rw [alL_c (hok.la (p := q) (v := la) (by omega)) (te_L hte) (by omega)] at hal9
            refine S_if_eq (tgt := 77) X dX11_paid_72 (by decide) (by decide) (fun h9 => absurd h9 (by decide)) (fun _ => ?_)
            refine S_iload_n X dX11_paid_75 rfl hL33_3 ?_
            exact S_iret X (nle rfl) (nle rfl) dX11_paid_76 (hPo _ _ (⟨_, _, _, _, _, _, _, _, _, _, _, _, _, _, _, _, rfl, rfl, Or.inr ⟨by omega, Or.inr ⟨by omega, by omega, hal9, hno⟩⟩⟩))
    exact lp33_1 (Int.toNat (52 - 0) + 1) 0 L2_18 Ab Tm Wq Sp p0 n0 k0 _ (by omega) (fun x => rfl) (fun x h0 h1 => by omega) rfl rfl rfl rfl (by omega)
set_option maxHeartbeats 4000000 in
set_option maxRecDepth 100000 in
theorem kX11_tune (l : Launch) (h0 : Nat) (f : Nat → AV) (oW : Nat) (fW : Nat → AV) (fP : Nat → AV) (fS : Nat → AV) (pl : Int) (n : Int) (ec : Int) (mk : Int) (oP : Nat) (oS : Nat) (aA : Nat) (aT : Nat) (aW : Nat) (aS : Nat) (aB : Nat) (aF : Nat) (aH : Nat) (aL : Nat) (Ab : Int → Int) (Tm : Int → Int) (Wq : Int → Int) (Sp : Int → Int) (B : Int → Int) (Fo : Int → Int) (Ho : Int → Int) (Lt : Int → Int) (p0 : Int) (n0 : Int) (k0 : Int) (q : Int) (v : Int) (oT : Nat) (tB : Nat) (tF : Nat) (tH : Nat) (tL : Nat) (fT : Nat → AV) (TB : Int → Int) (TF : Int → Int) (TH : Int → Int) (TL : Int → Int) (t0 : Int) (t1 : Int) (t2 : Int) (t3 : Int) (lim : Int) (hf0 : f 3 = rv oW) (hf1 : f 7 = rv oS) (hf2 : f 9 = rv oP) (hf3 : f 8 = rv oT) (hf4 : fW 0 = iv pl) (hf5 : fP 0 = rv aA) (hf6 : fP 1 = rv aT) (hf7 : fP 2 = rv aW) (hf8 : fP 3 = rv aS) (hf9 : fS 0 = iv pl) (hf10 : fS 1 = iv n) (hf11 : fS 2 = iv ec) (hf12 : fS 3 = iv mk) (hf13 : fS 4 = rv aB) (hf14 : fS 5 = rv aF) (hf15 : fS 6 = rv aH) (hf16 : fS 7 = rv aL) (hf17 : fT 4 = rv tB) (hf18 : fT 5 = rv tF) (hf19 : fT 6 = rv tH) (hf20 : fT 7 = rv tL) (hf21 : f 12 = iv lim) (hz : okZ pl n ec Fo Ho B Lt) (hx_q : inR q) (hx_v : inR v) (hlim : 0 ≤ lim ∧ lim ≤ 999) : AMi l yX11_tune cX11_tune 7 .int 4 0 0 [rv h0, iv q, iv v] [(h0, ob 10 f), (oW, ob 7 fW), (oP, ob 4 (uF (uF (uF fP 6 (iv p0)) 7 (iv n0)) 8 (iv k0))), (aA, ar 1206 Ab), (aT, ar 180 Tm), (aW, ar 6 Wq), (aS, ar 30 Sp), (oS, ob 5 fS), (aB, ar 6 B), (aF, ar 6 Fo), (aH, ar 6 Ho), (aL, ar 6 Lt), (oT, ob 5 (uF (uF (uF (uF fT 0 (iv t0)) 1 (iv t1)) 2 (iv t2)) 3 (iv t3))), (tB, ar 6 TB), (tF, ar 6 TF), (tH, ar 6 TH), (tL, ar 6 TL)] (fun z u => ∃ z9 : Int, ∃ p9 : Int, ∃ n9 : Int, ∃ k9 : Int, ∃ A2 : Int → Int, ∃ T2 : Int → Int, ∃ W2 : Int → Int, ∃ S2 : Int → Int, ∃ t4 : Int, ∃ t5 : Int, ∃ t6 : Int, ∃ t7 : Int, ∃ B3 : Int → Int, ∃ F3 : Int → Int, ∃ H3 : Int → Int, ∃ L3 : Int → Int, z = z9 ∧ u = [(h0, ob 10 f), (oW, ob 7 fW), (oP, ob 4 (uF (uF (uF fP 6 (iv p9)) 7 (iv n9)) 8 (iv k9))), (aA, ar 1206 A2), (aT, ar 180 T2), (aW, ar 6 W2), (aS, ar 30 S2), (oS, ob 5 fS), (aB, ar 6 B), (aF, ar 6 Fo), (aH, ar 6 Ho), (aL, ar 6 Lt), (oT, ob 5 (uF (uF (uF (uF fT 0 (iv t4)) 1 (iv t5)) 2 (iv t6)) 3 (iv t7))), (tB, ar 6 B3), (tF, ar 6 F3), (tH, ar 6 H3), (tL, ar 6 L3)] ∧ rTune pl n ec mk Fo Ho B Lt lim q v z9) := by
  refine AMi.of2 rfl (nle rfl) ?_
  intro D G A p e s m args below meth c Po hPo X
  have hz6 := hz.2.1
  have hz0 := hz.1
  have hzn := hz.2.2.1
  have hzm := hz.2.2.2.1
  have hze := hz.2.2.2.2
  refine S_aload_n X dX11_tune_0 rfl rfl ?_
  refine S_iload_n X dX11_tune_1 rfl rfl ?_
  refine S_calli X (kX11_isPlayer l h0 f oW fW pl q hf0 hf4 (by omega) (by omega)) (is := [0, 1]) rfl (run_V X lkX11_147 0 rfl rfl (is := [0, 1]) (avs := [iv q]) (rest := []) rfl rfl (nle rfl) ⟨nle rfl, nle rfl⟩ ⟨nle rfl, nle rfl⟩ dX11_tune_2 (by decide) rfl) (fun z_3 u_1 hp_2 => ?_)
  rcases hp_2 with ⟨hz_4, hu_5, hp_6⟩ | ⟨hz_7, hu_8, hp_9⟩
  ·
    subst hz_4
    subst hu_5
    refine ⟨rfl, ?_⟩
    refine S_w (ws' := [(h0, ob 10 f), (oW, ob 7 fW), (oP, ob 4 (uF (uF (uF fP 6 (iv p0)) 7 (iv n0)) 8 (iv k0))), (aA, ar 1206 Ab), (aT, ar 180 Tm), (aW, ar 6 Wq), (aS, ar 30 Sp), (oS, ob 5 fS), (aB, ar 6 B), (aF, ar 6 Fo), (aH, ar 6 Ho), (aL, ar 6 Lt), (oT, ob 5 (uF (uF (uF (uF fT 0 (iv t0)) 1 (iv t1)) 2 (iv t2)) 3 (iv t3))), (tB, ar 6 TB), (tF, ar 6 TF), (tH, ar 6 TH), (tL, ar 6 TL)]) rfl ?_
    refine S_if_eq (tgt := 17) X dX11_tune_5 (by decide) (by decide) (fun _ => ?_) (fun h9 => absurd h9 (by decide))
    refine S_iconst X dX11_tune_17 ?_
    exact S_iret X (nle rfl) (nle rfl) dX11_tune_18 (hPo _ _ (⟨_, _, _, _, _, _, _, _, _, _, _, _, _, _, _, _, rfl, rfl, Or.inl ⟨by omega, rfl⟩⟩))
  ·
    subst hz_7
    subst hu_8
    refine ⟨rfl, ?_⟩
    refine S_w (ws' := [(h0, ob 10 f), (oW, ob 7 fW), (oP, ob 4 (uF (uF (uF fP 6 (iv p0)) 7 (iv n0)) 8 (iv k0))), (aA, ar 1206 Ab), (aT, ar 180 Tm), (aW, ar 6 Wq), (aS, ar 30 Sp), (oS, ob 5 fS), (aB, ar 6 B), (aF, ar 6 Fo), (aH, ar 6 Ho), (aL, ar 6 Lt), (oT, ob 5 (uF (uF (uF (uF fT 0 (iv t0)) 1 (iv t1)) 2 (iv t2)) 3 (iv t3))), (tB, ar 6 TB), (tF, ar 6 TF), (tH, ar 6 TH), (tL, ar 6 TL)]) rfl ?_
    refine S_if_eq (tgt := 17) X dX11_tune_5 (by decide) (by decide) (fun h9 => absurd h9 (by decide)) (fun _ => ?_)
    refine S_iload_n X dX11_tune_8 rfl rfl ?_
    refine S_if_lt (tgt := 17) X dX11_tune_9 (by decide) (by omega) (fun c_12 => ?_) (fun c_12 => ?_)
    ·
      refine S_iconst X dX11_tune_17 ?_
      exact S_iret X (nle rfl) (nle rfl) dX11_tune_18 (hPo _ _ (⟨_, _, _, _, _, _, _, _, _, _, _, _, _, _, _, _, rfl, rfl, Or.inl ⟨by omega, rfl⟩⟩))
    ·
      refine S_iload_n X dX11_tune_12 rfl rfl ?_
      refine S_iconst X dX11_tune_13 ?_
      refine S_icmp_le (tgt := 19) X dX11_tune_14 (by decide) (by omega) (by decide) (fun c_13 => ?_) (fun c_13 => ?_)
      ·
        have hok := hz.s (by omega)
        have hpl := hok.2.1
        have hpl1 := hok.1
        have hn1 := hok.2.2.1
        have hn2 := hok.2.2.2.1
        have hec := hok.2.2.2.2
        refine S_aload_n X dX11_tune_19 rfl rfl ?_
        refine S_get X fgX11_63_10 0 rfl hf3 dX11_tune_20 ?_
        refine S_aload_n X dX11_tune_23 rfl rfl ?_
        refine S_get X fgX11_59_10 0 rfl hf1 dX11_tune_24 ?_
        refine S_callv X (kX6_copyFrom l fS pl n ec mk oS aB aF aH aL B Fo Ho Lt oT tB tF tH tL fT TB TF TH TL t0 t1 t2 t3 hf9 hf10 hf11 hf12 hf13 hf14 hf15 hf16 hf17 hf18 hf19 hf20) (is := [12, 13, 14, 15, 16, 7, 8, 9, 10, 11]) rfl (run_V X lkX11_289 12 rfl rfl (is := [12, 13, 14, 15, 16, 7, 8, 9, 10, 11]) (avs := [rv oS]) (rest := []) rfl rfl (nle rfl) ⟨nle rfl, nle rfl⟩ ⟨nle rfl, nle rfl⟩ dX11_tune_27 (by decide) rfl) (fun u_14 hp_15 => ?_)
        obtain ⟨B2_17, F2_18, H2_19, L2_20, hu_22, hB2_23, hF2_24, hH2_25, hL2_26⟩ := hp_15
        subst hu_22
        refine ⟨rfl, ?_⟩
        refine S_w (ws' := [(h0, ob 10 f), (oW, ob 7 fW), (oP, ob 4 (uF (uF (uF fP 6 (iv p0)) 7 (iv n0)) 8 (iv k0))), (aA, ar 1206 Ab), (aT, ar 180 Tm), (aW, ar 6 Wq), (aS, ar 30 Sp), (oS, ob 5 fS), (aB, ar 6 B), (aF, ar 6 Fo), (aH, ar 6 Ho), (aL, ar 6 Lt), (oT, ob 5 (uF (uF (uF (uF fT 0 (iv pl)) 1 (iv n)) 2 (iv ec)) 3 (iv mk))), (tB, ar 6 B2_17), (tF, ar 6 F2_18), (tH, ar 6 H2_19), (tL, ar 6 L2_20)]) rfl ?_
        have hB9 := hB2_23
        have hF9 := hF2_24
        have hH9 := hH2_25
        have hL9 := hL2_26
        have hte := te_0 (pl := pl) (by omega) hB9 hF9 hH9 hL9
        refine S_aload_n X dX11_tune_30 rfl rfl ?_
        refine S_get X fgX11_59_10 0 rfl hf1 dX11_tune_31 ?_
        refine S_get X fgX11_171_5 7 rfl hf15 dX11_tune_34 ?_
        refine S_iload_n X dX11_tune_37 rfl rfl ?_
        refine S_iald X 10 rfl (by omega) (by omega) (nle rfl) dX11_tune_38 ?_
        refine S_istore_n X dX11_tune_39 rfl (nle rfl) ?_
        have hq4 := (hok.2.2.2.2.2.2 q (by omega) (by omega)).2.1
        obtain ⟨own, hown⟩ : ∃ z9, z9 = Ho q := ⟨_, rfl⟩
        rw [← hown]
        refine S_iconst X dX11_tune_40 ?_
        refine S_istore X dX11_tune_41 (nle rfl) ?_
        have lp43_3 : ∀ (N : Nat) (sp : Int) (Hv : Int → Int) (Aw : Int → Int) (Tw : Int → Int) (Ww : Int → Int) (Sw : Int → Int) (pw : Int) (nw : Int) (kw : Int) (L : Nat → Option AV), 0 ≤ sp ∧ sp ≤ 21 → (∀ x, uZ Hv q x = uZ H2_19 q x) → (∀ k, 0 ≤ k → k ≤ 10 → stepOf own k < sp → lim < WO pl n ec mk Fo (uZ Ho q k) B Lt) → L 0 = some (rv h0) → L 1 = some (iv q) → L 2 = some (iv v) → L 3 = some (iv own) → L 4 = some (iv sp) → 22 - sp < (N : Int) → S_ p l e (rmD 4 0 0) s m args below meth c (MQ below (QcI D G A Po) args s 0 0 A) D G A 7 0 0 43 L [] [(h0, ob 10 f), (oW, ob 7 fW), (oP, ob 4 (uF (uF (uF fP 6 (iv pw)) 7 (iv nw)) 8 (iv kw))), (aA, ar 1206 Aw), (aT, ar 180 Tw), (aW, ar 6 Ww), (aS, ar 30 Sw), (oS, ob 5 fS), (aB, ar 6 B), (aF, ar 6 Fo), (aH, ar 6 Ho), (aL, ar 6 Lt), (oT, ob 5 (uF (uF (uF (uF fT 0 (iv pl)) 1 (iv n)) 2 (iv ec)) 3 (iv mk))), (tB, ar 6 B2_17), (tF, ar 6 F2_18), (tH, ar 6 Hv), (tL, ar 6 L2_20)] := by
          intro N
          induction N with
          | zero =>
            intro sp Hv Aw Tw Ww Sw pw nw kw L43 hsp hHv hno hL43_0 hL43_1 hL43_2 hL43_3 hL43_4 hN43
            exfalso; omega
          | succ N ih43 =>
            intro sp Hv Aw Tw Ww Sw pw nw kw L43 hsp hHv hno hL43_0 hL43_1 hL43_2 hL43_3 hL43_4 hN43
            refine S_iload X dX11_tune_43 hL43_4 ?_
            refine S_bipush X dX11_tune_45 rfl ?_
            refine S_icmp_gt (tgt := 145) X dX11_tune_47 (by decide) (by omega) (by decide) (fun c_27 => ?_) (fun c_27 => ?_)
            ·
              refine S_iconst X dX11_tune_145 ?_
              exact S_iret X (nle rfl) (nle rfl) dX11_tune_146 (hPo _ _ (⟨_, _, _, _, _, _, _, _, _, _, _, _, _, _, _, _, rfl, rfl, Or.inr ⟨by omega, by omega, Or.inl ⟨fun h h0 h1 => hno h h0 h1 (by have := stepOf_e own h; omega), rfl⟩⟩⟩))
            ·
              refine S_iload X dX11_tune_50 hL43_4 ?_
              refine S_iconst X dX11_tune_52 ?_
              refine S_irem X (by omega) (by decide) (by decide) dX11_tune_53 ?_
              have htm := Int.tmod_eq_emod_of_nonneg (a := sp) (b := 2) (by omega)
              refine S_if_ne (tgt := 66) X dX11_tune_54 (by decide) (by omega) (fun c_28 => ?_) (fun c_28 => ?_)
              ·
                refine S_iload_n X dX11_tune_66 rfl hL43_3 ?_
                refine S_iload X dX11_tune_67 hL43_4 ?_
                refine S_iconst X dX11_tune_69 ?_
                refine S_iadd X dX11_tune_70 ?_
                refine S_iconst X dX11_tune_71 ?_
                refine S_idiv X (by omega) (by decide) (by decide) dX11_tune_72 ?_
                refine S_isub X dX11_tune_73 ?_
                refine S_istore X dX11_tune_74 (nle rfl) ?_
                have htd := Int.tdiv_eq_ediv_of_nonneg (a := sp) (b := 2) (by omega)
                have htd1 := Int.tdiv_eq_ediv_of_nonneg (a := sp + 1) (b := 2) (by omega)
                obtain ⟨hw, hhw⟩ : ∃ z9, z9 = own - ((sp + 1).tdiv 2) := ⟨_, rfl⟩
                rw [← hhw]
                have hhs : stepOf own hw = sp := by have := stepOf_e own hw; omega
                refine S_iload X dX11_tune_76 rfl ?_
                refine S_if_lt (tgt := 139) X dX11_tune_78 (by decide) (by omega) (fun c_29 => ?_) (fun c_29 => ?_)
                ·
                  refine S_iinc X dX11_tune_139 (nle rfl) hL43_4 ?_
                  refine S_goto (tgt := 43) X dX11_tune_142 (by decide) ?_
                  exact ih43 (sp + 1) Hv Aw Tw Ww Sw pw nw kw _ (by omega) (fun x => by first | (rw [uZ_twice]; exact hHv x) | exact hHv x) (tu_out (P := fun k => WO pl n ec mk Fo (uZ Ho q k) B Lt) hno hhs (by omega)) hL43_0 hL43_1 hL43_2 hL43_3 rfl (by omega)
                ·
                  refine S_iload X dX11_tune_81 rfl ?_
                  refine S_bipush X dX11_tune_83 rfl ?_
                  refine S_icmp_gt (tgt := 139) X dX11_tune_85 (by decide) (by omega) (by decide) (fun c_30 => ?_) (fun c_30 => ?_)
                  ·
                    refine S_iinc X dX11_tune_139 (nle rfl) hL43_4 ?_
                    refine S_goto (tgt := 43) X dX11_tune_142 (by decide) ?_
                    exact ih43 (sp + 1) Hv Aw Tw Ww Sw pw nw kw _ (by omega) (fun x => by first | (rw [uZ_twice]; exact hHv x) | exact hHv x) (tu_out (P := fun k => WO pl n ec mk Fo (uZ Ho q k) B Lt) hno hhs (by omega)) hL43_0 hL43_1 hL43_2 hL43_3 rfl (by omega)
                  ·
                    refine S_aload_n X dX11_tune_88 rfl hL43_0 ?_
                    refine S_get X fgX11_63_10 0 rfl hf3 dX11_tune_89 ?_
                    refine S_get X fgX11_171_5 12 rfl hf19 dX11_tune_92 ?_
                    refine S_iload_n X dX11_tune_95 rfl hL43_1 ?_
                    refine S_iload X dX11_tune_96 rfl ?_
                    refine S_iast X 15 rfl (by omega) (by omega) (nle rfl) dX11_tune_98 ?_
                    refine S_w (ws' := [(h0, ob 10 f), (oW, ob 7 fW), (oP, ob 4 (uF (uF (uF fP 6 (iv pw)) 7 (iv nw)) 8 (iv kw))), (aA, ar 1206 Aw), (aT, ar 180 Tw), (aW, ar 6 Ww), (aS, ar 30 Sw), (oS, ob 5 fS), (aB, ar 6 B), (aF, ar 6 Fo), (aH, ar 6 Ho), (aL, ar 6 Lt), (oT, ob 5 (uF (uF (uF (uF fT 0 (iv pl)) 1 (iv n)) 2 (iv ec)) 3 (iv mk))), (tB, ar 6 B2_17), (tF, ar 6 F2_18), (tH, ar 6 (uZ Hv q hw)), (tL, ar 6 L2_20)]) rfl ?_
                    refine S_aload_n X dX11_tune_99 rfl hL43_0 ?_
                    refine S_get X fgX11_69_10 0 rfl hf2 dX11_tune_100 ?_
                    refine S_aload_n X dX11_tune_103 rfl hL43_0 ?_
                    refine S_get X fgX11_63_10 0 rfl hf3 dX11_tune_104 ?_
                    refine S_aload_n X dX11_tune_107 rfl hL43_0 ?_
                    refine S_get X fgX11_89_10 0 rfl hf21 dX11_tune_108 ?_
                    refine S_iconst X dX11_tune_111 ?_
                    refine S_iadd X dX11_tune_112 ?_
                    refine S_calli X (kX4_perform l fP (uF (uF (uF (uF fT 0 (iv pl)) 1 (iv n)) 2 (iv ec)) 3 (iv mk)) pl n ec mk oP oT aA aT aW aS tB tF tH tL Aw Tw Ww Sw B2_17 F2_18 (uZ Hv q hw) L2_20 pw nw kw (lim + 1) hf5 hf6 hf7 hf8 rfl rfl rfl rfl hf17 hf18 hf19 hf20 (by rw [hHv]; exact (hok.ho (p := q) (v := hw) (by omega)).c (te_H hte)) (by omega)) (is := [2, 3, 4, 5, 6, 12, 13, 14, 15, 16]) rfl (run_V X lkX11_235 2 rfl rfl (is := [2, 3, 4, 5, 6, 12, 13, 14, 15, 16]) (avs := [rv oT, iv (lim + 1)]) (rest := []) rfl rfl (nle rfl) ⟨nle rfl, nle rfl⟩ ⟨nle rfl, nle rfl⟩ dX11_tune_113 (by decide) rfl) (fun z_33 u_31 hp_32 => ?_)
                    rcases hp_32 with ⟨A2_34, T2_35, W2_36, S2_37, hz_38, hu_39, hq_40⟩ | ⟨A2_41, T2_42, W2_43, S2_44, hz_45, hu_46, hq_47, hA2_48, hT2_49, hS2_50⟩
                    ·
                      subst hz_38
                      subst hu_39
                      refine ⟨rfl, ?_⟩
                      refine S_w (ws' := [(h0, ob 10 f), (oW, ob 7 fW), (oP, ob 4 (uF (uF (uF fP 6 (iv pl)) 7 (iv n)) 8 (iv mk))), (aA, ar 1206 A2_34), (aT, ar 180 T2_35), (aW, ar 6 W2_36), (aS, ar 30 S2_37), (oS, ob 5 fS), (aB, ar 6 B), (aF, ar 6 Fo), (aH, ar 6 Ho), (aL, ar 6 Lt), (oT, ob 5 (uF (uF (uF (uF fT 0 (iv pl)) 1 (iv n)) 2 (iv ec)) 3 (iv mk))), (tB, ar 6 B2_17), (tF, ar 6 F2_18), (tH, ar 6 (uZ Hv q hw)), (tL, ar 6 L2_20)]) rfl ?_
                      have hcu : lim + 1 ≤ WO pl n ec mk Fo (uZ Ho q hw) B Lt := by have h9 := hq_40; rw [hHv] at h9; rwa [← WO_c (hok.ho (p := q) (v := hw) (by omega)) (te_H hte)] at h9
                      refine S_istore X dX11_tune_116 (nle rfl) ?_
                      refine S_iload X dX11_tune_118 rfl ?_
                      refine S_aload_n X dX11_tune_120 rfl hL43_0 ?_
                      refine S_get X fgX11_89_10 0 rfl hf21 dX11_tune_121 ?_
                      refine S_icmp_gt (tgt := 139) X dX11_tune_124 (by decide) (by omega) (by omega) (fun c_51 => ?_) (fun c_51 => by exfalso; omega)
                      refine S_iinc X dX11_tune_139 (nle rfl) hL43_4 ?_
                      refine S_goto (tgt := 43) X dX11_tune_142 (by decide) ?_
                      exact ih43 (sp + 1) (uZ Hv q hw) A2_34 T2_35 W2_36 S2_37 pl n mk _ (by omega) (fun x => by first | (rw [uZ_twice]; exact hHv x) | exact hHv x) (tu_no (P := fun k => WO pl n ec mk Fo (uZ Ho q k) B Lt) hno hhs (by omega)) hL43_0 hL43_1 hL43_2 hL43_3 rfl (by omega)
                    ·
                      subst hz_45
                      subst hu_46
                      refine ⟨rfl, ?_⟩
                      refine S_w (ws' := [(h0, ob 10 f), (oW, ob 7 fW), (oP, ob 4 (uF (uF (uF fP 6 (iv pl)) 7 (iv n)) 8 (iv mk))), (aA, ar 1206 A2_41), (aT, ar 180 T2_42), (aW, ar 6 W2_43), (aS, ar 30 S2_44), (oS, ob 5 fS), (aB, ar 6 B), (aF, ar 6 Fo), (aH, ar 6 Ho), (aL, ar 6 Lt), (oT, ob 5 (uF (uF (uF (uF fT 0 (iv pl)) 1 (iv n)) 2 (iv ec)) 3 (iv mk))), (tB, ar 6 B2_17), (tF, ar 6 F2_18), (tH, ar 6 (uZ Hv q hw)), (tL, ar 6 L2_20)]) rfl ?_
                      have hv1 : WO pl n ec mk F2_18 (uZ Hv q hw) B2_17 L2_20 = WO pl n ec mk Fo (uZ Ho q hw) B Lt := by rw [hHv]; exact (WO_c (hok.ho (p := q) (v := hw) (by omega)) (te_H hte)).symm
                      rw [hv1]
                      have hlo : WO pl n ec mk Fo (uZ Ho q hw) B Lt ≤ lim := by have h9 := hq_47; rw [hHv] at h9; rw [← WO_c (hok.ho (p := q) (v := hw) (by omega)) (te_H hte)] at h9; omega
                      have hwr := (hok.ho (p := q) (v := hw) (by omega)).worst (mk := mk)
                      refine S_istore X dX11_tune_116 (nle rfl) ?_
                      refine S_iload X dX11_tune_118 rfl ?_
                      refine S_aload_n X dX11_tune_120 rfl hL43_0 ?_
                      refine S_get X fgX11_89_10 0 rfl hf21 dX11_tune_121 ?_
                      refine S_icmp_gt (tgt := 139) X dX11_tune_124 (by decide) (by omega) (by omega) (fun c_52 => by exfalso; omega) (fun c_52 => ?_)
                      refine S_iload_n X dX11_tune_127 rfl hL43_2 ?_
                      refine S_if_ne (tgt := 136) X dX11_tune_128 (by decide) (by omega) (fun c_53 => ?_) (fun c_53 => ?_)
                      ·
                        refine S_iload X dX11_tune_136 rfl ?_
                        exact S_iret X (nle rfl) (nle rfl) dX11_tune_138 (hPo _ _ (⟨_, _, _, _, _, _, _, _, _, _, _, _, _, _, _, _, rfl, rfl, Or.inr ⟨by omega, by omega, Or.inr ⟨hw, by omega, by omega, hlo, by rw [← hown]; exact tu_best (P := fun k => WO pl n ec mk Fo (uZ Ho q k) B Lt) hno hhs, by rw [if_neg (by omega)]⟩⟩⟩))
                      ·
                        refine S_iload X dX11_tune_131 rfl ?_
                        refine S_goto (tgt := 138) X dX11_tune_133 (by decide) ?_
                        exact S_iret X (nle rfl) (nle rfl) dX11_tune_138 (hPo _ _ (⟨_, _, _, _, _, _, _, _, _, _, _, _, _, _, _, _, rfl, rfl, Or.inr ⟨by omega, by omega, Or.inr ⟨hw, by omega, by omega, hlo, by rw [← hown]; exact tu_best (P := fun k => WO pl n ec mk Fo (uZ Ho q k) B Lt) hno hhs, by rw [if_pos (by omega)]⟩⟩⟩))
              ·
                refine S_iload_n X dX11_tune_57 rfl hL43_3 ?_
                refine S_iload X dX11_tune_58 hL43_4 ?_
                refine S_iconst X dX11_tune_60 ?_
                refine S_idiv X (by omega) (by decide) (by decide) dX11_tune_61 ?_
                refine S_iadd X dX11_tune_62 ?_
                refine S_goto (tgt := 74) X dX11_tune_63 (by decide) ?_
                refine S_istore X dX11_tune_74 (nle rfl) ?_
                have htd := Int.tdiv_eq_ediv_of_nonneg (a := sp) (b := 2) (by omega)
                have htd1 := Int.tdiv_eq_ediv_of_nonneg (a := sp + 1) (b := 2) (by omega)
                obtain ⟨hw, hhw⟩ : ∃ z9, z9 = own + (sp.tdiv 2) := ⟨_, rfl⟩
                rw [← hhw]
                have hhs : stepOf own hw = sp := by have := stepOf_e own hw; omega
                refine S_iload X dX11_tune_76 rfl ?_
                refine S_if_lt (tgt := 139) X dX11_tune_78 (by decide) (by omega) (fun c_54 => ?_) (fun c_54 => ?_)
                ·
                  refine S_iinc X dX11_tune_139 (nle rfl) hL43_4 ?_
                  refine S_goto (tgt := 43) X dX11_tune_142 (by decide) ?_
                  exact ih43 (sp + 1) Hv Aw Tw Ww Sw pw nw kw _ (by omega) (fun x => by first | (rw [uZ_twice]; exact hHv x) | exact hHv x) (tu_out (P := fun k => WO pl n ec mk Fo (uZ Ho q k) B Lt) hno hhs (by omega)) hL43_0 hL43_1 hL43_2 hL43_3 rfl (by omega)
                ·
                  refine S_iload X dX11_tune_81 rfl ?_
                  refine S_bipush X dX11_tune_83 rfl ?_
                  refine S_icmp_gt (tgt := 139) X dX11_tune_85 (by decide) (by omega) (by decide) (fun c_55 => ?_) (fun c_55 => ?_)
                  ·
                    refine S_iinc X dX11_tune_139 (nle rfl) hL43_4 ?_
                    refine S_goto (tgt := 43) X dX11_tune_142 (by decide) ?_
                    exact ih43 (sp + 1) Hv Aw Tw Ww Sw pw nw kw _ (by omega) (fun x => by first | (rw [uZ_twice]; exact hHv x) | exact hHv x) (tu_out (P := fun k => WO pl n ec mk Fo (uZ Ho q k) B Lt) hno hhs (by omega)) hL43_0 hL43_1 hL43_2 hL43_3 rfl (by omega)
                  ·
                    refine S_aload_n X dX11_tune_88 rfl hL43_0 ?_
                    refine S_get X fgX11_63_10 0 rfl hf3 dX11_tune_89 ?_
                    refine S_get X fgX11_171_5 12 rfl hf19 dX11_tune_92 ?_
                    refine S_iload_n X dX11_tune_95 rfl hL43_1 ?_
                    refine S_iload X dX11_tune_96 rfl ?_
                    refine S_iast X 15 rfl (by omega) (by omega) (nle rfl) dX11_tune_98 ?_
                    refine S_w (ws' := [(h0, ob 10 f), (oW, ob 7 fW), (oP, ob 4 (uF (uF (uF fP 6 (iv pw)) 7 (iv nw)) 8 (iv kw))), (aA, ar 1206 Aw), (aT, ar 180 Tw), (aW, ar 6 Ww), (aS, ar 30 Sw), (oS, ob 5 fS), (aB, ar 6 B), (aF, ar 6 Fo), (aH, ar 6 Ho), (aL, ar 6 Lt), (oT, ob 5 (uF (uF (uF (uF fT 0 (iv pl)) 1 (iv n)) 2 (iv ec)) 3 (iv mk))), (tB, ar 6 B2_17), (tF, ar 6 F2_18), (tH, ar 6 (uZ Hv q hw)), (tL, ar 6 L2_20)]) rfl ?_
                    refine S_aload_n X dX11_tune_99 rfl hL43_0 ?_
                    refine S_get X fgX11_69_10 0 rfl hf2 dX11_tune_100 ?_
                    refine S_aload_n X dX11_tune_103 rfl hL43_0 ?_
                    refine S_get X fgX11_63_10 0 rfl hf3 dX11_tune_104 ?_
                    refine S_aload_n X dX11_tune_107 rfl hL43_0 ?_
                    refine S_get X fgX11_89_10 0 rfl hf21 dX11_tune_108 ?_
                    refine S_iconst X dX11_tune_111 ?_
                    refine S_iadd X dX11_tune_112 ?_
                    refine S_calli X (kX4_perform l fP (uF (uF (uF (uF fT 0 (iv pl)) 1 (iv n)) 2 (iv ec)) 3 (iv mk)) pl n ec mk oP oT aA aT aW aS tB tF tH tL Aw Tw Ww Sw B2_17 F2_18 (uZ Hv q hw) L2_20 pw nw kw (lim + 1) hf5 hf6 hf7 hf8 rfl rfl rfl rfl hf17 hf18 hf19 hf20 (by rw [hHv]; exact (hok.ho (p := q) (v := hw) (by omega)).c (te_H hte)) (by omega)) (is := [2, 3, 4, 5, 6, 12, 13, 14, 15, 16]) rfl (run_V X lkX11_235 2 rfl rfl (is := [2, 3, 4, 5, 6, 12, 13, 14, 15, 16]) (avs := [rv oT, iv (lim + 1)]) (rest := []) rfl rfl (nle rfl) ⟨nle rfl, nle rfl⟩ ⟨nle rfl, nle rfl⟩ dX11_tune_113 (by decide) rfl) (fun z_58 u_56 hp_57 => ?_)
                    rcases hp_57 with ⟨A2_59, T2_60, W2_61, S2_62, hz_63, hu_64, hq_65⟩ | ⟨A2_66, T2_67, W2_68, S2_69, hz_70, hu_71, hq_72, hA2_73, hT2_74, hS2_75⟩
                    ·
                      subst hz_63
                      subst hu_64
                      refine ⟨rfl, ?_⟩
                      refine S_w (ws' := [(h0, ob 10 f), (oW, ob 7 fW), (oP, ob 4 (uF (uF (uF fP 6 (iv pl)) 7 (iv n)) 8 (iv mk))), (aA, ar 1206 A2_59), (aT, ar 180 T2_60), (aW, ar 6 W2_61), (aS, ar 30 S2_62), (oS, ob 5 fS), (aB, ar 6 B), (aF, ar 6 Fo), (aH, ar 6 Ho), (aL, ar 6 Lt), (oT, ob 5 (uF (uF (uF (uF fT 0 (iv pl)) 1 (iv n)) 2 (iv ec)) 3 (iv mk))), (tB, ar 6 B2_17), (tF, ar 6 F2_18), (tH, ar 6 (uZ Hv q hw)), (tL, ar 6 L2_20)]) rfl ?_
                      have hcu : lim + 1 ≤ WO pl n ec mk Fo (uZ Ho q hw) B Lt := by have h9 := hq_65; rw [hHv] at h9; rwa [← WO_c (hok.ho (p := q) (v := hw) (by omega)) (te_H hte)] at h9
                      refine S_istore X dX11_tune_116 (nle rfl) ?_
                      refine S_iload X dX11_tune_118 rfl ?_
                      refine S_aload_n X dX11_tune_120 rfl hL43_0 ?_
                      refine S_get X fgX11_89_10 0 rfl hf21 dX11_tune_121 ?_
                      refine S_icmp_gt (tgt := 139) X dX11_tune_124 (by decide) (by omega) (by omega) (fun c_76 => ?_) (fun c_76 => by exfalso; omega)
                      refine S_iinc X dX11_tune_139 (nle rfl) hL43_4 ?_
                      refine S_goto (tgt := 43) X dX11_tune_142 (by decide) ?_
                      exact ih43 (sp + 1) (uZ Hv q hw) A2_59 T2_60 W2_61 S2_62 pl n mk _ (by omega) (fun x => by first | (rw [uZ_twice]; exact hHv x) | exact hHv x) (tu_no (P := fun k => WO pl n ec mk Fo (uZ Ho q k) B Lt) hno hhs (by omega)) hL43_0 hL43_1 hL43_2 hL43_3 rfl (by omega)
                    ·
                      subst hz_70
                      subst hu_71
                      refine ⟨rfl, ?_⟩
                      refine S_w (ws' := [(h0, ob 10 f), (oW, ob 7 fW), (oP, ob 4 (uF (uF (uF fP 6 (iv pl)) 7 (iv n)) 8 (iv mk))), (aA, ar 1206 A2_66), (aT, ar 180 T2_67), (aW, ar 6 W2_68), (aS, ar 30 S2_69), (oS, ob 5 fS), (aB, ar 6 B), (aF, ar 6 Fo), (aH, ar 6 Ho), (aL, ar 6 Lt), (oT, ob 5 (uF (uF (uF (uF fT 0 (iv pl)) 1 (iv n)) 2 (iv ec)) 3 (iv mk))), (tB, ar 6 B2_17), (tF, ar 6 F2_18), (tH, ar 6 (uZ Hv q hw)), (tL, ar 6 L2_20)]) rfl ?_
                      have hv1 : WO pl n ec mk F2_18 (uZ Hv q hw) B2_17 L2_20 = WO pl n ec mk Fo (uZ Ho q hw) B Lt := by rw [hHv]; exact (WO_c (hok.ho (p := q) (v := hw) (by omega)) (te_H hte)).symm
                      rw [hv1]
                      have hlo : WO pl n ec mk Fo (uZ Ho q hw) B Lt ≤ lim := by have h9 := hq_72; rw [hHv] at h9; rw [← WO_c (hok.ho (p := q) (v := hw) (by omega)) (te_H hte)] at h9; omega
                      have hwr := (hok.ho (p := q) (v := hw) (by omega)).worst (mk := mk)
                      refine S_istore X dX11_tune_116 (nle rfl) ?_
                      refine S_iload X dX11_tune_118 rfl ?_
                      refine S_aload_n X dX11_tune_120 rfl hL43_0 ?_
                      refine S_get X fgX11_89_10 0 rfl hf21 dX11_tune_121 ?_
                      refine S_icmp_gt (tgt := 139) X dX11_tune_124 (by decide) (by omega) (by omega) (fun c_77 => by exfalso; omega) (fun c_77 => ?_)
                      refine S_iload_n X dX11_tune_127 rfl hL43_2 ?_
                      refine S_if_ne (tgt := 136) X dX11_tune_128 (by decide) (by omega) (fun c_78 => ?_) (fun c_78 => ?_)
                      ·
                        refine S_iload X dX11_tune_136 rfl ?_
                        exact S_iret X (nle rfl) (nle rfl) dX11_tune_138 (hPo _ _ (⟨_, _, _, _, _, _, _, _, _, _, _, _, _, _, _, _, rfl, rfl, Or.inr ⟨by omega, by omega, Or.inr ⟨hw, by omega, by omega, hlo, by rw [← hown]; exact tu_best (P := fun k => WO pl n ec mk Fo (uZ Ho q k) B Lt) hno hhs, by rw [if_neg (by omega)]⟩⟩⟩))
                      ·
                        refine S_iload X dX11_tune_131 rfl ?_
                        refine S_goto (tgt := 138) X dX11_tune_133 (by decide) ?_
                        exact S_iret X (nle rfl) (nle rfl) dX11_tune_138 (hPo _ _ (⟨_, _, _, _, _, _, _, _, _, _, _, _, _, _, _, _, rfl, rfl, Or.inr ⟨by omega, by omega, Or.inr ⟨hw, by omega, by omega, hlo, by rw [← hown]; exact tu_best (P := fun k => WO pl n ec mk Fo (uZ Ho q k) B Lt) hno hhs, by rw [if_pos (by omega)]⟩⟩⟩))
        exact lp43_3 (Int.toNat (22 - 0) + 1) 0 H2_19 Ab Tm Wq Sp p0 n0 k0 _ (by omega) (fun x => rfl) (fun k h0 h1 h2 => by exfalso; have := stepOf_e own k; omega) rfl rfl rfl rfl rfl (by omega)
      ·
        refine S_iconst X dX11_tune_17 ?_
        exact S_iret X (nle rfl) (nle rfl) dX11_tune_18 (hPo _ _ (⟨_, _, _, _, _, _, _, _, _, _, _, _, _, _, _, _, rfl, rfl, Or.inl ⟨by omega, rfl⟩⟩))
end pt_69cf3
/- 70.cf4.lean.txt -/
section pt_70cf4
def t3a (To : Int → Int) : Int → Int := fun k => To (k * 3)
def t3b (To : Int → Int) : Int → Int := fun k => To (k * 3 + 1)
def t3c (To : Int → Int) : Int → Int := fun k => To (k * 3 + 2)
theorem fb_nb2 {pl n ec mk rl q f st : Int} {Fo Ho B0 Lt P1 B1 T1 : Int → Int} (hf : -1 ≤ f) (h : (f = -1 ∧ st = 0) ∨ (0 ≤ f ∧ st = fiB pl n ec mk Fo Ho B0 Lt rl P1 B1 T1 q f.toNat)) (e : f = -1) (hr : inR st) (hq : agB pl n ec mk Fo Ho B0 Lt rl P1 B1 T1 q f = true) : (f + 1 = -1 ∧ zOr st 64 = 0) ∨ (0 ≤ f + 1 ∧ zOr st 64 = fiB pl n ec mk Fo Ho B0 Lt rl P1 B1 T1 q (f + 1).toNat) := by
  have h9 : zShl 1 6 = 64 := by decide
  have := fb_nb hf h e hr hq
  rwa [h9] at this
set_option maxHeartbeats 4000000 in
set_option maxRecDepth 100000 in
theorem kX11_isToldSo (l : Launch) (h0 : Nat) (f : Nat → AV) (fP : Nat → AV) (fS : Nat → AV) (pl : Int) (n : Int) (ec : Int) (mk : Int) (oP : Nat) (oS : Nat) (aA : Nat) (aT : Nat) (aW : Nat) (aS : Nat) (aB : Nat) (aF : Nat) (aH : Nat) (aL : Nat) (Ab : Int → Int) (Tm : Int → Int) (Wq : Int → Int) (Sp : Int → Int) (B : Int → Int) (Fo : Int → Int) (Ho : Int → Int) (Lt : Int → Int) (p0 : Int) (n0 : Int) (k0 : Int) (hTo : Nat) (To : Int → Int) (rl : Int) (hf0 : f 9 = rv oP) (hf1 : f 8 = rv oS) (hf2 : f 6 = rv hTo) (hf3 : f 15 = iv rl) (hf4 : fP 0 = rv aA) (hf5 : fP 1 = rv aT) (hf6 : fP 2 = rv aW) (hf7 : fP 3 = rv aS) (hf8 : fS 0 = iv pl) (hf9 : fS 1 = iv n) (hf10 : fS 2 = iv ec) (hf11 : fS 3 = iv mk) (hf12 : fS 4 = rv aB) (hf13 : fS 5 = rv aF) (hf14 : fS 6 = rv aH) (hf15 : fS 7 = rv aL) (hok : okS pl n ec Fo Ho B Lt) (hto : 0 ≤ rl ∧ rl ≤ 20 ∧ ∀ k, 0 ≤ k → k < rl → (0 ≤ t3a To k ∧ t3a To k < pl) ∧ (0 ≤ t3b To k ∧ t3b To k ≤ 29) ∧ (0 ≤ t3c To k ∧ t3c To k ≤ 9999)) : AMi l yX11_isToldSo cX11_isToldSo 4 .boolean 4 0 0 [rv h0] [(h0, ob 10 f), (oP, ob 4 (uF (uF (uF fP 6 (iv p0)) 7 (iv n0)) 8 (iv k0))), (aA, ar 1206 Ab), (aT, ar 180 Tm), (aW, ar 6 Wq), (aS, ar 30 Sp), (oS, ob 5 fS), (aB, ar 6 B), (aF, ar 6 Fo), (aH, ar 6 Ho), (aL, ar 6 Lt), (hTo, ar 60 To)] (fun z u => (∃ A2 : Int → Int, ∃ T2 : Int → Int, ∃ W2 : Int → Int, ∃ S2 : Int → Int, z = 0 ∧ u = [(h0, ob 10 f), (oP, ob 4 (uF (uF (uF fP 6 (iv pl)) 7 (iv n)) 8 (iv mk))), (aA, ar 1206 A2), (aT, ar 180 T2), (aW, ar 6 W2), (aS, ar 30 S2), (oS, ob 5 fS), (aB, ar 6 B), (aF, ar 6 Fo), (aH, ar 6 Ho), (aL, ar 6 Lt), (hTo, ar 60 To)] ∧ (¬ (∀ k, 0 ≤ k → k < rl → t3b To k < n ∧ wS pl ec mk Fo Ho B Lt (t3b To k) (t3a To k) = t3c To k))) ∨ (∃ A2 : Int → Int, ∃ T2 : Int → Int, ∃ W2 : Int → Int, ∃ S2 : Int → Int, z = 1 ∧ u = [(h0, ob 10 f), (oP, ob 4 (uF (uF (uF fP 6 (iv pl)) 7 (iv n)) 8 (iv mk))), (aA, ar 1206 A2), (aT, ar 180 T2), (aW, ar 6 W2), (aS, ar 30 S2), (oS, ob 5 fS), (aB, ar 6 B), (aF, ar 6 Fo), (aH, ar 6 Ho), (aL, ar 6 Lt), (hTo, ar 60 To)] ∧ (∀ k, 0 ≤ k → k < rl → t3b To k < n ∧ wS pl ec mk Fo Ho B Lt (t3b To k) (t3a To k) = t3c To k))) := by
  refine AMi.of2 rfl (nle rfl) ?_
  intro D G A p e s m args below meth c Po hPo X
  have hpl := hok.2.1
  have hpl1 := hok.1
  have hn1 := hok.2.2.1
  have hn2 := hok.2.2.2.1
  have hec := hok.2.2.2.2
  have hto1 := hto.1
  have hto2 := hto.2.1
  refine S_aload_n X dX11_isToldSo_0 rfl rfl ?_
  refine S_get X fgX11_69_10 0 rfl hf0 dX11_isToldSo_1 ?_
  refine S_aload_n X dX11_isToldSo_4 rfl rfl ?_
  refine S_get X fgX11_63_10 0 rfl hf1 dX11_isToldSo_5 ?_
  refine S_ldc (n := 1000000000) X m813 dX11_isToldSo_8 ?_
  refine S_calli X (kX4_performE l fP fS pl n ec mk oP oS aA aT aW aS aB aF aH aL Ab Tm Wq Sp B Fo Ho Lt p0 n0 k0 hf4 hf5 hf6 hf7 hf8 hf9 hf10 hf11 hf12 hf13 hf14 hf15 (by omega)) (is := [1, 2, 3, 4, 5, 6, 7, 8, 9, 10]) rfl (run_V X lkX11_235 1 rfl rfl (is := [1, 2, 3, 4, 5, 6, 7, 8, 9, 10]) (avs := [rv oS, iv 1000000000]) (rest := []) rfl rfl (nle rfl) ⟨nle rfl, nle rfl⟩ ⟨nle rfl, nle rfl⟩ dX11_isToldSo_10 (by decide) rfl) (fun z_3 u_1 hp_2 => ?_)
  obtain ⟨A2_4, T2_5, W2_6, S2_7, hz_8, hu_9, hq_10, hA2_11, hT2_12, hS2_13⟩ := hp_2
  subst hz_8
  subst hu_9
  refine ⟨rfl, ?_⟩
  refine S_w (ws' := [(h0, ob 10 f), (oP, ob 4 (uF (uF (uF fP 6 (iv pl)) 7 (iv n)) 8 (iv mk))), (aA, ar 1206 A2_4), (aT, ar 180 T2_5), (aW, ar 6 W2_6), (aS, ar 30 S2_7), (oS, ob 5 fS), (aB, ar 6 B), (aF, ar 6 Fo), (aH, ar 6 Ho), (aL, ar 6 Lt), (hTo, ar 60 To)]) rfl ?_
  have hTL := hT2_12
  refine S_pop X dX11_isToldSo_13 ?_
  refine S_iconst X dX11_isToldSo_14 ?_
  refine S_istore_n X dX11_isToldSo_15 rfl (nle rfl) ?_
  have lp16_0 : ∀ (N : Nat) (k : Int) (L : Nat → Option AV), 0 ≤ k ∧ k ≤ rl → (∀ x, 0 ≤ x → x < k → t3b To x < n ∧ wS pl ec mk Fo Ho B Lt (t3b To x) (t3a To x) = t3c To x) → L 0 = some (rv h0) → L 1 = some (iv k) → rl + 1 - k < (N : Int) → S_ p l e (rmD 4 0 0) s m args below meth c (MQ below (QcI D G A Po) args s 0 0 A) D G A 4 0 0 16 L [] [(h0, ob 10 f), (oP, ob 4 (uF (uF (uF fP 6 (iv pl)) 7 (iv n)) 8 (iv mk))), (aA, ar 1206 A2_4), (aT, ar 180 T2_5), (aW, ar 6 W2_6), (aS, ar 30 S2_7), (oS, ob 5 fS), (aB, ar 6 B), (aF, ar 6 Fo), (aH, ar 6 Ho), (aL, ar 6 Lt), (hTo, ar 60 To)] := by
    intro N
    induction N with
    | zero =>
      intro k L16 hk hag hL16_0 hL16_1 hN16
      exfalso; omega
    | succ N ih16 =>
      intro k L16 hk hag hL16_0 hL16_1 hN16
      refine S_iload_n X dX11_isToldSo_16 rfl hL16_1 ?_
      refine S_aload_n X dX11_isToldSo_17 rfl hL16_0 ?_
      refine S_get X fgX11_137_10 0 rfl hf3 dX11_isToldSo_18 ?_
      refine S_icmp_ge (tgt := 87) X dX11_isToldSo_21 (by decide) (by omega) (by omega) (fun c_14 => ?_) (fun c_14 => ?_)
      ·
        refine S_iconst X dX11_isToldSo_87 ?_
        exact S_zret X (Or.inr rfl) (nle rfl) (nle rfl) dX11_isToldSo_88 (hPo _ _ (Or.inr ⟨_, _, _, _, rfl, rfl, fun x h0 h1 => hag x h0 (by omega)⟩))
      ·
        refine S_iload_n X dX11_isToldSo_24 rfl hL16_1 ?_
        refine S_bipush X dX11_isToldSo_25 rfl ?_
        refine S_icmp_ge (tgt := 87) X dX11_isToldSo_27 (by decide) (by omega) (by decide) (fun c_15 => by exfalso; omega) (fun c_15 => ?_)
        have hr9 := hto.2.2 k (by omega) (by omega)
        unfold t3a t3b t3c at hr9
        refine S_iload_n X dX11_isToldSo_30 rfl hL16_1 ?_
        refine S_iconst X dX11_isToldSo_31 ?_
        refine S_imul X dX11_isToldSo_32 ?_
        refine S_istore_n X dX11_isToldSo_33 rfl (nle rfl) ?_
        refine S_aload_n X dX11_isToldSo_34 rfl hL16_0 ?_
        refine S_get X fgX11_52_10 0 rfl hf2 dX11_isToldSo_35 ?_
        refine S_iload_n X dX11_isToldSo_38 rfl rfl ?_
        refine S_iconst X dX11_isToldSo_39 ?_
        refine S_iadd X dX11_isToldSo_40 ?_
        refine S_iald X 11 rfl (by omega) (by omega) (nle rfl) dX11_isToldSo_41 ?_
        refine S_istore_n X dX11_isToldSo_42 rfl (nle rfl) ?_
        refine S_iload_n X dX11_isToldSo_43 rfl rfl ?_
        refine S_aload_n X dX11_isToldSo_44 rfl hL16_0 ?_
        refine S_get X fgX11_63_10 0 rfl hf1 dX11_isToldSo_45 ?_
        refine S_get X fgX11_182_5 6 rfl hf9 dX11_isToldSo_48 ?_
        refine S_icmp_ge (tgt := 79) X dX11_isToldSo_51 (by decide) (by omega) (by omega) (fun c_16 => ?_) (fun c_16 => ?_)
        ·
          refine S_iconst X dX11_isToldSo_79 ?_
          exact S_zret X (Or.inl rfl) (nle rfl) (nle rfl) dX11_isToldSo_80 (hPo _ _ (Or.inl ⟨_, _, _, _, rfl, rfl, fun h9 => by have := h9 k (by omega) (by omega); unfold t3a t3b t3c at this; omega⟩))
        ·
          refine S_aload_n X dX11_isToldSo_54 rfl hL16_0 ?_
          refine S_get X fgX11_69_10 0 rfl hf0 dX11_isToldSo_55 ?_
          refine S_aload_n X dX11_isToldSo_58 rfl hL16_0 ?_
          refine S_get X fgX11_52_10 0 rfl hf2 dX11_isToldSo_59 ?_
          refine S_iload_n X dX11_isToldSo_62 rfl rfl ?_
          refine S_iald X 11 rfl (by omega) (by omega) (nle rfl) dX11_isToldSo_63 ?_
          refine S_iload_n X dX11_isToldSo_64 rfl rfl ?_
          have hwr := hok.wait (mk := mk) (To (k * 3 + 1)) (To (k * 3)) (by omega) (by omega) (by omega)
          refine S_calli X (kX4_behindWaiting l (uF (uF (uF fP 6 (iv pl)) 7 (iv n)) 8 (iv mk)) pl n ec mk oP aT T2_5 B Fo Ho Lt (To (k * 3)) (To ((k * 3) + 1)) hf5 rfl rfl hok hTL (by omega) (by omega)) (is := [1, 3]) rfl (run_V X lkX11_243 1 rfl rfl (is := [1, 3]) (avs := [iv (To (k * 3)), iv (To ((k * 3) + 1))]) (rest := []) rfl rfl (nle rfl) ⟨nle rfl, nle rfl⟩ ⟨nle rfl, nle rfl⟩ dX11_isToldSo_65 (by decide) rfl) (fun z_19 u_17 hp_18 => ?_)
          obtain ⟨hz_20, hu_21⟩ := hp_18
          subst hz_20
          subst hu_21
          refine ⟨rfl, ?_⟩
          refine S_w (ws' := [(h0, ob 10 f), (oP, ob 4 (uF (uF (uF fP 6 (iv pl)) 7 (iv n)) 8 (iv mk))), (aA, ar 1206 A2_4), (aT, ar 180 T2_5), (aW, ar 6 W2_6), (aS, ar 30 S2_7), (oS, ob 5 fS), (aB, ar 6 B), (aF, ar 6 Fo), (aH, ar 6 Ho), (aL, ar 6 Lt), (hTo, ar 60 To)]) rfl ?_
          refine S_aload_n X dX11_isToldSo_68 rfl hL16_0 ?_
          refine S_get X fgX11_52_10 0 rfl hf2 dX11_isToldSo_69 ?_
          refine S_iload_n X dX11_isToldSo_72 rfl rfl ?_
          refine S_iconst X dX11_isToldSo_73 ?_
          refine S_iadd X dX11_isToldSo_74 ?_
          refine S_iald X 11 rfl (by omega) (by omega) (nle rfl) dX11_isToldSo_75 ?_
          refine S_icmp_eq (tgt := 81) X dX11_isToldSo_76 (by decide) (by omega) (by omega) (fun c_22 => ?_) (fun c_22 => ?_)
          ·
            refine S_iinc X dX11_isToldSo_81 (nle rfl) hL16_1 ?_
            refine S_goto (tgt := 16) X dX11_isToldSo_84 (by decide) ?_
            exact ih16 (k + 1) _ (by omega) (fun x h0 h1 => (by omega : x < k ∨ x = k).elim (fun q9 => hag x h0 q9) (fun q9 => by subst q9; exact ⟨by unfold t3b; omega, by unfold t3a t3b t3c; omega⟩)) hL16_0 rfl (by omega)
          ·
            refine S_iconst X dX11_isToldSo_79 ?_
            exact S_zret X (Or.inl rfl) (nle rfl) (nle rfl) dX11_isToldSo_80 (hPo _ _ (Or.inl ⟨_, _, _, _, rfl, rfl, fun h9 => by have := h9 k (by omega) (by omega); unfold t3a t3b t3c at this; omega⟩))
  exact lp16_0 (Int.toNat (rl + 1 - 0) + 1) 0 _ (by omega) (fun x h0 h1 => by omega) rfl rfl (by omega)
set_option maxHeartbeats 4000000 in
set_option maxRecDepth 100000 in
theorem kX11_fits (l : Launch) (h0 : Nat) (f : Nat → AV) (oW : Nat) (fW : Nat → AV) (fP : Nat → AV) (fS : Nat → AV) (pl : Int) (n : Int) (ec : Int) (mk : Int) (oP : Nat) (oS : Nat) (aA : Nat) (aT : Nat) (aW : Nat) (aS : Nat) (aB : Nat) (aF : Nat) (aH : Nat) (aL : Nat) (Ab : Int → Int) (Tm : Int → Int) (Wq : Int → Int) (Sp : Int → Int) (B : Int → Int) (Fo : Int → Int) (Ho : Int → Int) (Lt : Int → Int) (p0 : Int) (n0 : Int) (k0 : Int) (q : Int) (oT : Nat) (tB : Nat) (tF : Nat) (tH : Nat) (tL : Nat) (fT : Nat → AV) (TB : Int → Int) (TF : Int → Int) (TH : Int → Int) (TL : Int → Int) (t0 : Int) (t1 : Int) (t2 : Int) (t3 : Int) (hTo : Nat) (To : Int → Int) (rl : Int) (hf0 : f 3 = rv oW) (hf1 : f 7 = rv oS) (hf2 : f 9 = rv oP) (hf3 : f 8 = rv oT) (hf4 : fW 0 = iv pl) (hf5 : fP 0 = rv aA) (hf6 : fP 1 = rv aT) (hf7 : fP 2 = rv aW) (hf8 : fP 3 = rv aS) (hf9 : fS 0 = iv pl) (hf10 : fS 1 = iv n) (hf11 : fS 2 = iv ec) (hf12 : fS 3 = iv mk) (hf13 : fS 4 = rv aB) (hf14 : fS 5 = rv aF) (hf15 : fS 6 = rv aH) (hf16 : fS 7 = rv aL) (hf17 : fT 4 = rv tB) (hf18 : fT 5 = rv tF) (hf19 : fT 6 = rv tH) (hf20 : fT 7 = rv tL) (hf21 : f 6 = rv hTo) (hf22 : f 15 = iv rl) (hz : okZ pl n ec Fo Ho B Lt) (hx_q : inR q) (hto : 0 ≤ rl ∧ rl ≤ 20 ∧ ∀ k, 0 ≤ k → k < rl → (0 ≤ t3a To k ∧ t3a To k < pl) ∧ (0 ≤ t3b To k ∧ t3b To k ≤ 29) ∧ (0 ≤ t3c To k ∧ t3c To k ≤ 9999)) : AMi l yX11_fits cX11_fits 4 .int 5 0 0 [rv h0, iv q] [(h0, ob 10 f), (oW, ob 7 fW), (oP, ob 4 (uF (uF (uF fP 6 (iv p0)) 7 (iv n0)) 8 (iv k0))), (aA, ar 1206 Ab), (aT, ar 180 Tm), (aW, ar 6 Wq), (aS, ar 30 Sp), (oS, ob 5 fS), (aB, ar 6 B), (aF, ar 6 Fo), (aH, ar 6 Ho), (aL, ar 6 Lt), (oT, ob 5 (uF (uF (uF (uF fT 0 (iv t0)) 1 (iv t1)) 2 (iv t2)) 3 (iv t3))), (tB, ar 6 TB), (tF, ar 6 TF), (tH, ar 6 TH), (tL, ar 6 TL), (hTo, ar 60 To)] (fun z u => ∃ p9 : Int, ∃ n9 : Int, ∃ k9 : Int, ∃ A2 : Int → Int, ∃ T2 : Int → Int, ∃ W2 : Int → Int, ∃ S2 : Int → Int, ∃ t4 : Int, ∃ t5 : Int, ∃ t6 : Int, ∃ t7 : Int, ∃ B3 : Int → Int, ∃ F3 : Int → Int, ∃ H3 : Int → Int, ∃ L3 : Int → Int, z = aFits pl n ec mk Fo Ho B Lt rl (t3a To) (t3b To) (t3c To) q ∧ u = [(h0, ob 10 f), (oW, ob 7 fW), (oP, ob 4 (uF (uF (uF fP 6 (iv p9)) 7 (iv n9)) 8 (iv k9))), (aA, ar 1206 A2), (aT, ar 180 T2), (aW, ar 6 W2), (aS, ar 30 S2), (oS, ob 5 fS), (aB, ar 6 B), (aF, ar 6 Fo), (aH, ar 6 Ho), (aL, ar 6 Lt), (oT, ob 5 (uF (uF (uF (uF fT 0 (iv t4)) 1 (iv t5)) 2 (iv t6)) 3 (iv t7))), (tB, ar 6 B3), (tF, ar 6 F3), (tH, ar 6 H3), (tL, ar 6 L3), (hTo, ar 60 To)]) := by
  refine AMi.of2 rfl (nle rfl) ?_
  intro D G A p e s m args below meth c Po hPo X
  have hz6 := hz.2.1
  have hz0 := hz.1
  have hzn := hz.2.2.1
  have hzm := hz.2.2.2.1
  have hze := hz.2.2.2.2
  refine S_aload_n X dX11_fits_0 rfl rfl ?_
  refine S_iload_n X dX11_fits_1 rfl rfl ?_
  refine S_calli X (kX11_isPlayer l h0 f oW fW pl q hf0 hf4 (by omega) (by omega)) (is := [0, 1]) rfl (run_V X lkX11_147 0 rfl rfl (is := [0, 1]) (avs := [iv q]) (rest := []) rfl rfl (nle rfl) ⟨nle rfl, nle rfl⟩ ⟨nle rfl, nle rfl⟩ dX11_fits_2 (by decide) rfl) (fun z_3 u_1 hp_2 => ?_)
  rcases hp_2 with ⟨hz_4, hu_5, hp_6⟩ | ⟨hz_7, hu_8, hp_9⟩
  ·
    subst hz_4
    subst hu_5
    refine ⟨rfl, ?_⟩
    refine S_w (ws' := [(h0, ob 10 f), (oW, ob 7 fW), (oP, ob 4 (uF (uF (uF fP 6 (iv p0)) 7 (iv n0)) 8 (iv k0))), (aA, ar 1206 Ab), (aT, ar 180 Tm), (aW, ar 6 Wq), (aS, ar 30 Sp), (oS, ob 5 fS), (aB, ar 6 B), (aF, ar 6 Fo), (aH, ar 6 Ho), (aL, ar 6 Lt), (oT, ob 5 (uF (uF (uF (uF fT 0 (iv t0)) 1 (iv t1)) 2 (iv t2)) 3 (iv t3))), (tB, ar 6 TB), (tF, ar 6 TF), (tH, ar 6 TH), (tL, ar 6 TL), (hTo, ar 60 To)]) rfl ?_
    refine S_if_ne (tgt := 10) X dX11_fits_5 (by decide) (by decide) (fun h9 => absurd h9 (by decide)) (fun _ => ?_)
    refine S_iconst X dX11_fits_8 ?_
    exact S_iret X (nle rfl) (nle rfl) dX11_fits_9 (hPo _ _ (⟨_, _, _, _, _, _, _, _, _, _, _, _, _, _, _, by unfold aFits; rw [if_neg (by omega)], rfl⟩))
  ·
    subst hz_7
    subst hu_8
    refine ⟨rfl, ?_⟩
    refine S_w (ws' := [(h0, ob 10 f), (oW, ob 7 fW), (oP, ob 4 (uF (uF (uF fP 6 (iv p0)) 7 (iv n0)) 8 (iv k0))), (aA, ar 1206 Ab), (aT, ar 180 Tm), (aW, ar 6 Wq), (aS, ar 30 Sp), (oS, ob 5 fS), (aB, ar 6 B), (aF, ar 6 Fo), (aH, ar 6 Ho), (aL, ar 6 Lt), (oT, ob 5 (uF (uF (uF (uF fT 0 (iv t0)) 1 (iv t1)) 2 (iv t2)) 3 (iv t3))), (tB, ar 6 TB), (tF, ar 6 TF), (tH, ar 6 TH), (tL, ar 6 TL), (hTo, ar 60 To)]) rfl ?_
    refine S_if_ne (tgt := 10) X dX11_fits_5 (by decide) (by decide) (fun _ => ?_) (fun h9 => absurd h9 (by decide))
    have hok := hz.s (by omega)
    have hpl := hok.2.1
    have hpl1 := hok.1
    have hn1 := hok.2.2.1
    have hn2 := hok.2.2.2.1
    have hec := hok.2.2.2.2
    refine S_aload_n X dX11_fits_10 rfl rfl ?_
    refine S_get X fgX11_63_10 0 rfl hf3 dX11_fits_11 ?_
    refine S_aload_n X dX11_fits_14 rfl rfl ?_
    refine S_get X fgX11_59_10 0 rfl hf1 dX11_fits_15 ?_
    refine S_callv X (kX6_copyFrom l fS pl n ec mk oS aB aF aH aL B Fo Ho Lt oT tB tF tH tL fT TB TF TH TL t0 t1 t2 t3 hf9 hf10 hf11 hf12 hf13 hf14 hf15 hf16 hf17 hf18 hf19 hf20) (is := [12, 13, 14, 15, 16, 7, 8, 9, 10, 11]) rfl (run_V X lkX11_289 12 rfl rfl (is := [12, 13, 14, 15, 16, 7, 8, 9, 10, 11]) (avs := [rv oS]) (rest := []) rfl rfl (nle rfl) ⟨nle rfl, nle rfl⟩ ⟨nle rfl, nle rfl⟩ dX11_fits_18 (by decide) rfl) (fun u_12 hp_13 => ?_)
    obtain ⟨B2_15, F2_16, H2_17, L2_18, hu_20, hB2_21, hF2_22, hH2_23, hL2_24⟩ := hp_13
    subst hu_20
    refine ⟨rfl, ?_⟩
    refine S_w (ws' := [(h0, ob 10 f), (oW, ob 7 fW), (oP, ob 4 (uF (uF (uF fP 6 (iv p0)) 7 (iv n0)) 8 (iv k0))), (aA, ar 1206 Ab), (aT, ar 180 Tm), (aW, ar 6 Wq), (aS, ar 30 Sp), (oS, ob 5 fS), (aB, ar 6 B), (aF, ar 6 Fo), (aH, ar 6 Ho), (aL, ar 6 Lt), (oT, ob 5 (uF (uF (uF (uF fT 0 (iv pl)) 1 (iv n)) 2 (iv ec)) 3 (iv mk))), (tB, ar 6 B2_15), (tF, ar 6 F2_16), (tH, ar 6 H2_17), (tL, ar 6 L2_18), (hTo, ar 60 To)]) rfl ?_
    have hB9 := hB2_21
    have hF9 := hF2_22
    have hH9 := hH2_23
    have hL9 := hL2_24
    have hte := te_0 (pl := pl) (by omega) hB9 hF9 hH9 hL9
    refine S_iconst X dX11_fits_21 ?_
    refine S_istore_n X dX11_fits_22 rfl (nle rfl) ?_
    refine S_iconst X dX11_fits_23 ?_
    refine S_istore_n X dX11_fits_24 rfl (nle rfl) ?_
    have lp25_1 : ∀ (N : Nat) (fo : Int) (st : Int) (Fv : Int → Int) (Aw : Int → Int) (Tw : Int → Int) (Ww : Int → Int) (Sw : Int → Int) (pw : Int) (nw : Int) (kw : Int) (L : Nat → Option AV), -1 ≤ fo ∧ fo ≤ pl → (∀ x, uZ Fv q x = uZ F2_16 q x) → inR st → (fo = -1 ∧ st = 0) ∨ (0 ≤ fo ∧ st = fiB pl n ec mk Fo Ho B Lt rl (t3a To) (t3b To) (t3c To) q fo.toNat) → L 0 = some (rv h0) → L 1 = some (iv q) → L 2 = some (iv st) → L 3 = some (iv fo) → pl + 1 - fo < (N : Int) → S_ p l e (rmD 5 0 0) s m args below meth c (MQ below (QcI D G A Po) args s 0 0 A) D G A 4 0 0 25 L [] [(h0, ob 10 f), (oW, ob 7 fW), (oP, ob 4 (uF (uF (uF fP 6 (iv pw)) 7 (iv nw)) 8 (iv kw))), (aA, ar 1206 Aw), (aT, ar 180 Tw), (aW, ar 6 Ww), (aS, ar 30 Sw), (oS, ob 5 fS), (aB, ar 6 B), (aF, ar 6 Fo), (aH, ar 6 Ho), (aL, ar 6 Lt), (oT, ob 5 (uF (uF (uF (uF fT 0 (iv pl)) 1 (iv n)) 2 (iv ec)) 3 (iv mk))), (tB, ar 6 B2_15), (tF, ar 6 Fv), (tH, ar 6 H2_17), (tL, ar 6 L2_18), (hTo, ar 60 To)] := by
      intro N
      induction N with
      | zero =>
        intro fo st Fv Aw Tw Ww Sw pw nw kw L25 hf hFv hsr hfb hL25_0 hL25_1 hL25_2 hL25_3 hN25
        exfalso; omega
      | succ N ih25 =>
        intro fo st Fv Aw Tw Ww Sw pw nw kw L25 hf hFv hsr hfb hL25_0 hL25_1 hL25_2 hL25_3 hN25
        refine S_iload_n X dX11_fits_25 rfl hL25_3 ?_
        refine S_aload_n X dX11_fits_26 rfl hL25_0 ?_
        refine S_get X fgX11_35_10 0 rfl hf0 dX11_fits_27 ?_
        refine S_get X fgX11_115_7 1 rfl hf4 dX11_fits_30 ?_
        refine S_icmp_ge (tgt := 80) X dX11_fits_33 (by decide) (by omega) (by omega) (fun c_25 => ?_) (fun c_25 => ?_)
        ·
          refine S_iload_n X dX11_fits_80 rfl hL25_2 ?_
          exact S_iret X (nle rfl) (nle rfl) dX11_fits_81 (hPo _ _ (⟨_, _, _, _, _, _, _, _, _, _, _, _, _, _, _, by unfold aFits; rw [if_pos (by omega)]; rcases hfb with h9 | h9; (exfalso; omega); rw [h9.2, show fo = pl by omega], rfl⟩))
        ·
          refine S_aload_n X dX11_fits_36 rfl hL25_0 ?_
          refine S_get X fgX11_63_10 0 rfl hf3 dX11_fits_37 ?_
          refine S_get X fgX11_168_5 12 rfl hf18 dX11_fits_40 ?_
          refine S_iload_n X dX11_fits_43 rfl hL25_1 ?_
          refine S_iload_n X dX11_fits_44 rfl hL25_3 ?_
          refine S_iast X 14 rfl (by omega) (by omega) (nle rfl) dX11_fits_45 ?_
          refine S_w (ws' := [(h0, ob 10 f), (oW, ob 7 fW), (oP, ob 4 (uF (uF (uF fP 6 (iv pw)) 7 (iv nw)) 8 (iv kw))), (aA, ar 1206 Aw), (aT, ar 180 Tw), (aW, ar 6 Ww), (aS, ar 30 Sw), (oS, ob 5 fS), (aB, ar 6 B), (aF, ar 6 Fo), (aH, ar 6 Ho), (aL, ar 6 Lt), (oT, ob 5 (uF (uF (uF (uF fT 0 (iv pl)) 1 (iv n)) 2 (iv ec)) 3 (iv mk))), (tB, ar 6 B2_15), (tF, ar 6 (uZ Fv q fo)), (tH, ar 6 H2_17), (tL, ar 6 L2_18), (hTo, ar 60 To)]) rfl ?_
          refine S_iload_n X dX11_fits_46 rfl hL25_3 ?_
          refine S_iload_n X dX11_fits_47 rfl hL25_1 ?_
          refine S_icmp_eq (tgt := 74) X dX11_fits_48 (by decide) (by omega) (by omega) (fun c_26 => ?_) (fun c_26 => ?_)
          ·
            refine S_iinc X dX11_fits_74 (nle rfl) hL25_3 ?_
            refine S_goto (tgt := 25) X dX11_fits_77 (by decide) ?_
            exact ih25 (fo + 1) st (uZ Fv q fo) Aw Tw Ww Sw pw nw kw _ (by omega) (fun x => by first | (rw [uZ_twice]; exact hFv x) | exact hFv x) (by first | exact zOr_r _ _ | assumption) (fb_same (by omega) hfb (by omega)) hL25_0 hL25_1 hL25_2 rfl (by omega)
          ·
            refine S_aload_n X dX11_fits_51 rfl hL25_0 ?_
            refine S_calli X (kX11_isToldSo l h0 f fP (uF (uF (uF (uF fT 0 (iv pl)) 1 (iv n)) 2 (iv ec)) 3 (iv mk)) pl n ec mk oP oT aA aT aW aS tB tF tH tL Aw Tw Ww Sw B2_15 (uZ Fv q fo) H2_17 L2_18 pw nw kw hTo To rl hf2 hf3 hf21 hf22 hf5 hf6 hf7 hf8 rfl rfl rfl rfl hf17 hf18 hf19 hf20 (by rw [hFv]; exact (hok.fo (p := q) (v := fo) (by omega)).c (te_F hte)) hto) (is := [0, 2, 3, 4, 5, 6, 12, 13, 14, 15, 16, 17]) rfl (run_V X lkX11_292 0 rfl rfl (is := [0, 2, 3, 4, 5, 6, 12, 13, 14, 15, 16, 17]) (avs := []) (rest := []) rfl rfl (nle rfl) ⟨nle rfl, nle rfl⟩ ⟨nle rfl, nle rfl⟩ dX11_fits_52 (by decide) rfl) (fun z_29 u_27 hp_28 => ?_)
            rcases hp_28 with ⟨A2_30, T2_31, W2_32, S2_33, hz_34, hu_35, hq_36⟩ | ⟨A2_37, T2_38, W2_39, S2_40, hz_41, hu_42, hq_43⟩
            ·
              subst hz_34
              subst hu_35
              refine ⟨rfl, ?_⟩
              refine S_w (ws' := [(h0, ob 10 f), (oW, ob 7 fW), (oP, ob 4 (uF (uF (uF fP 6 (iv pl)) 7 (iv n)) 8 (iv mk))), (aA, ar 1206 A2_30), (aT, ar 180 T2_31), (aW, ar 6 W2_32), (aS, ar 30 S2_33), (oS, ob 5 fS), (aB, ar 6 B), (aF, ar 6 Fo), (aH, ar 6 Ho), (aL, ar 6 Lt), (oT, ob 5 (uF (uF (uF (uF fT 0 (iv pl)) 1 (iv n)) 2 (iv ec)) 3 (iv mk))), (tB, ar 6 B2_15), (tF, ar 6 (uZ Fv q fo)), (tH, ar 6 H2_17), (tL, ar 6 L2_18), (hTo, ar 60 To)]) rfl ?_
              have hq9 := hq_36
              rw [hFv, agR_c (hok.fo (p := q) (v := fo) (by omega)) (te_F hte) (fun k h0 h1 => ⟨(hto.2.2 k h0 h1).1, (hto.2.2 k h0 h1).2.1.1⟩)] at hq9
              have hq8 := agB_0 (pl := pl) (n := n) (ec := ec) (mk := mk) (Fo := Fo) (Ho := Ho) (B0 := B) (Lt := Lt) (rl := rl) (P1 := t3a To) (B1 := t3b To) (T1 := t3c To) (p := q) (f := fo) hq9
              refine S_if_eq (tgt := 74) X dX11_fits_55 (by decide) (by decide) (fun _ => ?_) (fun h9 => absurd h9 (by decide))
              refine S_iinc X dX11_fits_74 (nle rfl) hL25_3 ?_
              refine S_goto (tgt := 25) X dX11_fits_77 (by decide) ?_
              exact ih25 (fo + 1) st (uZ Fv q fo) A2_30 T2_31 W2_32 S2_33 pl n mk _ (by omega) (fun x => by first | (rw [uZ_twice]; exact hFv x) | exact hFv x) (by first | exact zOr_r _ _ | assumption) (fb_no2 (by omega) hfb hsr (by omega) hq8) hL25_0 hL25_1 hL25_2 rfl (by omega)
            ·
              subst hz_41
              subst hu_42
              refine ⟨rfl, ?_⟩
              refine S_w (ws' := [(h0, ob 10 f), (oW, ob 7 fW), (oP, ob 4 (uF (uF (uF fP 6 (iv pl)) 7 (iv n)) 8 (iv mk))), (aA, ar 1206 A2_37), (aT, ar 180 T2_38), (aW, ar 6 W2_39), (aS, ar 30 S2_40), (oS, ob 5 fS), (aB, ar 6 B), (aF, ar 6 Fo), (aH, ar 6 Ho), (aL, ar 6 Lt), (oT, ob 5 (uF (uF (uF (uF fT 0 (iv pl)) 1 (iv n)) 2 (iv ec)) 3 (iv mk))), (tB, ar 6 B2_15), (tF, ar 6 (uZ Fv q fo)), (tH, ar 6 H2_17), (tL, ar 6 L2_18), (hTo, ar 60 To)]) rfl ?_
              have hq9 := hq_43
              rw [hFv, agR_c (hok.fo (p := q) (v := fo) (by omega)) (te_F hte) (fun k h0 h1 => ⟨(hto.2.2 k h0 h1).1, (hto.2.2 k h0 h1).2.1.1⟩)] at hq9
              have hq8 := agB_1 (pl := pl) (n := n) (ec := ec) (mk := mk) (Fo := Fo) (Ho := Ho) (B0 := B) (Lt := Lt) (rl := rl) (P1 := t3a To) (B1 := t3b To) (T1 := t3c To) (p := q) (f := fo) hq9
              refine S_if_eq (tgt := 74) X dX11_fits_55 (by decide) (by decide) (fun h9 => absurd h9 (by decide)) (fun _ => ?_)
              refine S_iload_n X dX11_fits_58 rfl hL25_2 ?_
              refine S_iload_n X dX11_fits_59 rfl hL25_3 ?_
              refine S_iconst X dX11_fits_60 ?_
              refine S_icmp_ne (tgt := 69) X dX11_fits_61 (by decide) (by omega) (by decide) (fun c_46 => ?_) (fun c_46 => ?_)
              ·
                refine S_iconst X dX11_fits_69 ?_
                refine S_iload_n X dX11_fits_70 rfl hL25_3 ?_
                refine S_ishl X dX11_fits_71 ?_
                refine S_ior X dX11_fits_72 ?_
                refine S_istore_n X dX11_fits_73 rfl (nle rfl) ?_
                refine S_iinc X dX11_fits_74 (nle rfl) hL25_3 ?_
                refine S_goto (tgt := 25) X dX11_fits_77 (by decide) ?_
                exact ih25 (fo + 1) (zOr st (zShl 1 fo)) (uZ Fv q fo) A2_37 T2_38 W2_39 S2_40 pl n mk _ (by omega) (fun x => by first | (rw [uZ_twice]; exact hFv x) | exact hFv x) (by first | exact zOr_r _ _ | assumption) (fb_yes (by omega) hfb (by omega) hsr hq8) hL25_0 hL25_1 rfl rfl (by omega)
              ·
                refine S_bipush X dX11_fits_64 rfl ?_
                refine S_goto (tgt := 72) X dX11_fits_66 (by decide) ?_
                refine S_ior X dX11_fits_72 ?_
                refine S_istore_n X dX11_fits_73 rfl (nle rfl) ?_
                refine S_iinc X dX11_fits_74 (nle rfl) hL25_3 ?_
                refine S_goto (tgt := 25) X dX11_fits_77 (by decide) ?_
                exact ih25 (fo + 1) (zOr st 64) (uZ Fv q fo) A2_37 T2_38 W2_39 S2_40 pl n mk _ (by omega) (fun x => by first | (rw [uZ_twice]; exact hFv x) | exact hFv x) (by first | exact zOr_r _ _ | assumption) (fb_nb2 (by omega) hfb (by omega) hsr hq8) hL25_0 hL25_1 rfl rfl (by omega)
    exact lp25_1 (Int.toNat (pl + 1 - (-1)) + 1) (-1) 0 F2_16 Ab Tm Wq Sp p0 n0 k0 _ (by omega) (fun x => rfl) (by decide) (Or.inl ⟨rfl, rfl⟩) rfl rfl rfl rfl (by omega)
set_option maxHeartbeats 4000000 in
set_option maxRecDepth 100000 in
theorem kX3_endBetter (l : Launch) (oM : Nat) (fM : Nat → AV) (fe : Int) (bt : Int) (cn : Int) (b : Int) (hc : 0 ≤ cn ∧ cn ≤ 1000000000) (hb : inR b) (hfe : 0 ≤ fe ∧ fe ≤ 1000000000) (hbt : inR bt) : AMv l yX3_endBetter cX3_endBetter 3 0 0 0 [rv oM, iv cn, iv b] [(oM, ob 3 (uF (uF fM 0 (iv fe)) 1 (iv bt)))] (fun u => ∃ f2 : Int, ∃ b2 : Int, u = [(oM, ob 3 (uF (uF fM 0 (iv f2)) 1 (iv b2)))] ∧ (0 ≤ f2 ∧ f2 ≤ 1000000000) ∧ inR b2) := by
  refine AMv.of2 rfl (nle rfl) ?_
  intro D G A p e s m args below meth c Po hPo hnm X
  refine S_iload_n X dX3_endBetter_0 rfl rfl ?_
  refine S_aload_n X dX3_endBetter_1 rfl rfl ?_
  refine S_get (v := iv fe) X fgX3_28_3 0 rfl rfl dX3_endBetter_2 ?_
  refine S_icmp_lt (tgt := 24) X dX3_endBetter_5 (by decide) (by omega) (by omega) (fun c_1 => ?_) (fun c_1 => ?_)
  ·
    refine S_aload_n X dX3_endBetter_24 rfl rfl ?_
    refine S_iload_n X dX3_endBetter_25 rfl rfl ?_
    refine S_put X fpX3_28_3 0 rfl FT_i dX3_endBetter_26 ?_
    refine S_w (ws' := [(oM, ob 3 (uF (uF fM 0 (iv cn)) 1 (iv bt)))]) (by simp only [List.set]; rw [uF_mv (j := 1) (k := 0) (by decide), uF_same (k := 0)]) ?_
    refine S_aload_n X dX3_endBetter_29 rfl rfl ?_
    refine S_iload_n X dX3_endBetter_30 rfl rfl ?_
    refine S_put X fpX3_32_3 0 rfl FT_i dX3_endBetter_31 ?_
    refine S_w (ws' := [(oM, ob 3 (uF (uF fM 0 (iv cn)) 1 (iv b)))]) (by simp only [List.set]; rw [uF_same (k := 1)]) ?_
    exact S_vret X (nle rfl) (nle rfl) dX3_endBetter_34 (hPo _ (⟨_, _, rfl, by omega, by first | exact hb | exact hbt⟩))
  ·
    refine S_iload_n X dX3_endBetter_8 rfl rfl ?_
    refine S_aload_n X dX3_endBetter_9 rfl rfl ?_
    refine S_get (v := iv fe) X fgX3_28_3 0 rfl rfl dX3_endBetter_10 ?_
    refine S_icmp_ne (tgt := 34) X dX3_endBetter_13 (by decide) (by omega) (by omega) (fun c_2 => ?_) (fun c_2 => ?_)
    ·
      exact S_vret X (nle rfl) (nle rfl) dX3_endBetter_34 (hPo _ (⟨_, _, rfl, by omega, by first | exact hb | exact hbt⟩))
    ·
      refine S_iload_n X dX3_endBetter_16 rfl rfl ?_
      refine S_aload_n X dX3_endBetter_17 rfl rfl ?_
      refine S_get (v := iv bt) X fgX3_32_3 0 rfl rfl dX3_endBetter_18 ?_
      refine S_icmp_ge (tgt := 34) X dX3_endBetter_21 (by decide) (by omega) (by omega) (fun c_3 => ?_) (fun c_3 => ?_)
      ·
        exact S_vret X (nle rfl) (nle rfl) dX3_endBetter_34 (hPo _ (⟨_, _, rfl, by omega, by first | exact hb | exact hbt⟩))
      ·
        refine S_aload_n X dX3_endBetter_24 rfl rfl ?_
        refine S_iload_n X dX3_endBetter_25 rfl rfl ?_
        refine S_put X fpX3_28_3 0 rfl FT_i dX3_endBetter_26 ?_
        refine S_w (ws' := [(oM, ob 3 (uF (uF fM 0 (iv cn)) 1 (iv bt)))]) (by simp only [List.set]; rw [uF_mv (j := 1) (k := 0) (by decide), uF_same (k := 0)]) ?_
        refine S_aload_n X dX3_endBetter_29 rfl rfl ?_
        refine S_iload_n X dX3_endBetter_30 rfl rfl ?_
        refine S_put X fpX3_32_3 0 rfl FT_i dX3_endBetter_31 ?_
        refine S_w (ws' := [(oM, ob 3 (uF (uF fM 0 (iv cn)) 1 (iv b)))]) (by simp only [List.set]; rw [uF_same (k := 1)]) ?_
        exact S_vret X (nle rfl) (nle rfl) dX3_endBetter_34 (hPo _ (⟨_, _, rfl, by omega, by first | exact hb | exact hbt⟩))
set_option maxHeartbeats 4000000 in
set_option maxRecDepth 100000 in
theorem kX3_markBetter (l : Launch) (oM : Nat) (fM : Nat → AV) (mC : Nat) (mM : Nat) (Cn : Int → Int) (Mm : Int → Int) (fe : Int) (bt : Int) (b : Int) (cn : Int) (bs : Int) (hf0 : fM 2 = rv mC) (hf1 : fM 3 = rv mM) (hc : 0 ≤ cn ∧ cn ≤ 1000000000) (hb : inR bs) (hbr : 0 ≤ b ∧ b ≤ 29) (hCr : ∀ x, 0 ≤ x → x < 31 → 0 ≤ Cn x ∧ Cn x ≤ 1000000000) (hMr : ∀ x, 0 ≤ x → x < 31 → inR (Mm x)) : AMv l yX3_markBetter cX3_markBetter 4 0 0 0 [rv oM, iv b, iv cn, iv bs] [(oM, ob 3 (uF (uF fM 0 (iv fe)) 1 (iv bt))), (mC, ar 31 Cn), (mM, ar 31 Mm)] (fun u => ∃ Cn2 : Int → Int, ∃ Mm2 : Int → Int, u = [(oM, ob 3 (uF (uF fM 0 (iv fe)) 1 (iv bt))), (mC, ar 31 Cn2), (mM, ar 31 Mm2)] ∧ (∀ x, 0 ≤ x → x < 31 → 0 ≤ Cn2 x ∧ Cn2 x ≤ 1000000000) ∧ (∀ x, 0 ≤ x → x < 31 → inR (Mm2 x)) ∧ (∀ x, x ≤ b → Cn2 x = Cn x)) := by
  refine AMv.of2 rfl (nle rfl) ?_
  intro D G A p e s m args below meth c Po hPo hnm X
  have hC9 := hCr (b + 1) (by omega) (by omega)
  have hM9 := hMr (b + 1) (by omega) (by omega)
  refine S_iload_n X dX3_markBetter_0 rfl rfl ?_
  refine S_aload_n X dX3_markBetter_1 rfl rfl ?_
  refine S_get X fgX3_9_3 0 rfl hf0 dX3_markBetter_2 ?_
  refine S_iload_n X dX3_markBetter_5 rfl rfl ?_
  refine S_iconst X dX3_markBetter_6 ?_
  refine S_iadd X dX3_markBetter_7 ?_
  refine S_iald X 1 rfl (by omega) (by omega) (nle rfl) dX3_markBetter_8 ?_
  refine S_icmp_lt (tgt := 36) X dX3_markBetter_9 (by decide) (by omega) (by omega) (fun c_1 => ?_) (fun c_1 => ?_)
  ·
    refine S_aload_n X dX3_markBetter_36 rfl rfl ?_
    refine S_get X fgX3_9_3 0 rfl hf0 dX3_markBetter_37 ?_
    refine S_iload_n X dX3_markBetter_40 rfl rfl ?_
    refine S_iconst X dX3_markBetter_41 ?_
    refine S_iadd X dX3_markBetter_42 ?_
    refine S_iload_n X dX3_markBetter_43 rfl rfl ?_
    refine S_iast X 1 rfl (by omega) (by omega) (nle rfl) dX3_markBetter_44 ?_
    refine S_w (ws' := [(oM, ob 3 (uF (uF fM 0 (iv fe)) 1 (iv bt))), (mC, ar 31 (uZ Cn (b + 1) cn)), (mM, ar 31 Mm)]) rfl ?_
    refine S_aload_n X dX3_markBetter_45 rfl rfl ?_
    refine S_get X fgX3_15_3 0 rfl hf1 dX3_markBetter_46 ?_
    refine S_iload_n X dX3_markBetter_49 rfl rfl ?_
    refine S_iconst X dX3_markBetter_50 ?_
    refine S_iadd X dX3_markBetter_51 ?_
    refine S_iload_n X dX3_markBetter_52 rfl rfl ?_
    refine S_iast X 2 rfl (by omega) (by omega) (nle rfl) dX3_markBetter_53 ?_
    refine S_w (ws' := [(oM, ob 3 (uF (uF fM 0 (iv fe)) 1 (iv bt))), (mC, ar 31 (uZ Cn (b + 1) cn)), (mM, ar 31 (uZ Mm (b + 1) bs))]) rfl ?_
    exact S_vret X (nle rfl) (nle rfl) dX3_markBetter_54 (hPo _ (⟨_, _, rfl, fun x h0 h1 => by unfold uZ; split; omega; exact hCr x h0 h1, fun x h0 h1 => by unfold uZ; split; exact hb; exact hMr x h0 h1, fun x h => by rw [uZ_ne (by omega)]⟩))
  ·
    refine S_iload_n X dX3_markBetter_12 rfl rfl ?_
    refine S_aload_n X dX3_markBetter_13 rfl rfl ?_
    refine S_get X fgX3_9_3 0 rfl hf0 dX3_markBetter_14 ?_
    refine S_iload_n X dX3_markBetter_17 rfl rfl ?_
    refine S_iconst X dX3_markBetter_18 ?_
    refine S_iadd X dX3_markBetter_19 ?_
    refine S_iald X 1 rfl (by omega) (by omega) (nle rfl) dX3_markBetter_20 ?_
    refine S_icmp_ne (tgt := 54) X dX3_markBetter_21 (by decide) (by omega) (by omega) (fun c_2 => ?_) (fun c_2 => ?_)
    ·
      exact S_vret X (nle rfl) (nle rfl) dX3_markBetter_54 (hPo _ (⟨_, _, rfl, hCr, hMr, fun x h => by rfl⟩))
    ·
      refine S_iload_n X dX3_markBetter_24 rfl rfl ?_
      refine S_aload_n X dX3_markBetter_25 rfl rfl ?_
      refine S_get X fgX3_15_3 0 rfl hf1 dX3_markBetter_26 ?_
      refine S_iload_n X dX3_markBetter_29 rfl rfl ?_
      refine S_iconst X dX3_markBetter_30 ?_
      refine S_iadd X dX3_markBetter_31 ?_
      refine S_iald X 2 rfl (by omega) (by omega) (nle rfl) dX3_markBetter_32 ?_
      refine S_icmp_ge (tgt := 54) X dX3_markBetter_33 (by decide) (by omega) (by omega) (fun c_3 => ?_) (fun c_3 => ?_)
      ·
        exact S_vret X (nle rfl) (nle rfl) dX3_markBetter_54 (hPo _ (⟨_, _, rfl, hCr, hMr, fun x h => by rfl⟩))
      ·
        refine S_aload_n X dX3_markBetter_36 rfl rfl ?_
        refine S_get X fgX3_9_3 0 rfl hf0 dX3_markBetter_37 ?_
        refine S_iload_n X dX3_markBetter_40 rfl rfl ?_
        refine S_iconst X dX3_markBetter_41 ?_
        refine S_iadd X dX3_markBetter_42 ?_
        refine S_iload_n X dX3_markBetter_43 rfl rfl ?_
        refine S_iast X 1 rfl (by omega) (by omega) (nle rfl) dX3_markBetter_44 ?_
        refine S_w (ws' := [(oM, ob 3 (uF (uF fM 0 (iv fe)) 1 (iv bt))), (mC, ar 31 (uZ Cn (b + 1) cn)), (mM, ar 31 Mm)]) rfl ?_
        refine S_aload_n X dX3_markBetter_45 rfl rfl ?_
        refine S_get X fgX3_15_3 0 rfl hf1 dX3_markBetter_46 ?_
        refine S_iload_n X dX3_markBetter_49 rfl rfl ?_
        refine S_iconst X dX3_markBetter_50 ?_
        refine S_iadd X dX3_markBetter_51 ?_
        refine S_iload_n X dX3_markBetter_52 rfl rfl ?_
        refine S_iast X 2 rfl (by omega) (by omega) (nle rfl) dX3_markBetter_53 ?_
        refine S_w (ws' := [(oM, ob 3 (uF (uF fM 0 (iv fe)) 1 (iv bt))), (mC, ar 31 (uZ Cn (b + 1) cn)), (mM, ar 31 (uZ Mm (b + 1) bs))]) rfl ?_
        exact S_vret X (nle rfl) (nle rfl) dX3_markBetter_54 (hPo _ (⟨_, _, rfl, fun x h0 h1 => by unfold uZ; split; omega; exact hCr x h0 h1, fun x h0 h1 => by unfold uZ; split; exact hb; exact hMr x h0 h1, fun x h => by rw [uZ_ne (by omega)]⟩))
set_option maxHeartbeats 4000000 in
set_option maxRecDepth 100000 in
theorem kX3_spreadBehind (l : Launch) (oM : Nat) (fM : Nat → AV) (mS : Nat) (Sm : Int → Int) (fP : Nat → AV) (fS : Nat → AV) (pl : Int) (n : Int) (ec : Int) (oP : Nat) (oS : Nat) (aA : Nat) (aL : Nat) (Ab : Int → Int) (B : Int → Int) (Fo : Int → Int) (Ho : Int → Int) (Lt : Int → Int) (b : Int) (hf0 : fM 4 = rv mS) (hf1 : fP 0 = rv aA) (hf2 : fS 0 = iv pl) (hf3 : fS 7 = rv aL) (hok : okS pl n ec Fo Ho B Lt) (hA2 : reg Ab (bF ec Fo Ho B) pl n 0) (hb : 0 ≤ b ∧ b < n) (hS : ∀ x, 0 ≤ x → x < 6 → 0 ≤ Sm x ∧ Sm x ≤ 1000 * b) : AMi l yX3_spreadBehind cX3_spreadBehind 7 .int 1 0 0 [rv oM, iv b, rv oP, rv oS] [(oM, ob 3 fM), (mS, ar 6 Sm), (oP, ob 4 fP), (aA, ar 1206 Ab), (oS, ob 5 fS), (aL, ar 6 Lt)] (fun z u => ∃ z9 : Int, ∃ Sm2 : Int → Int, z = z9 ∧ u = [(oM, ob 3 fM), (mS, ar 6 Sm2), (oP, ob 4 fP), (aA, ar 1206 Ab), (oS, ob 5 fS), (aL, ar 6 Lt)] ∧ inR z9 ∧ (∀ x, 0 ≤ x → x < 6 → 0 ≤ Sm2 x ∧ Sm2 x ≤ 1000 * (b + 1))) := by
  refine AMi.of2 rfl (nle rfl) ?_
  intro D G A p e s m args below meth c Po hPo X
  have hpl := hok.2.1
  have hpl1 := hok.1
  have hn1 := hok.2.2.1
  have hn2 := hok.2.2.2.1
  have hec := hok.2.2.2.2
  refine S_iconst X dX3_spreadBehind_0 ?_
  refine S_istore X dX3_spreadBehind_1 (nle rfl) ?_
  refine S_ldc (n := 1000000000) X m1011 dX3_spreadBehind_3 ?_
  refine S_istore X dX3_spreadBehind_5 (nle rfl) ?_
  refine S_iconst X dX3_spreadBehind_7 ?_
  refine S_istore X dX3_spreadBehind_8 (nle rfl) ?_
  have lp10_0 : ∀ (N : Nat) (i : Int) (g : Int) (le : Int) (Sv : Int → Int) (L : Nat → Option AV), 0 ≤ i ∧ i ≤ pl → 0 ≤ g ∧ g ≤ 100000 → 0 ≤ le ∧ le ≤ 1000000000 → (∀ x, 0 ≤ x → x < 6 → 0 ≤ Sv x ∧ Sv x ≤ 1000 * (b + 1) ∧ (i ≤ x → Sv x ≤ 1000 * b)) → L 0 = some (rv oM) → L 1 = some (iv b) → L 2 = some (rv oP) → L 3 = some (rv oS) → L 4 = some (iv g) → L 5 = some (iv le) → L 6 = some (iv i) → pl + 1 - i < (N : Int) → S_ p l e (rmD 1 0 0) s m args below meth c (MQ below (QcI D G A Po) args s 0 0 A) D G A 7 0 0 10 L [] [(oM, ob 3 fM), (mS, ar 6 Sv), (oP, ob 4 fP), (aA, ar 1206 Ab), (oS, ob 5 fS), (aL, ar 6 Lt)] := by
    intro N
    induction N with
    | zero =>
      intro i g le Sv L10 hi hg hle hSv hL10_0 hL10_1 hL10_2 hL10_3 hL10_4 hL10_5 hL10_6 hN10
      exfalso; omega
    | succ N ih10 =>
      intro i g le Sv L10 hi hg hle hSv hL10_0 hL10_1 hL10_2 hL10_3 hL10_4 hL10_5 hL10_6 hN10
      refine S_iload X dX3_spreadBehind_10 hL10_6 ?_
      refine S_aload_n X dX3_spreadBehind_12 rfl hL10_3 ?_
      refine S_get X fgX3_56_5 4 rfl hf2 dX3_spreadBehind_13 ?_
      refine S_icmp_ge (tgt := 78) X dX3_spreadBehind_16 (by decide) (by omega) (by omega) (fun c_1 => ?_) (fun c_1 => ?_)
      ·
        refine S_iload X dX3_spreadBehind_78 hL10_4 ?_
        refine S_iload X dX3_spreadBehind_80 hL10_5 ?_
        refine S_isub X dX3_spreadBehind_82 ?_
        exact S_iret X (nle rfl) (nle rfl) dX3_spreadBehind_83 (hPo _ _ (⟨_, _, rfl, rfl, by omega, fun x h0 h1 => by have := hSv x h0 h1; omega⟩))
      ·
        have hS9 := hSv i (by omega) (by omega)
        have hL1 := (hok.2.2.2.2.2.2 i (by omega) (by omega)).2.2.2
        have hB1 := hok.beat b i (by omega) (by omega) (by omega)
        have hA1 := hA2.at (z := b * 6 + i) (x := b) (y := i) (by omega) (by omega) (by omega) (by omega) (by omega)
        refine S_aload_n X dX3_spreadBehind_19 rfl hL10_0 ?_
        refine S_get X fgX3_18_3 0 rfl hf0 dX3_spreadBehind_20 ?_
        refine S_iload X dX3_spreadBehind_23 hL10_6 ?_
        refine S_dup2 X dX3_spreadBehind_25 ?_
        refine S_iald X 1 rfl (by omega) (by omega) (nle rfl) dX3_spreadBehind_26 ?_
        refine S_aload_n X dX3_spreadBehind_27 rfl hL10_2 ?_
        refine S_iload X dX3_spreadBehind_28 hL10_6 ?_
        refine S_iload_n X dX3_spreadBehind_30 rfl hL10_1 ?_
        refine S_calli X (kX4_beatIn l fP oP aA Ab i b hf1 (by omega)) (is := [2, 3]) rfl (run_V X lkX3_59 2 rfl rfl (is := [2, 3]) (avs := [iv i, iv b]) (rest := [iv (Sv i), iv i, rv mS]) rfl rfl (nle rfl) ⟨nle rfl, nle rfl⟩ ⟨nle rfl, nle rfl⟩ dX3_spreadBehind_31 (by decide) rfl) (fun z_4 u_2 hp_3 => ?_)
        obtain ⟨hz_5, hu_6⟩ := hp_3
        subst hz_5
        subst hu_6
        refine ⟨rfl, ?_⟩
        refine S_w (ws' := [(oM, ob 3 fM), (mS, ar 6 Sv), (oP, ob 4 fP), (aA, ar 1206 Ab), (oS, ob 5 fS), (aL, ar 6 Lt)]) rfl ?_
        refine S_aload_n X dX3_spreadBehind_34 rfl hL10_3 ?_
        refine S_get X fgX3_65_5 4 rfl hf3 dX3_spreadBehind_35 ?_
        refine S_iload X dX3_spreadBehind_38 hL10_6 ?_
        refine S_iald X 5 rfl (by omega) (by omega) (nle rfl) dX3_spreadBehind_40 ?_
        refine S_iadd X dX3_spreadBehind_41 ?_
        refine S_iadd X dX3_spreadBehind_42 ?_
        refine S_iast X 1 rfl (by omega) (by omega) (nle rfl) dX3_spreadBehind_43 ?_
        refine S_w (ws' := [(oM, ob 3 fM), (mS, ar 6 (uZ Sv i ((Sv i) + ((Ab (b * 6 + i)) + (Lt i))))), (oP, ob 4 fP), (aA, ar 1206 Ab), (oS, ob 5 fS), (aL, ar 6 Lt)]) rfl ?_
        have hu9 : (uZ Sv i ((Sv i) + ((Ab (b * 6 + i)) + (Lt i)))) i = ((Sv i) + ((Ab (b * 6 + i)) + (Lt i))) := uZ_at
        refine S_iload X dX3_spreadBehind_44 hL10_4 ?_
        refine S_aload_n X dX3_spreadBehind_46 rfl hL10_0 ?_
        refine S_get X fgX3_18_3 0 rfl hf0 dX3_spreadBehind_47 ?_
        refine S_iload X dX3_spreadBehind_50 hL10_6 ?_
        refine S_iald X 1 rfl (by omega) (by omega) (nle rfl) dX3_spreadBehind_52 ?_
        refine S_mmax X lkX3_68 rfl rfl (by omega) (by omega) (nle rfl) (nle rfl) (nle rfl) (nle rfl) dX3_spreadBehind_53 ?_
        refine S_istore X dX3_spreadBehind_56 (nle rfl) ?_
        refine S_iload X dX3_spreadBehind_58 hL10_5 ?_
        refine S_aload_n X dX3_spreadBehind_60 rfl hL10_0 ?_
        refine S_get X fgX3_18_3 0 rfl hf0 dX3_spreadBehind_61 ?_
        refine S_iload X dX3_spreadBehind_64 hL10_6 ?_
        refine S_iald X 1 rfl (by omega) (by omega) (nle rfl) dX3_spreadBehind_66 ?_
        refine S_mmin X lkX3_73 rfl rfl (by omega) (by omega) (nle rfl) (nle rfl) (nle rfl) (nle rfl) dX3_spreadBehind_67 ?_
        refine S_istore X dX3_spreadBehind_70 (nle rfl) ?_
        refine S_iinc X dX3_spreadBehind_72 (nle rfl) hL10_6 ?_
        refine S_goto (tgt := 10) X dX3_spreadBehind_75 (by decide) ?_
        exact ih10 (i + 1) (max g ((uZ Sv i ((Sv i) + ((Ab (b * 6 + i)) + (Lt i)))) i)) (min le ((uZ Sv i ((Sv i) + ((Ab (b * 6 + i)) + (Lt i)))) i)) (uZ Sv i ((Sv i) + ((Ab (b * 6 + i)) + (Lt i)))) _ (by omega) (by omega) (by omega) (fun x h0 h1 => by have := hSv x h0 h1; unfold uZ; split <;> omega) hL10_0 hL10_1 hL10_2 hL10_3 rfl rfl rfl (by omega)
  exact lp10_0 (Int.toNat (pl + 1 - 0) + 1) 0 0 1000000000 Sm _ (by omega) (by omega) (by omega) (fun x h0 h1 => by have := hS x h0 h1; omega) rfl rfl rfl rfl rfl rfl rfl (by omega)
set_option maxHeartbeats 4000000 in
set_option maxRecDepth 100000 in
theorem kX3_goOnFrom (l : Launch) (oM : Nat) (fM : Nat → AV) (mC : Nat) (mM : Nat) (mS : Nat) (Cn : Int → Int) (Mm : Int → Int) (Sm : Int → Int) (fe : Int) (bt : Int) (fP : Nat → AV) (fS : Nat → AV) (pl : Int) (n : Int) (ec : Int) (oP : Nat) (oS : Nat) (aA : Nat) (aL : Nat) (Ab : Int → Int) (B : Int → Int) (Fo : Int → Int) (Ho : Int → Int) (Lt : Int → Int) (i0 : Int) (lim : Int) (hf0 : fM 2 = rv mC) (hf1 : fM 3 = rv mM) (hf2 : fM 4 = rv mS) (hf3 : fP 0 = rv aA) (hf4 : fS 0 = iv pl) (hf5 : fS 1 = iv n) (hf6 : fS 7 = rv aL) (hok : okS pl n ec Fo Ho B Lt) (hA2 : reg Ab (bF ec Fo Ho B) pl n 0) (hfe : 0 ≤ fe ∧ fe ≤ 1000000000) (hbt : inR bt) (hCr : ∀ x, 0 ≤ x → x < 31 → 0 ≤ Cn x ∧ Cn x ≤ 1000000000) (hMr : ∀ x, 0 ≤ x → x < 31 → inR (Mm x)) (hi0 : 0 ≤ i0 ∧ i0 < n) (hci : Cn i0 < 1000000000) (hlim : inR lim) : AMv l yX3_goOnFrom cX3_goOnFrom 6 2 0 0 [rv oM, iv i0, rv oP, rv oS, iv lim] [(oM, ob 3 (uF (uF fM 0 (iv fe)) 1 (iv bt))), (mC, ar 31 Cn), (mM, ar 31 Mm), (mS, ar 6 Sm), (oP, ob 4 fP), (aA, ar 1206 Ab), (oS, ob 5 fS), (aL, ar 6 Lt)] (fun u => ∃ f2 : Int, ∃ b2 : Int, ∃ Cn2 : Int → Int, ∃ Mm2 : Int → Int, ∃ Sm2 : Int → Int, u = [(oM, ob 3 (uF (uF fM 0 (iv f2)) 1 (iv b2))), (mC, ar 31 Cn2), (mM, ar 31 Mm2), (mS, ar 6 Sm2), (oP, ob 4 fP), (aA, ar 1206 Ab), (oS, ob 5 fS), (aL, ar 6 Lt)] ∧ (0 ≤ f2 ∧ f2 ≤ 1000000000) ∧ inR b2 ∧ (∀ x, 0 ≤ x → x < 31 → 0 ≤ Cn2 x ∧ Cn2 x ≤ 1000000000) ∧ (∀ x, 0 ≤ x → x < 31 → inR (Mm2 x))) := by
  refine AMv.of2 rfl (nle rfl) ?_
  intro D G A p e s m args below meth c Po hPo hnm X
  have hpl := hok.2.1
  have hpl1 := hok.1
  have hn1 := hok.2.2.1
  have hn2 := hok.2.2.2.1
  have hec := hok.2.2.2.2
  refine S_aload_n X dX3_goOnFrom_0 rfl rfl ?_
  refine S_get X fgX3_18_3 0 rfl hf2 dX3_goOnFrom_1 ?_
  refine S_iconst X dX3_goOnFrom_4 ?_
  refine S_callv X (kJ7_fill_53178 l mS 6 Sm 0 (by decide)) (is := [3]) rfl (run_S X lkX3_22 (is := [3]) (avs := [rv mS, iv 0]) (rest := []) rfl rfl (nle rfl) ⟨nle rfl, nle rfl⟩ ⟨nle rfl, nle rfl⟩ dX3_goOnFrom_5 (by decide) rfl) (fun u_1 hp_2 => ?_)
  obtain ⟨g2_4, hu_6, hg2_7⟩ := hp_2
  subst hu_6
  refine ⟨rfl, ?_⟩
  refine S_w (ws' := [(oM, ob 3 (uF (uF fM 0 (iv fe)) 1 (iv bt))), (mC, ar 31 Cn), (mM, ar 31 Mm), (mS, ar 6 g2_4), (oP, ob 4 fP), (aA, ar 1206 Ab), (oS, ob 5 fS), (aL, ar 6 Lt)]) rfl ?_
  have hg0 := hg2_7
  refine S_iload_n X dX3_goOnFrom_8 rfl rfl ?_
  refine S_istore X dX3_goOnFrom_9 (nle rfl) ?_
  have lp11_0 : ∀ (N : Nat) (b : Int) (f9 : Int) (b9 : Int) (Cv : Int → Int) (Mv : Int → Int) (Sv : Int → Int) (L : Nat → Option AV), i0 ≤ b ∧ b ≤ n → 0 ≤ f9 ∧ f9 ≤ 1000000000 → inR b9 → (∀ x, 0 ≤ x → x < 31 → 0 ≤ Cv x ∧ Cv x ≤ 1000000000) → (∀ x, 0 ≤ x → x < 31 → inR (Mv x)) → (∀ x, 0 ≤ x → x < 6 → 0 ≤ Sv x ∧ Sv x ≤ 1000 * b) → Cv i0 < 1000000000 → L 0 = some (rv oM) → L 1 = some (iv i0) → L 2 = some (rv oP) → L 3 = some (rv oS) → L 4 = some (iv lim) → L 5 = some (iv b) → n + 1 - b < (N : Int) → S_ p l e (rmD 2 0 0) s m args below meth c (MQ below (QcV D G A Po) args s 0 0 A) D G A 6 0 0 11 L [] [(oM, ob 3 (uF (uF fM 0 (iv f9)) 1 (iv b9))), (mC, ar 31 Cv), (mM, ar 31 Mv), (mS, ar 6 Sv), (oP, ob 4 fP), (aA, ar 1206 Ab), (oS, ob 5 fS), (aL, ar 6 Lt)] := by
    intro N
    induction N with
    | zero =>
      intro b f9 b9 Cv Mv Sv L11 hb hfe9 hbt9 hCv hMv hSv hci9 hL11_0 hL11_1 hL11_2 hL11_3 hL11_4 hL11_5 hN11
      exfalso; omega
    | succ N ih11 =>
      intro b f9 b9 Cv Mv Sv L11 hb hfe9 hbt9 hCv hMv hSv hci9 hL11_0 hL11_1 hL11_2 hL11_3 hL11_4 hL11_5 hN11
      refine S_iload X dX3_goOnFrom_11 hL11_5 ?_
      refine S_aload_n X dX3_goOnFrom_13 rfl hL11_3 ?_
      refine S_get X fgX3_35_5 6 rfl hf5 dX3_goOnFrom_14 ?_
      refine S_icmp_ge (tgt := 102) X dX3_goOnFrom_17 (by decide) (by omega) (by omega) (fun c_8 => ?_) (fun c_8 => ?_)
      ·
        exact S_vret X (nle rfl) (nle rfl) dX3_goOnFrom_102 (hPo _ (⟨_, _, _, _, _, rfl, hfe9, hbt9, hCv, hMv⟩))
      ·
        refine S_iload X dX3_goOnFrom_20 hL11_5 ?_
        have hc0 := hCv i0 (by omega) (by omega)
        have hm0 := hMv i0 (by omega) (by omega)
        refine S_bipush X dX3_goOnFrom_22 rfl ?_
        refine S_icmp_ge (tgt := 102) X dX3_goOnFrom_24 (by decide) (by omega) (by decide) (fun c_9 => ?_) (fun c_9 => ?_)
        ·
          exact S_vret X (nle rfl) (nle rfl) dX3_goOnFrom_102 (hPo _ (⟨_, _, _, _, _, rfl, hfe9, hbt9, hCv, hMv⟩))
        ·
          refine S_aload_n X dX3_goOnFrom_27 rfl hL11_0 ?_
          refine S_iload X dX3_goOnFrom_28 hL11_5 ?_
          refine S_aload_n X dX3_goOnFrom_30 rfl hL11_2 ?_
          refine S_aload_n X dX3_goOnFrom_31 rfl hL11_3 ?_
          refine S_calli X (kX3_spreadBehind l oM (uF (uF fM 0 (iv f9)) 1 (iv b9)) mS Sv fP fS pl n ec oP oS aA aL Ab B Fo Ho Lt b hf2 hf3 hf4 hf6 hok hA2 (by omega) hSv) (is := [0, 3, 4, 5, 6, 7]) rfl (run_V X lkX3_44 0 rfl rfl (is := [0, 3, 4, 5, 6, 7]) (avs := [iv b, rv oP, rv oS]) (rest := []) rfl rfl (nle rfl) ⟨nle rfl, nle rfl⟩ ⟨nle rfl, nle rfl⟩ dX3_goOnFrom_32 (by decide) rfl) (fun z_12 u_10 hp_11 => ?_)
          obtain ⟨z9_13, Sm2_14, hz_15, hu_16, hz9_17, h2_18⟩ := hp_11
          subst hz_15
          subst hu_16
          refine ⟨rfl, ?_⟩
          refine S_w (ws' := [(oM, ob 3 (uF (uF fM 0 (iv f9)) 1 (iv b9))), (mC, ar 31 Cv), (mM, ar 31 Mv), (mS, ar 6 Sm2_14), (oP, ob 4 fP), (aA, ar 1206 Ab), (oS, ob 5 fS), (aL, ar 6 Lt)]) rfl ?_
          have hz8 := hz9_17
          have hS8 := h2_18
          refine S_iload X dX3_goOnFrom_35 hL11_4 ?_
          refine S_icmp_le (tgt := 41) X dX3_goOnFrom_37 (by decide) (by omega) (by omega) (fun c_19 => ?_) (fun c_19 => ?_)
          ·
            refine S_iload X dX3_goOnFrom_41 hL11_5 ?_
            refine S_aload_n X dX3_goOnFrom_43 rfl hL11_3 ?_
            refine S_get X fgX3_35_5 6 rfl hf5 dX3_goOnFrom_44 ?_
            refine S_iconst X dX3_goOnFrom_47 ?_
            refine S_isub X dX3_goOnFrom_48 ?_
            refine S_icmp_ne (tgt := 71) X dX3_goOnFrom_49 (by decide) (by omega) (by omega) (fun c_20 => ?_) (fun c_20 => ?_)
            ·
              refine S_aload_n X dX3_goOnFrom_71 rfl hL11_0 ?_
              refine S_iload X dX3_goOnFrom_72 hL11_5 ?_
              refine S_aload_n X dX3_goOnFrom_74 rfl hL11_0 ?_
              refine S_get X fgX3_9_3 0 rfl hf0 dX3_goOnFrom_75 ?_
              refine S_iload_n X dX3_goOnFrom_78 rfl hL11_1 ?_
              refine S_iald X 1 rfl (by omega) (by omega) (nle rfl) dX3_goOnFrom_79 ?_
              refine S_iconst X dX3_goOnFrom_80 ?_
              refine S_iadd X dX3_goOnFrom_81 ?_
              refine S_aload_n X dX3_goOnFrom_82 rfl hL11_0 ?_
              refine S_get X fgX3_15_3 0 rfl hf1 dX3_goOnFrom_83 ?_
              refine S_iload_n X dX3_goOnFrom_86 rfl hL11_1 ?_
              refine S_iald X 2 rfl (by omega) (by omega) (nle rfl) dX3_goOnFrom_87 ?_
              refine S_iconst X dX3_goOnFrom_88 ?_
              refine S_iload X dX3_goOnFrom_89 hL11_5 ?_
              refine S_ishl X dX3_goOnFrom_91 ?_
              refine S_ior X dX3_goOnFrom_92 ?_
              refine S_callv X (kX3_markBetter l oM fM mC mM Cv Mv f9 b9 b ((Cv i0) + 1) (zOr (Mv i0) (zShl 1 b)) hf0 hf1 (by omega) (zOr_r _ _) (by omega) hCv hMv) (is := [0, 1, 2]) rfl (run_V X lkX3_52 0 rfl rfl (is := [0, 1, 2]) (avs := [iv b, iv ((Cv i0) + 1), iv (zOr (Mv i0) (zShl 1 b))]) (rest := []) rfl rfl (nle rfl) ⟨nle rfl, nle rfl⟩ ⟨nle rfl, nle rfl⟩ dX3_goOnFrom_93 (by decide) rfl) (fun u_21 hp_22 => ?_)
              obtain ⟨Cn2_24, Mm2_25, hu_27, h2_28, h3_29, h5_30⟩ := hp_22
              subst hu_27
              refine ⟨rfl, ?_⟩
              refine S_w (ws' := [(oM, ob 3 (uF (uF fM 0 (iv f9)) 1 (iv b9))), (mC, ar 31 Cn2_24), (mM, ar 31 Mm2_25), (mS, ar 6 Sm2_14), (oP, ob 4 fP), (aA, ar 1206 Ab), (oS, ob 5 fS), (aL, ar 6 Lt)]) rfl ?_
              have hf8 := hfe9
              have hb8 := hbt9
              have hC8 := h2_28
              have hM8 := h3_29
              have hk8 : Cn2_24 i0 < 1000000000 := by rw [h5_30 i0 (by omega)]; exact hci9
              refine S_iinc X dX3_goOnFrom_96 (nle rfl) hL11_5 ?_
              refine S_goto (tgt := 11) X dX3_goOnFrom_99 (by decide) ?_
              exact ih11 (b + 1) f9 b9 Cn2_24 Mm2_25 Sm2_14 _ (by omega) (hf8) (hb8) (hC8) (hM8) (hS8) (hk8) hL11_0 hL11_1 hL11_2 hL11_3 hL11_4 rfl (by omega)
            ·
              refine S_aload_n X dX3_goOnFrom_52 rfl hL11_0 ?_
              refine S_aload_n X dX3_goOnFrom_53 rfl hL11_0 ?_
              refine S_get X fgX3_9_3 0 rfl hf0 dX3_goOnFrom_54 ?_
              refine S_iload_n X dX3_goOnFrom_57 rfl hL11_1 ?_
              refine S_iald X 1 rfl (by omega) (by omega) (nle rfl) dX3_goOnFrom_58 ?_
              refine S_aload_n X dX3_goOnFrom_59 rfl hL11_0 ?_
              refine S_get X fgX3_15_3 0 rfl hf1 dX3_goOnFrom_60 ?_
              refine S_iload_n X dX3_goOnFrom_63 rfl hL11_1 ?_
              refine S_iald X 2 rfl (by omega) (by omega) (nle rfl) dX3_goOnFrom_64 ?_
              refine S_callv X (kX3_endBetter l oM fM f9 b9 (Cv i0) (Mv i0) (by omega) (hMv i0 (by omega) (by omega)) (by omega) (by omega)) (is := [0]) rfl (run_V X lkX3_48 0 rfl rfl (is := [0]) (avs := [iv (Cv i0), iv (Mv i0)]) (rest := []) rfl rfl (nle rfl) ⟨nle rfl, nle rfl⟩ ⟨nle rfl, nle rfl⟩ dX3_goOnFrom_65 (by decide) rfl) (fun u_31 hp_32 => ?_)
              obtain ⟨f2_34, b2_35, hu_37, h2_38, h3_39⟩ := hp_32
              subst hu_37
              refine ⟨rfl, ?_⟩
              refine S_w (ws' := [(oM, ob 3 (uF (uF fM 0 (iv f2_34)) 1 (iv b2_35))), (mC, ar 31 Cv), (mM, ar 31 Mv), (mS, ar 6 Sm2_14), (oP, ob 4 fP), (aA, ar 1206 Ab), (oS, ob 5 fS), (aL, ar 6 Lt)]) rfl ?_
              have hf8 := h2_38
              have hb8 := h3_39
              have hC8 := hCv
              have hM8 := hMv
              have hk8 := hci9
              refine S_goto (tgt := 96) X dX3_goOnFrom_68 (by decide) ?_
              refine S_iinc X dX3_goOnFrom_96 (nle rfl) hL11_5 ?_
              refine S_goto (tgt := 11) X dX3_goOnFrom_99 (by decide) ?_
              exact ih11 (b + 1) f2_34 b2_35 Cv Mv Sm2_14 _ (by omega) (hf8) (hb8) (hC8) (hM8) (hS8) (hk8) hL11_0 hL11_1 hL11_2 hL11_3 hL11_4 rfl (by omega)
          ·
            exact S_vret X (nle rfl) (nle rfl) dX3_goOnFrom_40 (hPo _ (⟨_, _, _, _, _, rfl, hfe9, hbt9, hCv, hMv⟩))
  exact lp11_0 (Int.toNat (n + 1 - i0) + 1) i0 fe bt Cn Mm g2_4 _ (by omega) (hfe) (hbt) (hCr) (hMr) (fun x h0 h1 => by rw [hg0 x h0 h1]; omega) (hci) rfl rfl rfl rfl rfl rfl (by omega)
set_option maxHeartbeats 4000000 in
set_option maxRecDepth 100000 in
theorem kX3_find (l : Launch) (oM : Nat) (fM : Nat → AV) (mC : Nat) (mM : Nat) (mS : Nat) (Cn : Int → Int) (Mm : Int → Int) (Sm : Int → Int) (fe : Int) (bt : Int) (fP : Nat → AV) (fS : Nat → AV) (pl : Int) (n : Int) (ec : Int) (oP : Nat) (oS : Nat) (aA : Nat) (aL : Nat) (Ab : Int → Int) (B : Int → Int) (Fo : Int → Int) (Ho : Int → Int) (Lt : Int → Int) (lim : Int) (hf0 : fM 2 = rv mC) (hf1 : fM 3 = rv mM) (hf2 : fM 4 = rv mS) (hf3 : fP 0 = rv aA) (hf4 : fS 0 = iv pl) (hf5 : fS 1 = iv n) (hf6 : fS 7 = rv aL) (hok : okS pl n ec Fo Ho B Lt) (hA2 : reg Ab (bF ec Fo Ho B) pl n 0) (hfe : 0 ≤ fe ∧ fe ≤ 1000000000) (hbt : inR bt) (hMr : ∀ x, 0 ≤ x → x < 31 → inR (Mm x)) (hlim : inR lim) : AMi l yX3_find cX3_find 5 .boolean 3 0 0 [rv oM, rv oP, rv oS, iv lim] [(oM, ob 3 (uF (uF fM 0 (iv fe)) 1 (iv bt))), (mC, ar 31 Cn), (mM, ar 31 Mm), (mS, ar 6 Sm), (oP, ob 4 fP), (aA, ar 1206 Ab), (oS, ob 5 fS), (aL, ar 6 Lt)] (fun z u => (∃ f2 : Int, ∃ b2 : Int, ∃ Cn2 : Int → Int, ∃ Mm2 : Int → Int, ∃ Sm2 : Int → Int, z = 0 ∧ u = [(oM, ob 3 (uF (uF fM 0 (iv f2)) 1 (iv b2))), (mC, ar 31 Cn2), (mM, ar 31 Mm2), (mS, ar 6 Sm2), (oP, ob 4 fP), (aA, ar 1206 Ab), (oS, ob 5 fS), (aL, ar 6 Lt)] ∧ (0 ≤ f2 ∧ f2 ≤ 1000000000) ∧ inR b2 ∧ (∀ x, 0 ≤ x → x < 31 → 0 ≤ Cn2 x ∧ Cn2 x ≤ 1000000000) ∧ (∀ x, 0 ≤ x → x < 31 → inR (Mm2 x))) ∨ (∃ f2 : Int, ∃ b2 : Int, ∃ Cn2 : Int → Int, ∃ Mm2 : Int → Int, ∃ Sm2 : Int → Int, z = 1 ∧ u = [(oM, ob 3 (uF (uF fM 0 (iv f2)) 1 (iv b2))), (mC, ar 31 Cn2), (mM, ar 31 Mm2), (mS, ar 6 Sm2), (oP, ob 4 fP), (aA, ar 1206 Ab), (oS, ob 5 fS), (aL, ar 6 Lt)] ∧ (0 ≤ f2 ∧ f2 ≤ 1000000000) ∧ inR b2 ∧ (∀ x, 0 ≤ x → x < 31 → 0 ≤ Cn2 x ∧ Cn2 x ≤ 1000000000) ∧ (∀ x, 0 ≤ x → x < 31 → inR (Mm2 x)))) := by
  refine AMi.of2 rfl (nle rfl) ?_
  intro D G A p e s m args below meth c Po hPo X
  have hpl := hok.2.1
  have hpl1 := hok.1
  have hn1 := hok.2.2.1
  have hn2 := hok.2.2.2.1
  have hec := hok.2.2.2.2
  refine S_aload_n X dX3_find_0 rfl rfl ?_
  refine S_get X fgX3_9_3 0 rfl hf0 dX3_find_1 ?_
  refine S_ldc (n := 1000000000) X m1011 dX3_find_4 ?_
  refine S_callv X (kJ7_fill_53178 l mC 31 Cn 1000000000 (by decide)) (is := [1]) rfl (run_S X lkX3_22 (is := [1]) (avs := [rv mC, iv 1000000000]) (rest := []) rfl rfl (nle rfl) ⟨nle rfl, nle rfl⟩ ⟨nle rfl, nle rfl⟩ dX3_find_6 (by decide) rfl) (fun u_1 hp_2 => ?_)
  obtain ⟨g2_4, hu_6, hg2_7⟩ := hp_2
  subst hu_6
  refine ⟨rfl, ?_⟩
  refine S_w (ws' := [(oM, ob 3 (uF (uF fM 0 (iv fe)) 1 (iv bt))), (mC, ar 31 g2_4), (mM, ar 31 Mm), (mS, ar 6 Sm), (oP, ob 4 fP), (aA, ar 1206 Ab), (oS, ob 5 fS), (aL, ar 6 Lt)]) rfl ?_
  have hg0 := hg2_7
  refine S_aload_n X dX3_find_9 rfl rfl ?_
  refine S_get X fgX3_9_3 0 rfl hf0 dX3_find_10 ?_
  refine S_iconst X dX3_find_13 ?_
  refine S_iconst X dX3_find_14 ?_
  refine S_iast X 1 rfl (by omega) (by omega) (nle rfl) dX3_find_15 ?_
  refine S_w (ws' := [(oM, ob 3 (uF (uF fM 0 (iv fe)) 1 (iv bt))), (mC, ar 31 (uZ g2_4 0 0)), (mM, ar 31 Mm), (mS, ar 6 Sm), (oP, ob 4 fP), (aA, ar 1206 Ab), (oS, ob 5 fS), (aL, ar 6 Lt)]) rfl ?_
  refine S_aload_n X dX3_find_16 rfl rfl ?_
  refine S_get X fgX3_15_3 0 rfl hf1 dX3_find_17 ?_
  refine S_iconst X dX3_find_20 ?_
  refine S_iconst X dX3_find_21 ?_
  refine S_iast X 2 rfl (by omega) (by omega) (nle rfl) dX3_find_22 ?_
  refine S_w (ws' := [(oM, ob 3 (uF (uF fM 0 (iv fe)) 1 (iv bt))), (mC, ar 31 (uZ g2_4 0 0)), (mM, ar 31 (uZ Mm 0 0)), (mS, ar 6 Sm), (oP, ob 4 fP), (aA, ar 1206 Ab), (oS, ob 5 fS), (aL, ar 6 Lt)]) rfl ?_
  refine S_aload_n X dX3_find_23 rfl rfl ?_
  refine S_ldc (n := 1000000000) X m1011 dX3_find_24 ?_
  refine S_put X fpX3_28_3 0 rfl FT_i dX3_find_26 ?_
  refine S_w (ws' := [(oM, ob 3 (uF (uF fM 0 (iv 1000000000)) 1 (iv bt))), (mC, ar 31 (uZ g2_4 0 0)), (mM, ar 31 (uZ Mm 0 0)), (mS, ar 6 Sm), (oP, ob 4 fP), (aA, ar 1206 Ab), (oS, ob 5 fS), (aL, ar 6 Lt)]) (by simp only [List.set]; rw [uF_mv (j := 1) (k := 0) (by decide), uF_same (k := 0)]) ?_
  refine S_aload_n X dX3_find_29 rfl rfl ?_
  refine S_iconst X dX3_find_30 ?_
  refine S_put X fpX3_32_3 0 rfl FT_i dX3_find_31 ?_
  refine S_w (ws' := [(oM, ob 3 (uF (uF fM 0 (iv 1000000000)) 1 (iv 0))), (mC, ar 31 (uZ g2_4 0 0)), (mM, ar 31 (uZ Mm 0 0)), (mS, ar 6 Sm), (oP, ob 4 fP), (aA, ar 1206 Ab), (oS, ob 5 fS), (aL, ar 6 Lt)]) (by simp only [List.set]; rw [uF_same (k := 1)]) ?_
  refine S_iconst X dX3_find_34 ?_
  refine S_istore X dX3_find_35 (nle rfl) ?_
  have lp37_0 : ∀ (N : Nat) (b : Int) (f9 : Int) (b9 : Int) (Cv : Int → Int) (Mv : Int → Int) (Sv : Int → Int) (L : Nat → Option AV), 0 ≤ b ∧ b ≤ n → 0 ≤ f9 ∧ f9 ≤ 1000000000 → inR b9 → (∀ x, 0 ≤ x → x < 31 → 0 ≤ Cv x ∧ Cv x ≤ 1000000000) → (∀ x, 0 ≤ x → x < 31 → inR (Mv x)) → L 0 = some (rv oM) → L 1 = some (rv oP) → L 2 = some (rv oS) → L 3 = some (iv lim) → L 4 = some (iv b) → n + 1 - b < (N : Int) → S_ p l e (rmD 3 0 0) s m args below meth c (MQ below (QcI D G A Po) args s 0 0 A) D G A 5 0 0 37 L [] [(oM, ob 3 (uF (uF fM 0 (iv f9)) 1 (iv b9))), (mC, ar 31 Cv), (mM, ar 31 Mv), (mS, ar 6 Sv), (oP, ob 4 fP), (aA, ar 1206 Ab), (oS, ob 5 fS), (aL, ar 6 Lt)] := by
    intro N
    induction N with
    | zero =>
      intro b f9 b9 Cv Mv Sv L37 hb hfe9 hbt9 hCv hMv hL37_0 hL37_1 hL37_2 hL37_3 hL37_4 hN37
      exfalso; omega
    | succ N ih37 =>
      intro b f9 b9 Cv Mv Sv L37 hb hfe9 hbt9 hCv hMv hL37_0 hL37_1 hL37_2 hL37_3 hL37_4 hN37
      refine S_iload X dX3_find_37 hL37_4 ?_
      refine S_aload_n X dX3_find_39 rfl hL37_2 ?_
      refine S_get X fgX3_35_5 6 rfl hf5 dX3_find_40 ?_
      refine S_icmp_ge (tgt := 80) X dX3_find_43 (by decide) (by omega) (by omega) (fun c_8 => ?_) (fun c_8 => ?_)
      ·
        refine S_aload_n X dX3_find_80 rfl hL37_0 ?_
        refine S_get (v := iv f9) X fgX3_28_3 0 rfl rfl dX3_find_81 ?_
        refine S_ldc (n := 1000000000) X m1011 dX3_find_84 ?_
        refine S_icmp_ge (tgt := 93) X dX3_find_86 (by decide) (by omega) (by decide) (fun c_9 => ?_) (fun c_9 => ?_)
        ·
          refine S_iconst X dX3_find_93 ?_
          exact S_zret X (Or.inl rfl) (nle rfl) (nle rfl) dX3_find_94 (hPo _ _ (Or.inl ⟨_, _, _, _, _, rfl, rfl, hfe9, hbt9, hCv, hMv⟩))
        ·
          refine S_iconst X dX3_find_89 ?_
          refine S_goto (tgt := 94) X dX3_find_90 (by decide) ?_
          exact S_zret X (Or.inr rfl) (nle rfl) (nle rfl) dX3_find_94 (hPo _ _ (Or.inr ⟨_, _, _, _, _, rfl, rfl, hfe9, hbt9, hCv, hMv⟩))
      ·
        refine S_iload X dX3_find_46 hL37_4 ?_
        refine S_bipush X dX3_find_48 rfl ?_
        have hc0 := hCv b (by omega) (by omega)
        refine S_icmp_ge (tgt := 80) X dX3_find_50 (by decide) (by omega) (by decide) (fun c_10 => ?_) (fun c_10 => ?_)
        ·
          refine S_aload_n X dX3_find_80 rfl hL37_0 ?_
          refine S_get (v := iv f9) X fgX3_28_3 0 rfl rfl dX3_find_81 ?_
          refine S_ldc (n := 1000000000) X m1011 dX3_find_84 ?_
          refine S_icmp_ge (tgt := 93) X dX3_find_86 (by decide) (by omega) (by decide) (fun c_11 => ?_) (fun c_11 => ?_)
          ·
            refine S_iconst X dX3_find_93 ?_
            exact S_zret X (Or.inl rfl) (nle rfl) (nle rfl) dX3_find_94 (hPo _ _ (Or.inl ⟨_, _, _, _, _, rfl, rfl, hfe9, hbt9, hCv, hMv⟩))
          ·
            refine S_iconst X dX3_find_89 ?_
            refine S_goto (tgt := 94) X dX3_find_90 (by decide) ?_
            exact S_zret X (Or.inr rfl) (nle rfl) (nle rfl) dX3_find_94 (hPo _ _ (Or.inr ⟨_, _, _, _, _, rfl, rfl, hfe9, hbt9, hCv, hMv⟩))
        ·
          refine S_aload_n X dX3_find_53 rfl hL37_0 ?_
          refine S_get X fgX3_9_3 0 rfl hf0 dX3_find_54 ?_
          refine S_iload X dX3_find_57 hL37_4 ?_
          refine S_iald X 1 rfl (by omega) (by omega) (nle rfl) dX3_find_59 ?_
          refine S_ldc (n := 1000000000) X m1011 dX3_find_60 ?_
          refine S_icmp_ge (tgt := 74) X dX3_find_62 (by decide) (by omega) (by decide) (fun c_12 => ?_) (fun c_12 => ?_)
          ·
            refine S_iinc X dX3_find_74 (nle rfl) hL37_4 ?_
            refine S_goto (tgt := 37) X dX3_find_77 (by decide) ?_
            exact ih37 (b + 1) f9 b9 Cv Mv Sv _ (by omega) (by first | exact hf8 | exact hfe9) (by first | exact hb8 | exact hbt9) (by first | exact hC8 | exact hCv) (by first | exact hM8 | exact hMv) hL37_0 hL37_1 hL37_2 hL37_3 rfl (by omega)
          ·
            refine S_aload_n X dX3_find_65 rfl hL37_0 ?_
            refine S_iload X dX3_find_66 hL37_4 ?_
            refine S_aload_n X dX3_find_68 rfl hL37_1 ?_
            refine S_aload_n X dX3_find_69 rfl hL37_2 ?_
            refine S_iload_n X dX3_find_70 rfl hL37_3 ?_
            refine S_callv X (kX3_goOnFrom l oM fM mC mM mS Cv Mv Sv f9 b9 fP fS pl n ec oP oS aA aL Ab B Fo Ho Lt b lim hf0 hf1 hf2 hf3 hf4 hf5 hf6 hok hA2 (by omega) (by omega) hCv hMv (by omega) (by omega) (by omega)) (is := [0, 1, 2, 3, 4, 5, 6, 7]) rfl (run_V X lkX3_40 0 rfl rfl (is := [0, 1, 2, 3, 4, 5, 6, 7]) (avs := [iv b, rv oP, rv oS, iv lim]) (rest := []) rfl rfl (nle rfl) ⟨nle rfl, nle rfl⟩ ⟨nle rfl, nle rfl⟩ dX3_find_71 (by decide) rfl) (fun u_13 hp_14 => ?_)
            obtain ⟨f2_16, b2_17, Cn2_18, Mm2_19, Sm2_20, hu_22, h1_23, h2_24, h3_25, h4_26⟩ := hp_14
            subst hu_22
            refine ⟨rfl, ?_⟩
            refine S_w (ws' := [(oM, ob 3 (uF (uF fM 0 (iv f2_16)) 1 (iv b2_17))), (mC, ar 31 Cn2_18), (mM, ar 31 Mm2_19), (mS, ar 6 Sm2_20), (oP, ob 4 fP), (aA, ar 1206 Ab), (oS, ob 5 fS), (aL, ar 6 Lt)]) rfl ?_
            have hf8 := h1_23
            have hb8 := h2_24
            have hC8 := h3_25
            have hM8 := h4_26
            refine S_iinc X dX3_find_74 (nle rfl) hL37_4 ?_
            refine S_goto (tgt := 37) X dX3_find_77 (by decide) ?_
            exact ih37 (b + 1) f2_16 b2_17 Cn2_18 Mm2_19 Sm2_20 _ (by omega) (by first | exact hf8 | exact hfe9) (by first | exact hb8 | exact hbt9) (by first | exact hC8 | exact hCv) (by first | exact hM8 | exact hMv) hL37_0 hL37_1 hL37_2 hL37_3 rfl (by omega)
  exact lp37_0 (Int.toNat (n + 1 - 0) + 1) 0 1000000000 0 (uZ g2_4 0 0) (uZ Mm 0 0) Sm _ (by omega) (by omega) (by decide) (fun x h0 h1 => by unfold uZ; split; omega; rw [hg0 x h0 h1]; omega) (fun x h0 h1 => by unfold uZ; split; decide; exact hMr x h0 h1) rfl rfl rfl rfl rfl (by omega)
set_option maxHeartbeats 4000000 in
set_option maxRecDepth 100000 in
theorem kX11_marks (l : Launch) (h0 : Nat) (f : Nat → AV) (oW : Nat) (fW : Nat → AV) (fP : Nat → AV) (fS : Nat → AV) (pl : Int) (n : Int) (ec : Int) (mk : Int) (oP : Nat) (oS : Nat) (aA : Nat) (aT : Nat) (aW : Nat) (aS : Nat) (aB : Nat) (aF : Nat) (aH : Nat) (aL : Nat) (Ab : Int → Int) (Tm : Int → Int) (Wq : Int → Int) (Sp : Int → Int) (B : Int → Int) (Fo : Int → Int) (Ho : Int → Int) (Lt : Int → Int) (p0 : Int) (n0 : Int) (k0 : Int) (v : Int) (oM : Nat) (fM : Nat → AV) (mC : Nat) (mM : Nat) (mS : Nat) (Cn : Int → Int) (Mm : Int → Int) (Sm : Int → Int) (fe : Int) (bt : Int) (lim : Int) (hf0 : f 3 = rv oW) (hf1 : f 7 = rv oS) (hf2 : f 9 = rv oP) (hf3 : fW 0 = iv pl) (hf4 : fP 0 = rv aA) (hf5 : fP 1 = rv aT) (hf6 : fP 2 = rv aW) (hf7 : fP 3 = rv aS) (hf8 : fS 0 = iv pl) (hf9 : fS 1 = iv n) (hf10 : fS 2 = iv ec) (hf11 : fS 3 = iv mk) (hf12 : fS 4 = rv aB) (hf13 : fS 5 = rv aF) (hf14 : fS 6 = rv aH) (hf15 : fS 7 = rv aL) (hf16 : fM 2 = rv mC) (hf17 : fM 3 = rv mM) (hf18 : fM 4 = rv mS) (hf19 : f 10 = rv oM) (hf20 : f 12 = iv lim) (hz : okZ pl n ec Fo Ho B Lt) (hx_v : inR v) (hlim : 0 ≤ lim ∧ lim ≤ 999) (hfe : 0 ≤ fe ∧ fe ≤ 1000000000) (hbt : inR bt) (hCr : ∀ x, 0 ≤ x → x < 31 → 0 ≤ Cn x ∧ Cn x ≤ 1000000000) (hMr : ∀ x, 0 ≤ x → x < 31 → inR (Mm x)) : AMi l yX11_marks cX11_marks 2 .int 4 0 0 [rv h0, iv v] [(h0, ob 10 f), (oW, ob 7 fW), (oP, ob 4 (uF (uF (uF fP 6 (iv p0)) 7 (iv n0)) 8 (iv k0))), (aA, ar 1206 Ab), (aT, ar 180 Tm), (aW, ar 6 Wq), (aS, ar 30 Sp), (oS, ob 5 fS), (aB, ar 6 B), (aF, ar 6 Fo), (aH, ar 6 Ho), (aL, ar 6 Lt), (oM, ob 3 (uF (uF fM 0 (iv fe)) 1 (iv bt))), (mC, ar 31 Cn), (mM, ar 31 Mm), (mS, ar 6 Sm)] (fun z u => ∃ z9 : Int, ∃ p9 : Int, ∃ n9 : Int, ∃ k9 : Int, ∃ A2 : Int → Int, ∃ T2 : Int → Int, ∃ W2 : Int → Int, ∃ S2 : Int → Int, ∃ f2 : Int, ∃ b2 : Int, ∃ Cn2 : Int → Int, ∃ Mm2 : Int → Int, ∃ Sm2 : Int → Int, z = z9 ∧ u = [(h0, ob 10 f), (oW, ob 7 fW), (oP, ob 4 (uF (uF (uF fP 6 (iv p9)) 7 (iv n9)) 8 (iv k9))), (aA, ar 1206 A2), (aT, ar 180 T2), (aW, ar 6 W2), (aS, ar 30 S2), (oS, ob 5 fS), (aB, ar 6 B), (aF, ar 6 Fo), (aH, ar 6 Ho), (aL, ar 6 Lt), (oM, ob 3 (uF (uF fM 0 (iv f2)) 1 (iv b2))), (mC, ar 31 Cn2), (mM, ar 31 Mm2), (mS, ar 6 Sm2)] ∧ (0 ≤ f2 ∧ f2 ≤ 1000000000) ∧ inR b2 ∧ (∀ x, 0 ≤ x → x < 31 → 0 ≤ Cn2 x ∧ Cn2 x ≤ 1000000000) ∧ (∀ x, 0 ≤ x → x < 31 → inR (Mm2 x))) := by
  refine AMi.of2 rfl (nle rfl) ?_
  intro D G A p e s m args below meth c Po hPo X
  have hz6 := hz.2.1
  have hz0 := hz.1
  have hzn := hz.2.2.1
  have hzm := hz.2.2.2.1
  have hze := hz.2.2.2.2
  refine S_aload_n X dX11_marks_0 rfl rfl ?_
  refine S_iload_n X dX11_marks_1 rfl rfl ?_
  refine S_calli X (kX11_isOneOfTwo l h0 f oW fW pl v hf0 hf3 (by omega) (by omega)) (is := [0, 1]) rfl (run_V X lkX11_252 0 rfl rfl (is := [0, 1]) (avs := [iv v]) (rest := []) rfl rfl (nle rfl) ⟨nle rfl, nle rfl⟩ ⟨nle rfl, nle rfl⟩ dX11_marks_2 (by decide) rfl) (fun z_3 u_1 hp_2 => ?_)
  rcases hp_2 with ⟨hz_4, hu_5, hp_6⟩ | ⟨hz_7, hu_8, hp_9⟩
  ·
    subst hz_4
    subst hu_5
    refine ⟨rfl, ?_⟩
    refine S_w (ws' := [(h0, ob 10 f), (oW, ob 7 fW), (oP, ob 4 (uF (uF (uF fP 6 (iv p0)) 7 (iv n0)) 8 (iv k0))), (aA, ar 1206 Ab), (aT, ar 180 Tm), (aW, ar 6 Wq), (aS, ar 30 Sp), (oS, ob 5 fS), (aB, ar 6 B), (aF, ar 6 Fo), (aH, ar 6 Ho), (aL, ar 6 Lt), (oM, ob 3 (uF (uF fM 0 (iv fe)) 1 (iv bt))), (mC, ar 31 Cn), (mM, ar 31 Mm), (mS, ar 6 Sm)]) rfl ?_
    refine S_if_ne (tgt := 10) X dX11_marks_5 (by decide) (by decide) (fun h9 => absurd h9 (by decide)) (fun _ => ?_)
    refine S_iconst X dX11_marks_8 ?_
    exact S_iret X (nle rfl) (nle rfl) dX11_marks_9 (hPo _ _ (⟨_, _, _, _, _, _, _, _, _, _, _, _, _, rfl, rfl, hfe, hbt, hCr, hMr⟩))
  ·
    subst hz_7
    subst hu_8
    refine ⟨rfl, ?_⟩
    refine S_w (ws' := [(h0, ob 10 f), (oW, ob 7 fW), (oP, ob 4 (uF (uF (uF fP 6 (iv p0)) 7 (iv n0)) 8 (iv k0))), (aA, ar 1206 Ab), (aT, ar 180 Tm), (aW, ar 6 Wq), (aS, ar 30 Sp), (oS, ob 5 fS), (aB, ar 6 B), (aF, ar 6 Fo), (aH, ar 6 Ho), (aL, ar 6 Lt), (oM, ob 3 (uF (uF fM 0 (iv fe)) 1 (iv bt))), (mC, ar 31 Cn), (mM, ar 31 Mm), (mS, ar 6 Sm)]) rfl ?_
    refine S_if_ne (tgt := 10) X dX11_marks_5 (by decide) (by decide) (fun _ => ?_) (fun h9 => absurd h9 (by decide))
    have hok := hz.s (by omega)
    have hpl := hok.2.1
    have hpl1 := hok.1
    have hn1 := hok.2.2.1
    have hn2 := hok.2.2.2.1
    have hec := hok.2.2.2.2
    refine S_aload_n X dX11_marks_10 rfl rfl ?_
    refine S_get X fgX11_69_10 0 rfl hf2 dX11_marks_11 ?_
    refine S_aload_n X dX11_marks_14 rfl rfl ?_
    refine S_get X fgX11_59_10 0 rfl hf1 dX11_marks_15 ?_
    refine S_ldc (n := 1000000000) X m813 dX11_marks_18 ?_
    refine S_calli X (kX4_performE l fP fS pl n ec mk oP oS aA aT aW aS aB aF aH aL Ab Tm Wq Sp B Fo Ho Lt p0 n0 k0 hf4 hf5 hf6 hf7 hf8 hf9 hf10 hf11 hf12 hf13 hf14 hf15 (by omega)) (is := [2, 3, 4, 5, 6, 7, 8, 9, 10, 11]) rfl (run_V X lkX11_235 2 rfl rfl (is := [2, 3, 4, 5, 6, 7, 8, 9, 10, 11]) (avs := [rv oS, iv 1000000000]) (rest := []) rfl rfl (nle rfl) ⟨nle rfl, nle rfl⟩ ⟨nle rfl, nle rfl⟩ dX11_marks_20 (by decide) rfl) (fun z_14 u_12 hp_13 => ?_)
    obtain ⟨A2_15, T2_16, W2_17, S2_18, hz_19, hu_20, hq_21, hA2_22, hT2_23, hS2_24⟩ := hp_13
    subst hz_19
    subst hu_20
    refine ⟨rfl, ?_⟩
    refine S_w (ws' := [(h0, ob 10 f), (oW, ob 7 fW), (oP, ob 4 (uF (uF (uF fP 6 (iv pl)) 7 (iv n)) 8 (iv mk))), (aA, ar 1206 A2_15), (aT, ar 180 T2_16), (aW, ar 6 W2_17), (aS, ar 30 S2_18), (oS, ob 5 fS), (aB, ar 6 B), (aF, ar 6 Fo), (aH, ar 6 Ho), (aL, ar 6 Lt), (oM, ob 3 (uF (uF fM 0 (iv fe)) 1 (iv bt))), (mC, ar 31 Cn), (mM, ar 31 Mm), (mS, ar 6 Sm)]) rfl ?_
    have hAL := hA2_22
    have hTL := hT2_23
    have hSL := hS2_24
    refine S_pop X dX11_marks_23 ?_
    refine S_aload_n X dX11_marks_24 rfl rfl ?_
    refine S_get X fgX11_76_10 0 rfl hf19 dX11_marks_25 ?_
    refine S_aload_n X dX11_marks_28 rfl rfl ?_
    refine S_get X fgX11_69_10 0 rfl hf2 dX11_marks_29 ?_
    refine S_aload_n X dX11_marks_32 rfl rfl ?_
    refine S_get X fgX11_59_10 0 rfl hf1 dX11_marks_33 ?_
    refine S_aload_n X dX11_marks_36 rfl rfl ?_
    refine S_get X fgX11_89_10 0 rfl hf20 dX11_marks_37 ?_
    refine S_calli X (kX3_find l oM fM mC mM mS Cn Mm Sm fe bt (uF (uF (uF fP 6 (iv pl)) 7 (iv n)) 8 (iv mk)) fS pl n ec oP oS aA aL A2_15 B Fo Ho Lt lim hf16 hf17 hf18 hf4 hf8 hf9 hf15 hok hAL (by omega) (by omega) hMr (by omega)) (is := [12, 13, 14, 15, 2, 3, 7, 11]) rfl (run_V X lkX11_300 12 rfl rfl (is := [12, 13, 14, 15, 2, 3, 7, 11]) (avs := [rv oP, rv oS, iv lim]) (rest := []) rfl rfl (nle rfl) ⟨nle rfl, nle rfl⟩ ⟨nle rfl, nle rfl⟩ dX11_marks_40 (by decide) rfl) (fun z_27 u_25 hp_26 => ?_)
    rcases hp_26 with ⟨f2_28, b2_29, Cn2_30, Mm2_31, Sm2_32, hz_33, hu_34, h1_35, h2_36, h3_37, h4_38⟩ | ⟨f2_39, b2_40, Cn2_41, Mm2_42, Sm2_43, hz_44, hu_45, h1_46, h2_47, h3_48, h4_49⟩
    ·
      subst hz_33
      subst hu_34
      refine ⟨rfl, ?_⟩
      refine S_w (ws' := [(h0, ob 10 f), (oW, ob 7 fW), (oP, ob 4 (uF (uF (uF fP 6 (iv pl)) 7 (iv n)) 8 (iv mk))), (aA, ar 1206 A2_15), (aT, ar 180 T2_16), (aW, ar 6 W2_17), (aS, ar 30 S2_18), (oS, ob 5 fS), (aB, ar 6 B), (aF, ar 6 Fo), (aH, ar 6 Ho), (aL, ar 6 Lt), (oM, ob 3 (uF (uF fM 0 (iv f2_28)) 1 (iv b2_29))), (mC, ar 31 Cn2_30), (mM, ar 31 Mm2_31), (mS, ar 6 Sm2_32)]) rfl ?_
      have h91 := h1_35
      have h92 := h2_36
      have h93 := h3_37
      have h94 := h4_38
      refine S_if_ne (tgt := 48) X dX11_marks_43 (by decide) (by decide) (fun h9 => absurd h9 (by decide)) (fun _ => ?_)
      refine S_iconst X dX11_marks_46 ?_
      exact S_iret X (nle rfl) (nle rfl) dX11_marks_47 (hPo _ _ (⟨_, _, _, _, _, _, _, _, _, _, _, _, _, rfl, rfl, h91, h92, h93, h94⟩))
    ·
      subst hz_44
      subst hu_45
      refine ⟨rfl, ?_⟩
      refine S_w (ws' := [(h0, ob 10 f), (oW, ob 7 fW), (oP, ob 4 (uF (uF (uF fP 6 (iv pl)) 7 (iv n)) 8 (iv mk))), (aA, ar 1206 A2_15), (aT, ar 180 T2_16), (aW, ar 6 W2_17), (aS, ar 30 S2_18), (oS, ob 5 fS), (aB, ar 6 B), (aF, ar 6 Fo), (aH, ar 6 Ho), (aL, ar 6 Lt), (oM, ob 3 (uF (uF fM 0 (iv f2_39)) 1 (iv b2_40))), (mC, ar 31 Cn2_41), (mM, ar 31 Mm2_42), (mS, ar 6 Sm2_43)]) rfl ?_
      have h91 := h1_46
      have h92 := h2_47
      have h93 := h3_48
      have h94 := h4_49
      refine S_if_ne (tgt := 48) X dX11_marks_43 (by decide) (by decide) (fun _ => ?_) (fun h9 => absurd h9 (by decide))
      refine S_iload_n X dX11_marks_48 rfl rfl ?_
      refine S_if_ne (tgt := 62) X dX11_marks_49 (by decide) (by omega) (fun c_52 => ?_) (fun c_52 => ?_)
      ·
        refine S_aload_n X dX11_marks_62 rfl rfl ?_
        refine S_get X fgX11_76_10 0 rfl hf19 dX11_marks_63 ?_
        refine S_get (v := iv b2_40) X fgX11_307_3 12 rfl rfl dX11_marks_66 ?_
        exact S_iret X (nle rfl) (nle rfl) dX11_marks_69 (hPo _ _ (⟨_, _, _, _, _, _, _, _, _, _, _, _, _, rfl, rfl, h91, h92, h93, h94⟩))
      ·
        refine S_aload_n X dX11_marks_52 rfl rfl ?_
        refine S_get X fgX11_76_10 0 rfl hf19 dX11_marks_53 ?_
        refine S_get (v := iv f2_39) X fgX11_304_3 12 rfl rfl dX11_marks_56 ?_
        refine S_goto (tgt := 69) X dX11_marks_59 (by decide) ?_
        exact S_iret X (nle rfl) (nle rfl) dX11_marks_69 (hPo _ _ (⟨_, _, _, _, _, _, _, _, _, _, _, _, _, rfl, rfl, h91, h92, h93, h94⟩))
end pt_70cf4
