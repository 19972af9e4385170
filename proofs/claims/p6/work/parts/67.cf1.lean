theorem rk_in {g : Int → Int} {pl p : Int} (h : 0 ≤ p ∧ p < pl) : 0 ≤ rkI g pl p ∧ rkI g pl p < pl := by
  have key : ∀ q, 0 ≤ q → smI (fun o => if g o < g p ∨ g p = g o ∧ o < p then 1 else 0) q + (if p < q then 1 else 0) ≤ q := by
    refine upI (by rw [smI_0, if_neg (by omega)]; omega) (fun q hq ih => ?_)
    rw [smI_S hq]
    by_cases e : p = q
    · subst e
      rw [if_neg (by omega), if_pos (by omega)]
      rw [if_neg (by omega)] at ih
      omega
    · by_cases e2 : p < q
      · rw [if_pos e2] at ih
        rw [if_pos (show p < q + 1 by omega)]
        split <;> omega
      · rw [if_neg e2] at ih
        rw [if_neg (show ¬ p < q + 1 by omega)]
        split <;> omega
  have h1 := key pl (by omega)
  rw [if_pos h.2] at h1
  have h2 := sm01 (rk01 (g := g) (p := p)) pl (by omega)
  unfold rkI
  omega
theorem cplace_no {pl n ec mk b i : Int} {Fo Ho B0 Lt : Int → Int} (h0 : 0 ≤ pl) (h : ¬ (1 ≤ pl ∧ 0 ≤ b ∧ b < n) ∨ i < 0 ∨ pl ≤ i) : -1 = aPlace pl n ec mk Fo Ho B0 Lt b i := by
  unfold aPlace
  split
  · have key : ∀ p, 0 ≤ p → p ≤ pl → fiI (fun p => decide (rkI (tS pl ec mk Fo Ho B0 Lt b) pl p = i)) p = -1 := by
      refine upI (fun _ => rfl) (fun p hp ih hp2 => ?_)
      have h3 := rk_in (g := tS pl ec mk Fo Ho B0 Lt b) (pl := pl) (p := p) ⟨hp, by omega⟩
      exact fiI_skip hp (ih (by omega)) (decide_eq_false (by omega))
    exact (key pl h0 (Int.le_refl _)).symm
  · rfl
set_option maxHeartbeats 4000000 in
set_option maxRecDepth 100000 in
theorem kX11_isPlayer (l : Launch) (h0 : Nat) (f : Nat → AV) (oW : Nat) (fW : Nat → AV) (pl : Int) (q : Int) (hf0 : f 3 = rv oW) (hf1 : fW 0 = iv pl) (hpl : 0 ≤ pl ∧ pl ≤ 6) (hq : inR q) : AMi l yX11_isPlayer cX11_isPlayer 2 .boolean 0 0 0 [rv h0, iv q] [(h0, ob 10 f), (oW, ob 7 fW)] (fun z u => (z = 0 ∧ u = [(h0, ob 10 f), (oW, ob 7 fW)] ∧ (q < 0 ∨ pl ≤ q)) ∨ (z = 1 ∧ u = [(h0, ob 10 f), (oW, ob 7 fW)] ∧ (0 ≤ q ∧ q < pl))) := by
  refine AMi.of2 rfl (nle rfl) ?_
  intro D G A p e s m args below meth c Po hPo X
  refine S_iload_n X dX11_isPlayer_0 rfl rfl ?_
  refine S_if_lt (tgt := 19) X dX11_isPlayer_1 (by decide) (by omega) (fun c_1 => ?_) (fun c_1 => ?_)
  ·
    refine S_iconst X dX11_isPlayer_19 ?_
    exact S_zret X (Or.inl rfl) (nle rfl) (nle rfl) dX11_isPlayer_20 (hPo _ _ (Or.inl (⟨by first | rfl | omega, rfl, by first | rfl | assumption | omega⟩)))
  ·
    refine S_iload_n X dX11_isPlayer_4 rfl rfl ?_
    refine S_aload_n X dX11_isPlayer_5 rfl rfl ?_
    refine S_get X fgX11_35_10 0 rfl hf0 dX11_isPlayer_6 ?_
    refine S_get X fgX11_115_7 1 rfl hf1 dX11_isPlayer_9 ?_
    refine S_icmp_ge (tgt := 19) X dX11_isPlayer_12 (by decide) (by omega) (by omega) (fun c_2 => ?_) (fun c_2 => ?_)
    ·
      refine S_iconst X dX11_isPlayer_19 ?_
      exact S_zret X (Or.inl rfl) (nle rfl) (nle rfl) dX11_isPlayer_20 (hPo _ _ (Or.inl (⟨by first | rfl | omega, rfl, by first | rfl | assumption | omega⟩)))
    ·
      refine S_iconst X dX11_isPlayer_15 ?_
      refine S_goto (tgt := 20) X dX11_isPlayer_16 (by decide) ?_
      exact S_zret X (Or.inr rfl) (nle rfl) (nle rfl) dX11_isPlayer_20 (hPo _ _ (Or.inr (⟨by first | rfl | omega, rfl, by first | rfl | assumption | omega⟩)))
set_option maxHeartbeats 4000000 in
set_option maxRecDepth 100000 in
theorem kX11_isBar (l : Launch) (h0 : Nat) (f : Nat → AV) (oW : Nat) (fW : Nat → AV) (fS : Nat → AV) (pl : Int) (n : Int) (oS : Nat) (b : Int) (hf0 : f 3 = rv oW) (hf1 : f 7 = rv oS) (hf2 : fW 0 = iv pl) (hf3 : fS 1 = iv n) (hpl : 0 ≤ pl ∧ pl ≤ 6) (hn : 1 ≤ n ∧ n ≤ 30) (hb : inR b) : AMi l yX11_isBar cX11_isBar 2 .boolean 0 0 0 [rv h0, iv b] [(h0, ob 10 f), (oW, ob 7 fW), (oS, ob 5 fS)] (fun z u => (z = 0 ∧ u = [(h0, ob 10 f), (oW, ob 7 fW), (oS, ob 5 fS)] ∧ (pl = 0 ∨ b < 0 ∨ n ≤ b)) ∨ (z = 1 ∧ u = [(h0, ob 10 f), (oW, ob 7 fW), (oS, ob 5 fS)] ∧ (0 < pl ∧ 0 ≤ b ∧ b < n))) := by
  refine AMi.of2 rfl (nle rfl) ?_
  intro D G A p e s m args below meth c Po hPo X
  refine S_aload_n X dX11_isBar_0 rfl rfl ?_
  refine S_get X fgX11_35_10 0 rfl hf0 dX11_isBar_1 ?_
  refine S_get X fgX11_115_7 1 rfl hf2 dX11_isBar_4 ?_
  refine S_if_le (tgt := 29) X dX11_isBar_7 (by decide) (by omega) (fun c_1 => ?_) (fun c_1 => ?_)
  ·
    refine S_iconst X dX11_isBar_29 ?_
    exact S_zret X (Or.inl rfl) (nle rfl) (nle rfl) dX11_isBar_30 (hPo _ _ (Or.inl (⟨by first | rfl | omega, rfl, by first | rfl | assumption | omega⟩)))
  ·
    refine S_iload_n X dX11_isBar_10 rfl rfl ?_
    refine S_if_lt (tgt := 29) X dX11_isBar_11 (by decide) (by omega) (fun c_2 => ?_) (fun c_2 => ?_)
    ·
      refine S_iconst X dX11_isBar_29 ?_
      exact S_zret X (Or.inl rfl) (nle rfl) (nle rfl) dX11_isBar_30 (hPo _ _ (Or.inl (⟨by first | rfl | omega, rfl, by first | rfl | assumption | omega⟩)))
    ·
      refine S_iload_n X dX11_isBar_14 rfl rfl ?_
      refine S_aload_n X dX11_isBar_15 rfl rfl ?_
      refine S_get X fgX11_59_10 0 rfl hf1 dX11_isBar_16 ?_
      refine S_get X fgX11_182_5 2 rfl hf3 dX11_isBar_19 ?_
      refine S_icmp_ge (tgt := 29) X dX11_isBar_22 (by decide) (by omega) (by omega) (fun c_3 => ?_) (fun c_3 => ?_)
      ·
        refine S_iconst X dX11_isBar_29 ?_
        exact S_zret X (Or.inl rfl) (nle rfl) (nle rfl) dX11_isBar_30 (hPo _ _ (Or.inl (⟨by first | rfl | omega, rfl, by first | rfl | assumption | omega⟩)))
      ·
        refine S_iconst X dX11_isBar_25 ?_
        refine S_goto (tgt := 30) X dX11_isBar_26 (by decide) ?_
        exact S_zret X (Or.inr rfl) (nle rfl) (nle rfl) dX11_isBar_30 (hPo _ _ (Or.inr (⟨by first | rfl | omega, rfl, by first | rfl | assumption | omega⟩)))
set_option maxHeartbeats 4000000 in
set_option maxRecDepth 100000 in
theorem kX11_isOneOfTwo (l : Launch) (h0 : Nat) (f : Nat → AV) (oW : Nat) (fW : Nat → AV) (pl : Int) (v : Int) (hf0 : f 3 = rv oW) (hf1 : fW 0 = iv pl) (hpl : 0 ≤ pl ∧ pl ≤ 6) (hv : inR v) : AMi l yX11_isOneOfTwo cX11_isOneOfTwo 2 .boolean 0 0 0 [rv h0, iv v] [(h0, ob 10 f), (oW, ob 7 fW)] (fun z u => (z = 0 ∧ u = [(h0, ob 10 f), (oW, ob 7 fW)] ∧ (pl = 0 ∨ (v ≠ 0 ∧ v ≠ 1))) ∨ (z = 1 ∧ u = [(h0, ob 10 f), (oW, ob 7 fW)] ∧ (0 < pl ∧ (v = 0 ∨ v = 1)))) := by
  refine AMi.of2 rfl (nle rfl) ?_
  intro D G A p e s m args below meth c Po hPo X
  refine S_aload_n X dX11_isOneOfTwo_0 rfl rfl ?_
  refine S_get X fgX11_35_10 0 rfl hf0 dX11_isOneOfTwo_1 ?_
  refine S_get X fgX11_115_7 1 rfl hf1 dX11_isOneOfTwo_4 ?_
  refine S_if_le (tgt := 23) X dX11_isOneOfTwo_7 (by decide) (by omega) (fun c_1 => ?_) (fun c_1 => ?_)
  ·
    refine S_iconst X dX11_isOneOfTwo_23 ?_
    exact S_zret X (Or.inl rfl) (nle rfl) (nle rfl) dX11_isOneOfTwo_24 (hPo _ _ (Or.inl (⟨by first | rfl | omega, rfl, by first | rfl | assumption | omega⟩)))
  ·
    refine S_iload_n X dX11_isOneOfTwo_10 rfl rfl ?_
    refine S_if_eq (tgt := 19) X dX11_isOneOfTwo_11 (by decide) (by omega) (fun c_2 => ?_) (fun c_2 => ?_)
    ·
      refine S_iconst X dX11_isOneOfTwo_19 ?_
      refine S_goto (tgt := 24) X dX11_isOneOfTwo_20 (by decide) ?_
      exact S_zret X (Or.inr rfl) (nle rfl) (nle rfl) dX11_isOneOfTwo_24 (hPo _ _ (Or.inr (⟨by first | rfl | omega, rfl, by first | rfl | assumption | omega⟩)))
    ·
      refine S_iload_n X dX11_isOneOfTwo_14 rfl rfl ?_
      refine S_iconst X dX11_isOneOfTwo_15 ?_
      refine S_icmp_ne (tgt := 23) X dX11_isOneOfTwo_16 (by decide) (by omega) (by decide) (fun c_3 => ?_) (fun c_3 => ?_)
      ·
        refine S_iconst X dX11_isOneOfTwo_23 ?_
        exact S_zret X (Or.inl rfl) (nle rfl) (nle rfl) dX11_isOneOfTwo_24 (hPo _ _ (Or.inl (⟨by first | rfl | omega, rfl, by first | rfl | assumption | omega⟩)))
      ·
        refine S_iconst X dX11_isOneOfTwo_19 ?_
        refine S_goto (tgt := 24) X dX11_isOneOfTwo_20 (by decide) ?_
        exact S_zret X (Or.inr rfl) (nle rfl) (nle rfl) dX11_isOneOfTwo_24 (hPo _ _ (Or.inr (⟨by first | rfl | omega, rfl, by first | rfl | assumption | omega⟩)))
set_option maxHeartbeats 4000000 in
set_option maxRecDepth 100000 in
theorem kX4_performE (l : Launch) (fP : Nat → AV) (fS : Nat → AV) (pl : Int) (n : Int) (ec : Int) (mk : Int) (oP : Nat) (oS : Nat) (aA : Nat) (aT : Nat) (aW : Nat) (aS : Nat) (aB : Nat) (aF : Nat) (aH : Nat) (aL : Nat) (Ab : Int → Int) (Tm : Int → Int) (Wq : Int → Int) (Sp : Int → Int) (B : Int → Int) (Fo : Int → Int) (Ho : Int → Int) (Lt : Int → Int) (p0 : Int) (n0 : Int) (k0 : Int) (hf0 : fP 0 = rv aA) (hf1 : fP 1 = rv aT) (hf2 : fP 2 = rv aW) (hf3 : fP 3 = rv aS) (hf4 : fS 0 = iv pl) (hf5 : fS 1 = iv n) (hf6 : fS 2 = iv ec) (hf7 : fS 3 = iv mk) (hf8 : fS 4 = rv aB) (hf9 : fS 5 = rv aF) (hf10 : fS 6 = rv aH) (hf11 : fS 7 = rv aL) (hok : okS pl n ec Fo Ho B Lt) : AMi l yX4_perform cX4_perform 6 .int 2 0 0 [rv oP, rv oS, iv 1000000000] [(oP, ob 4 (uF (uF (uF fP 6 (iv p0)) 7 (iv n0)) 8 (iv k0))), (aA, ar 1206 Ab), (aT, ar 180 Tm), (aW, ar 6 Wq), (aS, ar 30 Sp), (oS, ob 5 fS), (aB, ar 6 B), (aF, ar 6 Fo), (aH, ar 6 Ho), (aL, ar 6 Lt)] (fun z u => ∃ A2 : Int → Int, ∃ T2 : Int → Int, ∃ W2 : Int → Int, ∃ S2 : Int → Int, z = WO pl n ec mk Fo Ho B Lt ∧ u = [(oP, ob 4 (uF (uF (uF fP 6 (iv pl)) 7 (iv n)) 8 (iv mk))), (aA, ar 1206 A2), (aT, ar 180 T2), (aW, ar 6 W2), (aS, ar 30 S2), (oS, ob 5 fS), (aB, ar 6 B), (aF, ar 6 Fo), (aH, ar 6 Ho), (aL, ar 6 Lt)] ∧ (WO pl n ec mk Fo Ho B Lt < 1000000000 ∨ n = 0) ∧ reg A2 (bF ec Fo Ho B) pl n 0 ∧ reg T2 (tS pl ec mk Fo Ho B Lt) pl n 0 ∧ (∀ x, 0 ≤ x → x < n → S2 x = (sS pl ec mk Fo Ho B Lt) x)) := by
  exact AMi.weaken (kX4_perform l fP fS pl n ec mk oP oS aA aT aW aS aB aF aH aL Ab Tm Wq Sp B Fo Ho Lt p0 n0 k0 1000000000 hf0 hf1 hf2 hf3 hf4 hf5 hf6 hf7 hf8 hf9 hf10 hf11 hok (by decide)) (fun z u h => h.elim (fun h9 => by exfalso; obtain ⟨_, _, _, _, _, _, h8⟩ := h9; have := hok.worst (mk := mk); omega) id)
set_option maxHeartbeats 4000000 in
set_option maxRecDepth 100000 in
theorem kX11_time (l : Launch) (h0 : Nat) (f : Nat → AV) (oW : Nat) (fW : Nat → AV) (fP : Nat → AV) (fS : Nat → AV) (pl : Int) (n : Int) (ec : Int) (mk : Int) (oP : Nat) (oS : Nat) (aA : Nat) (aT : Nat) (aW : Nat) (aS : Nat) (aB : Nat) (aF : Nat) (aH : Nat) (aL : Nat) (Ab : Int → Int) (Tm : Int → Int) (Wq : Int → Int) (Sp : Int → Int) (B : Int → Int) (Fo : Int → Int) (Ho : Int → Int) (Lt : Int → Int) (p0 : Int) (n0 : Int) (k0 : Int) (q : Int) (b : Int) (v : Int) (hf0 : f 3 = rv oW) (hf1 : f 7 = rv oS) (hf2 : f 9 = rv oP) (hf3 : fW 0 = iv pl) (hf4 : fP 0 = rv aA) (hf5 : fP 1 = rv aT) (hf6 : fP 2 = rv aW) (hf7 : fP 3 = rv aS) (hf8 : fS 0 = iv pl) (hf9 : fS 1 = iv n) (hf10 : fS 2 = iv ec) (hf11 : fS 3 = iv mk) (hf12 : fS 4 = rv aB) (hf13 : fS 5 = rv aF) (hf14 : fS 6 = rv aH) (hf15 : fS 7 = rv aL) (hz : okZ pl n ec Fo Ho B Lt) (hx_q : inR q) (hx_b : inR b) (hx_v : inR v) : AMi l yX11_time cX11_time 4 .int 4 0 0 [rv h0, iv q, iv b, iv v] [(h0, ob 10 f), (oW, ob 7 fW), (oP, ob 4 (uF (uF (uF fP 6 (iv p0)) 7 (iv n0)) 8 (iv k0))), (aA, ar 1206 Ab), (aT, ar 180 Tm), (aW, ar 6 Wq), (aS, ar 30 Sp), (oS, ob 5 fS), (aB, ar 6 B), (aF, ar 6 Fo), (aH, ar 6 Ho), (aL, ar 6 Lt)] (fun z u => ∃ p9 : Int, ∃ n9 : Int, ∃ k9 : Int, ∃ A2 : Int → Int, ∃ T2 : Int → Int, ∃ W2 : Int → Int, ∃ S2 : Int → Int, z = aTime pl n ec mk Fo Ho B Lt q b v ∧ u = [(h0, ob 10 f), (oW, ob 7 fW), (oP, ob 4 (uF (uF (uF fP 6 (iv p9)) 7 (iv n9)) 8 (iv k9))), (aA, ar 1206 A2), (aT, ar 180 T2), (aW, ar 6 W2), (aS, ar 30 S2), (oS, ob 5 fS), (aB, ar 6 B), (aF, ar 6 Fo), (aH, ar 6 Ho), (aL, ar 6 Lt)]) := by
  refine AMi.of2 rfl (nle rfl) ?_
  intro D G A p e s m args below meth c Po hPo X
  have hz6 := hz.2.1
  have hz0 := hz.1
  have hzn := hz.2.2.1
  have hzm := hz.2.2.2.1
  have hze := hz.2.2.2.2
  refine S_aload_n X dX11_time_0 rfl rfl ?_
  refine S_iload_n X dX11_time_1 rfl rfl ?_
  refine S_calli X (kX11_isPlayer l h0 f oW fW pl q hf0 hf3 (by omega) (by omega)) (is := [0, 1]) rfl (run_V X lkX11_147 0 rfl rfl (is := [0, 1]) (avs := [iv q]) (rest := []) rfl rfl (nle rfl) ⟨nle rfl, nle rfl⟩ ⟨nle rfl, nle rfl⟩ dX11_time_2 (by decide) rfl) (fun z_3 u_1 hp_2 => ?_)
  rcases hp_2 with ⟨hz_4, hu_5, hp_6⟩ | ⟨hz_7, hu_8, hp_9⟩
  ·
    subst hz_4
    subst hu_5
    refine ⟨rfl, ?_⟩
    refine S_w (ws' := [(h0, ob 10 f), (oW, ob 7 fW), (oP, ob 4 (uF (uF (uF fP 6 (iv p0)) 7 (iv n0)) 8 (iv k0))), (aA, ar 1206 Ab), (aT, ar 180 Tm), (aW, ar 6 Wq), (aS, ar 30 Sp), (oS, ob 5 fS), (aB, ar 6 B), (aF, ar 6 Fo), (aH, ar 6 Ho), (aL, ar 6 Lt)]) rfl ?_
    refine S_if_eq (tgt := 16) X dX11_time_5 (by decide) (by decide) (fun _ => ?_) (fun h9 => absurd h9 (by decide))
    refine S_iconst X dX11_time_16 ?_
    exact S_iret X (nle rfl) (nle rfl) dX11_time_17 (hPo _ _ (⟨_, _, _, _, _, _, _, by unfold aTime; rw [if_neg (by omega)], rfl⟩))
  ·
    subst hz_7
    subst hu_8
    refine ⟨rfl, ?_⟩
    refine S_w (ws' := [(h0, ob 10 f), (oW, ob 7 fW), (oP, ob 4 (uF (uF (uF fP 6 (iv p0)) 7 (iv n0)) 8 (iv k0))), (aA, ar 1206 Ab), (aT, ar 180 Tm), (aW, ar 6 Wq), (aS, ar 30 Sp), (oS, ob 5 fS), (aB, ar 6 B), (aF, ar 6 Fo), (aH, ar 6 Ho), (aL, ar 6 Lt)]) rfl ?_
    refine S_if_eq (tgt := 16) X dX11_time_5 (by decide) (by decide) (fun h9 => absurd h9 (by decide)) (fun _ => ?_)
    refine S_aload_n X dX11_time_8 rfl rfl ?_
    refine S_iload_n X dX11_time_9 rfl rfl ?_
    refine S_calli X (kX11_isBar l h0 f oW fW fS pl n oS b hf0 hf1 hf3 hf9 (by omega) (by omega) (by omega)) (is := [0, 1, 7]) rfl (run_V X lkX11_231 0 rfl rfl (is := [0, 1, 7]) (avs := [iv b]) (rest := []) rfl rfl (nle rfl) ⟨nle rfl, nle rfl⟩ ⟨nle rfl, nle rfl⟩ dX11_time_10 (by decide) rfl) (fun z_14 u_12 hp_13 => ?_)
    rcases hp_13 with ⟨hz_15, hu_16, hp_17⟩ | ⟨hz_18, hu_19, hp_20⟩
    ·
      subst hz_15
      subst hu_16
      refine ⟨rfl, ?_⟩
      refine S_w (ws' := [(h0, ob 10 f), (oW, ob 7 fW), (oP, ob 4 (uF (uF (uF fP 6 (iv p0)) 7 (iv n0)) 8 (iv k0))), (aA, ar 1206 Ab), (aT, ar 180 Tm), (aW, ar 6 Wq), (aS, ar 30 Sp), (oS, ob 5 fS), (aB, ar 6 B), (aF, ar 6 Fo), (aH, ar 6 Ho), (aL, ar 6 Lt)]) rfl ?_
      refine S_if_ne (tgt := 18) X dX11_time_13 (by decide) (by decide) (fun h9 => absurd h9 (by decide)) (fun _ => ?_)
      refine S_iconst X dX11_time_16 ?_
      exact S_iret X (nle rfl) (nle rfl) dX11_time_17 (hPo _ _ (⟨_, _, _, _, _, _, _, by unfold aTime; rw [if_neg (by omega)], rfl⟩))
    ·
      subst hz_18
      subst hu_19
      refine ⟨rfl, ?_⟩
      refine S_w (ws' := [(h0, ob 10 f), (oW, ob 7 fW), (oP, ob 4 (uF (uF (uF fP 6 (iv p0)) 7 (iv n0)) 8 (iv k0))), (aA, ar 1206 Ab), (aT, ar 180 Tm), (aW, ar 6 Wq), (aS, ar 30 Sp), (oS, ob 5 fS), (aB, ar 6 B), (aF, ar 6 Fo), (aH, ar 6 Ho), (aL, ar 6 Lt)]) rfl ?_
      refine S_if_ne (tgt := 18) X dX11_time_13 (by decide) (by decide) (fun _ => ?_) (fun h9 => absurd h9 (by decide))
      have hok := hz.s (by omega)
      have hpl := hok.2.1
      have hpl1 := hok.1
      have hn1 := hok.2.2.1
      have hn2 := hok.2.2.2.1
      have hec := hok.2.2.2.2
      refine S_aload_n X dX11_time_18 rfl rfl ?_
      refine S_get X fgX11_69_10 0 rfl hf2 dX11_time_19 ?_
      refine S_aload_n X dX11_time_22 rfl rfl ?_
      refine S_get X fgX11_59_10 0 rfl hf1 dX11_time_23 ?_
      refine S_ldc (n := 1000000000) X m813 dX11_time_26 ?_
      refine S_calli X (kX4_performE l fP fS pl n ec mk oP oS aA aT aW aS aB aF aH aL Ab Tm Wq Sp B Fo Ho Lt p0 n0 k0 hf4 hf5 hf6 hf7 hf8 hf9 hf10 hf11 hf12 hf13 hf14 hf15 (by omega)) (is := [2, 3, 4, 5, 6, 7, 8, 9, 10, 11]) rfl (run_V X lkX11_235 2 rfl rfl (is := [2, 3, 4, 5, 6, 7, 8, 9, 10, 11]) (avs := [rv oS, iv 1000000000]) (rest := []) rfl rfl (nle rfl) ⟨nle rfl, nle rfl⟩ ⟨nle rfl, nle rfl⟩ dX11_time_28 (by decide) rfl) (fun z_25 u_23 hp_24 => ?_)
      obtain ⟨A2_26, T2_27, W2_28, S2_29, hz_30, hu_31, hq_32, hA2_33, hT2_34, hS2_35⟩ := hp_24
      subst hz_30
      subst hu_31
      refine ⟨rfl, ?_⟩
      refine S_w (ws' := [(h0, ob 10 f), (oW, ob 7 fW), (oP, ob 4 (uF (uF (uF fP 6 (iv pl)) 7 (iv n)) 8 (iv mk))), (aA, ar 1206 A2_26), (aT, ar 180 T2_27), (aW, ar 6 W2_28), (aS, ar 30 S2_29), (oS, ob 5 fS), (aB, ar 6 B), (aF, ar 6 Fo), (aH, ar 6 Ho), (aL, ar 6 Lt)]) rfl ?_
      have hAL := hA2_33
      have hTL := hT2_34
      have hSL := hS2_35
      refine S_pop X dX11_time_31 ?_
      refine S_iload_n X dX11_time_32 rfl rfl ?_
      by_cases hs_36 : v = 0
      · refine S_tswIn (j := 0) (tgt := 60) X dX11_time_33 hs_36 rfl (by decide) (by decide) ?_
        refine S_aload_n X dX11_time_60 rfl rfl ?_
        refine S_get X fgX11_69_10 0 rfl hf2 dX11_time_61 ?_
        refine S_iload_n X dX11_time_64 rfl rfl ?_
        refine S_iload_n X dX11_time_65 rfl rfl ?_
        refine S_calli X (kX4_aheadOfWaiting l (uF (uF (uF fP 6 (iv pl)) 7 (iv n)) 8 (iv mk)) oP aT T2_27 q b hf5 (by omega)) (is := [2, 4]) rfl (run_V X lkX11_239 2 rfl rfl (is := [2, 4]) (avs := [iv q, iv b]) (rest := []) rfl rfl (nle rfl) ⟨nle rfl, nle rfl⟩ ⟨nle rfl, nle rfl⟩ dX11_time_66 (by decide) rfl) (fun z_39 u_37 hp_38 => ?_)
        obtain ⟨hz_40, hu_41⟩ := hp_38
        subst hz_40
        subst hu_41
        refine ⟨rfl, ?_⟩
        refine S_w (ws' := [(h0, ob 10 f), (oW, ob 7 fW), (oP, ob 4 (uF (uF (uF fP 6 (iv pl)) 7 (iv n)) 8 (iv mk))), (aA, ar 1206 A2_26), (aT, ar 180 T2_27), (aW, ar 6 W2_28), (aS, ar 30 S2_29), (oS, ob 5 fS), (aB, ar 6 B), (aF, ar 6 Fo), (aH, ar 6 Ho), (aL, ar 6 Lt)]) rfl ?_
        exact S_iret X (nle rfl) (nle rfl) dX11_time_69 (hPo _ _ (⟨_, _, _, _, _, _, _, by unfold aTime; rw [if_pos (by omega)]; first | (rw [if_pos (by omega)]; exact hTL.at (by omega) (by omega) (by omega) (by omega) (by omega)) | (rw [if_neg (by omega), if_pos (by omega)]) | (rw [if_neg (by omega), if_neg (by omega)]; exact hAL.at (by omega) (by omega) (by omega) (by omega) (by omega)), rfl⟩))
      by_cases hs_42 : v = 1
      · refine S_tswIn (j := 1) (tgt := 70) X dX11_time_33 hs_42 rfl (by decide) (by decide) ?_
        refine S_aload_n X dX11_time_70 rfl rfl ?_
        refine S_get X fgX11_69_10 0 rfl hf2 dX11_time_71 ?_
        refine S_iload_n X dX11_time_74 rfl rfl ?_
        refine S_iload_n X dX11_time_75 rfl rfl ?_
        refine S_calli X (kX4_behindWaiting l (uF (uF (uF fP 6 (iv pl)) 7 (iv n)) 8 (iv mk)) pl n ec mk oP aT T2_27 B Fo Ho Lt q b hf5 rfl rfl (by omega) hTL (by omega) (by omega)) (is := [2, 4]) rfl (run_V X lkX11_243 2 rfl rfl (is := [2, 4]) (avs := [iv q, iv b]) (rest := []) rfl rfl (nle rfl) ⟨nle rfl, nle rfl⟩ ⟨nle rfl, nle rfl⟩ dX11_time_76 (by decide) rfl) (fun z_45 u_43 hp_44 => ?_)
        obtain ⟨hz_46, hu_47⟩ := hp_44
        subst hz_46
        subst hu_47
        refine ⟨rfl, ?_⟩
        refine S_w (ws' := [(h0, ob 10 f), (oW, ob 7 fW), (oP, ob 4 (uF (uF (uF fP 6 (iv pl)) 7 (iv n)) 8 (iv mk))), (aA, ar 1206 A2_26), (aT, ar 180 T2_27), (aW, ar 6 W2_28), (aS, ar 30 S2_29), (oS, ob 5 fS), (aB, ar 6 B), (aF, ar 6 Fo), (aH, ar 6 Ho), (aL, ar 6 Lt)]) rfl ?_
        exact S_iret X (nle rfl) (nle rfl) dX11_time_79 (hPo _ _ (⟨_, _, _, _, _, _, _, by unfold aTime; rw [if_pos (by omega)]; first | (rw [if_pos (by omega)]; exact hTL.at (by omega) (by omega) (by omega) (by omega) (by omega)) | (rw [if_neg (by omega), if_pos (by omega)]) | (rw [if_neg (by omega), if_neg (by omega)]; exact hAL.at (by omega) (by omega) (by omega) (by omega) (by omega)), rfl⟩))
      by_cases hs_48 : v = 2
      · refine S_tswIn (j := 2) (tgt := 80) X dX11_time_33 hs_48 rfl (by decide) (by decide) ?_
        refine S_aload_n X dX11_time_80 rfl rfl ?_
        refine S_get X fgX11_69_10 0 rfl hf2 dX11_time_81 ?_
        refine S_iload_n X dX11_time_84 rfl rfl ?_
        refine S_iload_n X dX11_time_85 rfl rfl ?_
        refine S_calli X (kX4_beatIn l (uF (uF (uF fP 6 (iv pl)) 7 (iv n)) 8 (iv mk)) oP aA A2_26 q b hf4 (by omega)) (is := [2, 3]) rfl (run_V X lkX11_246 2 rfl rfl (is := [2, 3]) (avs := [iv q, iv b]) (rest := []) rfl rfl (nle rfl) ⟨nle rfl, nle rfl⟩ ⟨nle rfl, nle rfl⟩ dX11_time_86 (by decide) rfl) (fun z_51 u_49 hp_50 => ?_)
        obtain ⟨hz_52, hu_53⟩ := hp_50
        subst hz_52
        subst hu_53
        refine ⟨rfl, ?_⟩
        refine S_w (ws' := [(h0, ob 10 f), (oW, ob 7 fW), (oP, ob 4 (uF (uF (uF fP 6 (iv pl)) 7 (iv n)) 8 (iv mk))), (aA, ar 1206 A2_26), (aT, ar 180 T2_27), (aW, ar 6 W2_28), (aS, ar 30 S2_29), (oS, ob 5 fS), (aB, ar 6 B), (aF, ar 6 Fo), (aH, ar 6 Ho), (aL, ar 6 Lt)]) rfl ?_
        exact S_iret X (nle rfl) (nle rfl) dX11_time_89 (hPo _ _ (⟨_, _, _, _, _, _, _, by unfold aTime; rw [if_pos (by omega)]; first | (rw [if_pos (by omega)]; exact hTL.at (by omega) (by omega) (by omega) (by omega) (by omega)) | (rw [if_neg (by omega), if_pos (by omega)]) | (rw [if_neg (by omega), if_neg (by omega)]; exact hAL.at (by omega) (by omega) (by omega) (by omega) (by omega)), rfl⟩))
      refine S_tswOut (tgt := 90) X dX11_time_33 (by omega) (by omega) (by decide) ?_
      refine S_iconst X dX11_time_90 ?_
      exact S_iret X (nle rfl) (nle rfl) dX11_time_91 (hPo _ _ (⟨_, _, _, _, _, _, _, by unfold aTime; rw [if_neg (by omega)], rfl⟩))
set_option maxHeartbeats 4000000 in
set_option maxRecDepth 100000 in
theorem kX11_spread (l : Launch) (h0 : Nat) (f : Nat → AV) (oW : Nat) (fW : Nat → AV) (fP : Nat → AV) (fS : Nat → AV) (pl : Int) (n : Int) (ec : Int) (mk : Int) (oP : Nat) (oS : Nat) (aA : Nat) (aT : Nat) (aW : Nat) (aS : Nat) (aB : Nat) (aF : Nat) (aH : Nat) (aL : Nat) (Ab : Int → Int) (Tm : Int → Int) (Wq : Int → Int) (Sp : Int → Int) (B : Int → Int) (Fo : Int → Int) (Ho : Int → Int) (Lt : Int → Int) (p0 : Int) (n0 : Int) (k0 : Int) (b : Int) (hf0 : f 3 = rv oW) (hf1 : f 7 = rv oS) (hf2 : f 9 = rv oP) (hf3 : fW 0 = iv pl) (hf4 : fP 0 = rv aA) (hf5 : fP 1 = rv aT) (hf6 : fP 2 = rv aW) (hf7 : fP 3 = rv aS) (hf8 : fS 0 = iv pl) (hf9 : fS 1 = iv n) (hf10 : fS 2 = iv ec) (hf11 : fS 3 = iv mk) (hf12 : fS 4 = rv aB) (hf13 : fS 5 = rv aF) (hf14 : fS 6 = rv aH) (hf15 : fS 7 = rv aL) (hz : okZ pl n ec Fo Ho B Lt) (hx_b : inR b) : AMi l yX11_spread cX11_spread 2 .int 4 0 0 [rv h0, iv b] [(h0, ob 10 f), (oW, ob 7 fW), (oP, ob 4 (uF (uF (uF fP 6 (iv p0)) 7 (iv n0)) 8 (iv k0))), (aA, ar 1206 Ab), (aT, ar 180 Tm), (aW, ar 6 Wq), (aS, ar 30 Sp), (oS, ob 5 fS), (aB, ar 6 B), (aF, ar 6 Fo), (aH, ar 6 Ho), (aL, ar 6 Lt)] (fun z u => ∃ p9 : Int, ∃ n9 : Int, ∃ k9 : Int, ∃ A2 : Int → Int, ∃ T2 : Int → Int, ∃ W2 : Int → Int, ∃ S2 : Int → Int, z = aSpread pl n ec mk Fo Ho B Lt b ∧ u = [(h0, ob 10 f), (oW, ob 7 fW), (oP, ob 4 (uF (uF (uF fP 6 (iv p9)) 7 (iv n9)) 8 (iv k9))), (aA, ar 1206 A2), (aT, ar 180 T2), (aW, ar 6 W2), (aS, ar 30 S2), (oS, ob 5 fS), (aB, ar 6 B), (aF, ar 6 Fo), (aH, ar 6 Ho), (aL, ar 6 Lt)]) := by
  refine AMi.of2 rfl (nle rfl) ?_
  intro D G A p e s m args below meth c Po hPo X
  have hz6 := hz.2.1
  have hz0 := hz.1
  have hzn := hz.2.2.1
  have hzm := hz.2.2.2.1
  have hze := hz.2.2.2.2
  refine S_aload_n X dX11_spread_0 rfl rfl ?_
  refine S_iload_n X dX11_spread_1 rfl rfl ?_
  refine S_calli X (kX11_isBar l h0 f oW fW fS pl n oS b hf0 hf1 hf3 hf9 (by omega) (by omega) (by omega)) (is := [0, 1, 7]) rfl (run_V X lkX11_231 0 rfl rfl (is := [0, 1, 7]) (avs := [iv b]) (rest := []) rfl rfl (nle rfl) ⟨nle rfl, nle rfl⟩ ⟨nle rfl, nle rfl⟩ dX11_spread_2 (by decide) rfl) (fun z_3 u_1 hp_2 => ?_)
  rcases hp_2 with ⟨hz_4, hu_5, hp_6⟩ | ⟨hz_7, hu_8, hp_9⟩
  ·
    subst hz_4
    subst hu_5
    refine ⟨rfl, ?_⟩
    refine S_w (ws' := [(h0, ob 10 f), (oW, ob 7 fW), (oP, ob 4 (uF (uF (uF fP 6 (iv p0)) 7 (iv n0)) 8 (iv k0))), (aA, ar 1206 Ab), (aT, ar 180 Tm), (aW, ar 6 Wq), (aS, ar 30 Sp), (oS, ob 5 fS), (aB, ar 6 B), (aF, ar 6 Fo), (aH, ar 6 Ho), (aL, ar 6 Lt)]) rfl ?_
    refine S_if_ne (tgt := 10) X dX11_spread_5 (by decide) (by decide) (fun h9 => absurd h9 (by decide)) (fun _ => ?_)
    refine S_iconst X dX11_spread_8 ?_
    exact S_iret X (nle rfl) (nle rfl) dX11_spread_9 (hPo _ _ (⟨_, _, _, _, _, _, _, by unfold aSpread; rw [if_neg (by omega)], rfl⟩))
  ·
    subst hz_7
    subst hu_8
    refine ⟨rfl, ?_⟩
    refine S_w (ws' := [(h0, ob 10 f), (oW, ob 7 fW), (oP, ob 4 (uF (uF (uF fP 6 (iv p0)) 7 (iv n0)) 8 (iv k0))), (aA, ar 1206 Ab), (aT, ar 180 Tm), (aW, ar 6 Wq), (aS, ar 30 Sp), (oS, ob 5 fS), (aB, ar 6 B), (aF, ar 6 Fo), (aH, ar 6 Ho), (aL, ar 6 Lt)]) rfl ?_
    refine S_if_ne (tgt := 10) X dX11_spread_5 (by decide) (by decide) (fun _ => ?_) (fun h9 => absurd h9 (by decide))
    have hok := hz.s (by omega)
    have hpl := hok.2.1
    have hpl1 := hok.1
    have hn1 := hok.2.2.1
    have hn2 := hok.2.2.2.1
    have hec := hok.2.2.2.2
    refine S_aload_n X dX11_spread_10 rfl rfl ?_
    refine S_get X fgX11_69_10 0 rfl hf2 dX11_spread_11 ?_
    refine S_aload_n X dX11_spread_14 rfl rfl ?_
    refine S_get X fgX11_59_10 0 rfl hf1 dX11_spread_15 ?_
    refine S_ldc (n := 1000000000) X m813 dX11_spread_18 ?_
    refine S_calli X (kX4_performE l fP fS pl n ec mk oP oS aA aT aW aS aB aF aH aL Ab Tm Wq Sp B Fo Ho Lt p0 n0 k0 hf4 hf5 hf6 hf7 hf8 hf9 hf10 hf11 hf12 hf13 hf14 hf15 (by omega)) (is := [2, 3, 4, 5, 6, 7, 8, 9, 10, 11]) rfl (run_V X lkX11_235 2 rfl rfl (is := [2, 3, 4, 5, 6, 7, 8, 9, 10, 11]) (avs := [rv oS, iv 1000000000]) (rest := []) rfl rfl (nle rfl) ⟨nle rfl, nle rfl⟩ ⟨nle rfl, nle rfl⟩ dX11_spread_20 (by decide) rfl) (fun z_14 u_12 hp_13 => ?_)
    obtain ⟨A2_15, T2_16, W2_17, S2_18, hz_19, hu_20, hq_21, hA2_22, hT2_23, hS2_24⟩ := hp_13
    subst hz_19
    subst hu_20
    refine ⟨rfl, ?_⟩
    refine S_w (ws' := [(h0, ob 10 f), (oW, ob 7 fW), (oP, ob 4 (uF (uF (uF fP 6 (iv pl)) 7 (iv n)) 8 (iv mk))), (aA, ar 1206 A2_15), (aT, ar 180 T2_16), (aW, ar 6 W2_17), (aS, ar 30 S2_18), (oS, ob 5 fS), (aB, ar 6 B), (aF, ar 6 Fo), (aH, ar 6 Ho), (aL, ar 6 Lt)]) rfl ?_
    have hAL := hA2_22
    have hTL := hT2_23
    have hSL := hS2_24
    refine S_pop X dX11_spread_23 ?_
    refine S_aload_n X dX11_spread_24 rfl rfl ?_
    refine S_get X fgX11_69_10 0 rfl hf2 dX11_spread_25 ?_
    refine S_get X fgX11_249_4 2 rfl hf7 dX11_spread_28 ?_
    refine S_iload_n X dX11_spread_31 rfl rfl ?_
    refine S_iald X 6 rfl (by omega) (by omega) (nle rfl) dX11_spread_32 ?_
    exact S_iret X (nle rfl) (nle rfl) dX11_spread_33 (hPo _ _ (⟨_, _, _, _, _, _, _, by unfold aSpread; rw [if_pos (by omega)]; exact hSL b (by omega) (by omega), rfl⟩))
set_option maxHeartbeats 4000000 in
set_option maxRecDepth 100000 in
theorem kX11_worst (l : Launch) (h0 : Nat) (f : Nat → AV) (oW : Nat) (fW : Nat → AV) (fP : Nat → AV) (fS : Nat → AV) (pl : Int) (n : Int) (ec : Int) (mk : Int) (oP : Nat) (oS : Nat) (aA : Nat) (aT : Nat) (aW : Nat) (aS : Nat) (aB : Nat) (aF : Nat) (aH : Nat) (aL : Nat) (Ab : Int → Int) (Tm : Int → Int) (Wq : Int → Int) (Sp : Int → Int) (B : Int → Int) (Fo : Int → Int) (Ho : Int → Int) (Lt : Int → Int) (p0 : Int) (n0 : Int) (k0 : Int) (v : Int) (hf0 : f 3 = rv oW) (hf1 : f 7 = rv oS) (hf2 : f 9 = rv oP) (hf3 : fW 0 = iv pl) (hf4 : fP 0 = rv aA) (hf5 : fP 1 = rv aT) (hf6 : fP 2 = rv aW) (hf7 : fP 3 = rv aS) (hf8 : fS 0 = iv pl) (hf9 : fS 1 = iv n) (hf10 : fS 2 = iv ec) (hf11 : fS 3 = iv mk) (hf12 : fS 4 = rv aB) (hf13 : fS 5 = rv aF) (hf14 : fS 6 = rv aH) (hf15 : fS 7 = rv aL) (hz : okZ pl n ec Fo Ho B Lt) (hx_v : inR v) : AMi l yX11_worst cX11_worst 3 .int 4 0 0 [rv h0, iv v] [(h0, ob 10 f), (oW, ob 7 fW), (oP, ob 4 (uF (uF (uF fP 6 (iv p0)) 7 (iv n0)) 8 (iv k0))), (aA, ar 1206 Ab), (aT, ar 180 Tm), (aW, ar 6 Wq), (aS, ar 30 Sp), (oS, ob 5 fS), (aB, ar 6 B), (aF, ar 6 Fo), (aH, ar 6 Ho), (aL, ar 6 Lt)] (fun z u => ∃ p9 : Int, ∃ n9 : Int, ∃ k9 : Int, ∃ A2 : Int → Int, ∃ T2 : Int → Int, ∃ W2 : Int → Int, ∃ S2 : Int → Int, z = aWorst pl n ec mk Fo Ho B Lt v ∧ u = [(h0, ob 10 f), (oW, ob 7 fW), (oP, ob 4 (uF (uF (uF fP 6 (iv p9)) 7 (iv n9)) 8 (iv k9))), (aA, ar 1206 A2), (aT, ar 180 T2), (aW, ar 6 W2), (aS, ar 30 S2), (oS, ob 5 fS), (aB, ar 6 B), (aF, ar 6 Fo), (aH, ar 6 Ho), (aL, ar 6 Lt)]) := by
  refine AMi.of2 rfl (nle rfl) ?_
  intro D G A p e s m args below meth c Po hPo X
  have hz6 := hz.2.1
  have hz0 := hz.1
  have hzn := hz.2.2.1
  have hzm := hz.2.2.2.1
  have hze := hz.2.2.2.2
  refine S_aload_n X dX11_worst_0 rfl rfl ?_
  refine S_iload_n X dX11_worst_1 rfl rfl ?_
  refine S_calli X (kX11_isOneOfTwo l h0 f oW fW pl v hf0 hf3 (by omega) (by omega)) (is := [0, 1]) rfl (run_V X lkX11_252 0 rfl rfl (is := [0, 1]) (avs := [iv v]) (rest := []) rfl rfl (nle rfl) ⟨nle rfl, nle rfl⟩ ⟨nle rfl, nle rfl⟩ dX11_worst_2 (by decide) rfl) (fun z_3 u_1 hp_2 => ?_)
  rcases hp_2 with ⟨hz_4, hu_5, hp_6⟩ | ⟨hz_7, hu_8, hp_9⟩
  ·
    subst hz_4
    subst hu_5
    refine ⟨rfl, ?_⟩
    refine S_w (ws' := [(h0, ob 10 f), (oW, ob 7 fW), (oP, ob 4 (uF (uF (uF fP 6 (iv p0)) 7 (iv n0)) 8 (iv k0))), (aA, ar 1206 Ab), (aT, ar 180 Tm), (aW, ar 6 Wq), (aS, ar 30 Sp), (oS, ob 5 fS), (aB, ar 6 B), (aF, ar 6 Fo), (aH, ar 6 Ho), (aL, ar 6 Lt)]) rfl ?_
    refine S_if_ne (tgt := 10) X dX11_worst_5 (by decide) (by decide) (fun h9 => absurd h9 (by decide)) (fun _ => ?_)
    refine S_iconst X dX11_worst_8 ?_
    exact S_iret X (nle rfl) (nle rfl) dX11_worst_9 (hPo _ _ (⟨_, _, _, _, _, _, _, by unfold aWorst; rw [if_neg (by omega)], rfl⟩))
  ·
    subst hz_7
    subst hu_8
    refine ⟨rfl, ?_⟩
    refine S_w (ws' := [(h0, ob 10 f), (oW, ob 7 fW), (oP, ob 4 (uF (uF (uF fP 6 (iv p0)) 7 (iv n0)) 8 (iv k0))), (aA, ar 1206 Ab), (aT, ar 180 Tm), (aW, ar 6 Wq), (aS, ar 30 Sp), (oS, ob 5 fS), (aB, ar 6 B), (aF, ar 6 Fo), (aH, ar 6 Ho), (aL, ar 6 Lt)]) rfl ?_
    refine S_if_ne (tgt := 10) X dX11_worst_5 (by decide) (by decide) (fun _ => ?_) (fun h9 => absurd h9 (by decide))
    have hok := hz.s (by omega)
    have hpl := hok.2.1
    have hpl1 := hok.1
    have hn1 := hok.2.2.1
    have hn2 := hok.2.2.2.1
    have hec := hok.2.2.2.2
    refine S_aload_n X dX11_worst_10 rfl rfl ?_
    refine S_get X fgX11_69_10 0 rfl hf2 dX11_worst_11 ?_
    refine S_aload_n X dX11_worst_14 rfl rfl ?_
    refine S_get X fgX11_59_10 0 rfl hf1 dX11_worst_15 ?_
    refine S_ldc (n := 1000000000) X m813 dX11_worst_18 ?_
    refine S_calli X (kX4_performE l fP fS pl n ec mk oP oS aA aT aW aS aB aF aH aL Ab Tm Wq Sp B Fo Ho Lt p0 n0 k0 hf4 hf5 hf6 hf7 hf8 hf9 hf10 hf11 hf12 hf13 hf14 hf15 (by omega)) (is := [2, 3, 4, 5, 6, 7, 8, 9, 10, 11]) rfl (run_V X lkX11_235 2 rfl rfl (is := [2, 3, 4, 5, 6, 7, 8, 9, 10, 11]) (avs := [rv oS, iv 1000000000]) (rest := []) rfl rfl (nle rfl) ⟨nle rfl, nle rfl⟩ ⟨nle rfl, nle rfl⟩ dX11_worst_20 (by decide) rfl) (fun z_14 u_12 hp_13 => ?_)
    obtain ⟨A2_15, T2_16, W2_17, S2_18, hz_19, hu_20, hq_21, hA2_22, hT2_23, hS2_24⟩ := hp_13
    subst hz_19
    subst hu_20
    refine ⟨rfl, ?_⟩
    refine S_w (ws' := [(h0, ob 10 f), (oW, ob 7 fW), (oP, ob 4 (uF (uF (uF fP 6 (iv pl)) 7 (iv n)) 8 (iv mk))), (aA, ar 1206 A2_15), (aT, ar 180 T2_16), (aW, ar 6 W2_17), (aS, ar 30 S2_18), (oS, ob 5 fS), (aB, ar 6 B), (aF, ar 6 Fo), (aH, ar 6 Ho), (aL, ar 6 Lt)]) rfl ?_
    have hAL := hA2_22
    have hTL := hT2_23
    have hSL := hS2_24
    have hwr := hok.worst (mk := mk)
    refine S_istore_n X dX11_worst_23 rfl (nle rfl) ?_
    refine S_iload_n X dX11_worst_24 rfl rfl ?_
    refine S_if_ne (tgt := 32) X dX11_worst_25 (by decide) (by omega) (fun c_25 => ?_) (fun c_25 => ?_)
    ·
      refine S_aload_n X dX11_worst_32 rfl rfl ?_
      refine S_get X fgX11_69_10 0 rfl hf2 dX11_worst_33 ?_
      refine S_iload_n X dX11_worst_36 rfl rfl ?_
      refine S_iconst X dX11_worst_37 ?_
      refine S_isub X dX11_worst_38 ?_
      refine S_calli X (kX4_firstSpreadAbove l (uF (uF (uF fP 6 (iv pl)) 7 (iv n)) 8 (iv mk)) n oP aS S2_18 ((WO pl n ec mk Fo Ho B Lt) - 1) (sS pl ec mk Fo Ho B Lt) hf7 rfl (by omega) (fun x h0 h1 => ⟨hSL x h0 h1, (hok.spread (mk := mk) x h0 (by omega)).1, by have := (hok.spread (mk := mk) x h0 (by omega)).2; omega⟩) (by omega)) (is := [2, 6]) rfl (run_V X lkX11_255 2 rfl rfl (is := [2, 6]) (avs := [iv ((WO pl n ec mk Fo Ho B Lt) - 1)]) (rest := []) rfl rfl (nle rfl) ⟨nle rfl, nle rfl⟩ ⟨nle rfl, nle rfl⟩ dX11_worst_39 (by decide) rfl) (fun z_28 u_26 hp_27 => ?_)
      obtain ⟨hz_29, hu_30⟩ := hp_27
      subst hz_29
      subst hu_30
      refine ⟨rfl, ?_⟩
      refine S_w (ws' := [(h0, ob 10 f), (oW, ob 7 fW), (oP, ob 4 (uF (uF (uF fP 6 (iv pl)) 7 (iv n)) 8 (iv mk))), (aA, ar 1206 A2_15), (aT, ar 180 T2_16), (aW, ar 6 W2_17), (aS, ar 30 S2_18), (oS, ob 5 fS), (aB, ar 6 B), (aF, ar 6 Fo), (aH, ar 6 Ho), (aL, ar 6 Lt)]) rfl ?_
      exact S_iret X (nle rfl) (nle rfl) dX11_worst_42 (hPo _ _ (⟨_, _, _, _, _, _, _, by unfold aWorst; rw [if_pos (by omega)]; rw [if_neg (by omega)]; exact amI_fs (by omega) (fun y y0 y1 => (hok.spread (mk := mk) y y0 (by omega)).1), rfl⟩))
    ·
      refine S_iload_n X dX11_worst_28 rfl rfl ?_
      refine S_goto (tgt := 42) X dX11_worst_29 (by decide) ?_
      exact S_iret X (nle rfl) (nle rfl) dX11_worst_42 (hPo _ _ (⟨_, _, _, _, _, _, _, by unfold aWorst; rw [if_pos (by omega)]; rw [if_pos (by omega)], rfl⟩))
set_option maxHeartbeats 4000000 in
set_option maxRecDepth 100000 in
theorem kX11_parts (l : Launch) (h0 : Nat) (f : Nat → AV) (oW : Nat) (fW : Nat → AV) (fP : Nat → AV) (fS : Nat → AV) (pl : Int) (n : Int) (ec : Int) (mk : Int) (oP : Nat) (oS : Nat) (aA : Nat) (aT : Nat) (aW : Nat) (aS : Nat) (aB : Nat) (aF : Nat) (aH : Nat) (aL : Nat) (Ab : Int → Int) (Tm : Int → Int) (Wq : Int → Int) (Sp : Int → Int) (B : Int → Int) (Fo : Int → Int) (Ho : Int → Int) (Lt : Int → Int) (p0 : Int) (n0 : Int) (k0 : Int) (lim : Int) (hf0 : f 3 = rv oW) (hf1 : f 7 = rv oS) (hf2 : f 9 = rv oP) (hf3 : fW 0 = iv pl) (hf4 : fP 0 = rv aA) (hf5 : fP 1 = rv aT) (hf6 : fP 2 = rv aW) (hf7 : fP 3 = rv aS) (hf8 : fS 0 = iv pl) (hf9 : fS 1 = iv n) (hf10 : fS 2 = iv ec) (hf11 : fS 3 = iv mk) (hf12 : fS 4 = rv aB) (hf13 : fS 5 = rv aF) (hf14 : fS 6 = rv aH) (hf15 : fS 7 = rv aL) (hf16 : f 12 = iv lim) (hz : okZ pl n ec Fo Ho B Lt) (hlim : 0 ≤ lim ∧ lim ≤ 999) : AMi l yX11_parts cX11_parts 1 .int 4 0 0 [rv h0] [(h0, ob 10 f), (oW, ob 7 fW), (oP, ob 4 (uF (uF (uF fP 6 (iv p0)) 7 (iv n0)) 8 (iv k0))), (aA, ar 1206 Ab), (aT, ar 180 Tm), (aW, ar 6 Wq), (aS, ar 30 Sp), (oS, ob 5 fS), (aB, ar 6 B), (aF, ar 6 Fo), (aH, ar 6 Ho), (aL, ar 6 Lt)] (fun z u => ∃ p9 : Int, ∃ n9 : Int, ∃ k9 : Int, ∃ A2 : Int → Int, ∃ T2 : Int → Int, ∃ W2 : Int → Int, ∃ S2 : Int → Int, z = aParts pl n ec mk Fo Ho B Lt lim ∧ u = [(h0, ob 10 f), (oW, ob 7 fW), (oP, ob 4 (uF (uF (uF fP 6 (iv p9)) 7 (iv n9)) 8 (iv k9))), (aA, ar 1206 A2), (aT, ar 180 T2), (aW, ar 6 W2), (aS, ar 30 S2), (oS, ob 5 fS), (aB, ar 6 B), (aF, ar 6 Fo), (aH, ar 6 Ho), (aL, ar 6 Lt)]) := by
  refine AMi.of2 rfl (nle rfl) ?_
  intro D G A p e s m args below meth c Po hPo X
  have hz6 := hz.2.1
  have hz0 := hz.1
  have hzn := hz.2.2.1
  have hzm := hz.2.2.2.1
  have hze := hz.2.2.2.2
  refine S_aload_n X dX11_parts_0 rfl rfl ?_
  refine S_get X fgX11_35_10 0 rfl hf0 dX11_parts_1 ?_
  refine S_get X fgX11_115_7 1 rfl hf3 dX11_parts_4 ?_
  refine S_if_ne (tgt := 12) X dX11_parts_7 (by decide) (by omega) (fun c_1 => ?_) (fun c_1 => ?_)
  ·
    have hok := hz.s (by omega)
    have hpl := hok.2.1
    have hpl1 := hok.1
    have hn1 := hok.2.2.1
    have hn2 := hok.2.2.2.1
    have hec := hok.2.2.2.2
    refine S_aload_n X dX11_parts_12 rfl rfl ?_
    refine S_get X fgX11_69_10 0 rfl hf2 dX11_parts_13 ?_
    refine S_aload_n X dX11_parts_16 rfl rfl ?_
    refine S_get X fgX11_59_10 0 rfl hf1 dX11_parts_17 ?_
    refine S_ldc (n := 1000000000) X m813 dX11_parts_20 ?_
    refine S_calli X (kX4_performE l fP fS pl n ec mk oP oS aA aT aW aS aB aF aH aL Ab Tm Wq Sp B Fo Ho Lt p0 n0 k0 hf4 hf5 hf6 hf7 hf8 hf9 hf10 hf11 hf12 hf13 hf14 hf15 (by omega)) (is := [2, 3, 4, 5, 6, 7, 8, 9, 10, 11]) rfl (run_V X lkX11_235 2 rfl rfl (is := [2, 3, 4, 5, 6, 7, 8, 9, 10, 11]) (avs := [rv oS, iv 1000000000]) (rest := []) rfl rfl (nle rfl) ⟨nle rfl, nle rfl⟩ ⟨nle rfl, nle rfl⟩ dX11_parts_22 (by decide) rfl) (fun z_4 u_2 hp_3 => ?_)
    obtain ⟨A2_5, T2_6, W2_7, S2_8, hz_9, hu_10, hq_11, hA2_12, hT2_13, hS2_14⟩ := hp_3
    subst hz_9
    subst hu_10
    refine ⟨rfl, ?_⟩
    refine S_w (ws' := [(h0, ob 10 f), (oW, ob 7 fW), (oP, ob 4 (uF (uF (uF fP 6 (iv pl)) 7 (iv n)) 8 (iv mk))), (aA, ar 1206 A2_5), (aT, ar 180 T2_6), (aW, ar 6 W2_7), (aS, ar 30 S2_8), (oS, ob 5 fS), (aB, ar 6 B), (aF, ar 6 Fo), (aH, ar 6 Ho), (aL, ar 6 Lt)]) rfl ?_
    have hAL := hA2_12
    have hTL := hT2_13
    have hSL := hS2_14
    refine S_pop X dX11_parts_25 ?_
    refine S_aload_n X dX11_parts_26 rfl rfl ?_
    refine S_get X fgX11_69_10 0 rfl hf2 dX11_parts_27 ?_
    refine S_aload_n X dX11_parts_30 rfl rfl ?_
    refine S_get X fgX11_89_10 0 rfl hf16 dX11_parts_31 ?_
    refine S_calli X (kX4_firstSpreadAbove l (uF (uF (uF fP 6 (iv pl)) 7 (iv n)) 8 (iv mk)) n oP aS S2_8 lim (sS pl ec mk Fo Ho B Lt) hf7 rfl (by omega) (fun x h0 h1 => ⟨hSL x h0 h1, (hok.spread (mk := mk) x h0 (by omega)).1, by have := (hok.spread (mk := mk) x h0 (by omega)).2; omega⟩) (by omega)) (is := [2, 6]) rfl (run_V X lkX11_255 2 rfl rfl (is := [2, 6]) (avs := [iv lim]) (rest := []) rfl rfl (nle rfl) ⟨nle rfl, nle rfl⟩ ⟨nle rfl, nle rfl⟩ dX11_parts_34 (by decide) rfl) (fun z_17 u_15 hp_16 => ?_)
    obtain ⟨hz_18, hu_19⟩ := hp_16
    subst hz_18
    subst hu_19
    refine ⟨rfl, ?_⟩
    refine S_w (ws' := [(h0, ob 10 f), (oW, ob 7 fW), (oP, ob 4 (uF (uF (uF fP 6 (iv pl)) 7 (iv n)) 8 (iv mk))), (aA, ar 1206 A2_5), (aT, ar 180 T2_6), (aW, ar 6 W2_7), (aS, ar 30 S2_8), (oS, ob 5 fS), (aB, ar 6 B), (aF, ar 6 Fo), (aH, ar 6 Ho), (aL, ar 6 Lt)]) rfl ?_
    exact S_iret X (nle rfl) (nle rfl) dX11_parts_37 (hPo _ _ (⟨_, _, _, _, _, _, _, by unfold aParts; rw [if_pos (by omega)]; try rfl, rfl⟩))
  ·
    refine S_iconst X dX11_parts_10 ?_
    exact S_iret X (nle rfl) (nle rfl) dX11_parts_11 (hPo _ _ (⟨_, _, _, _, _, _, _, by unfold aParts; rw [if_neg (by omega)], rfl⟩))
set_option maxHeartbeats 4000000 in
set_option maxRecDepth 100000 in
theorem kX11_last (l : Launch) (h0 : Nat) (f : Nat → AV) (oW : Nat) (fW : Nat → AV) (fP : Nat → AV) (fS : Nat → AV) (pl : Int) (n : Int) (ec : Int) (mk : Int) (oP : Nat) (oS : Nat) (aA : Nat) (aT : Nat) (aW : Nat) (aS : Nat) (aB : Nat) (aF : Nat) (aH : Nat) (aL : Nat) (Ab : Int → Int) (Tm : Int → Int) (Wq : Int → Int) (Sp : Int → Int) (B : Int → Int) (Fo : Int → Int) (Ho : Int → Int) (Lt : Int → Int) (p0 : Int) (n0 : Int) (k0 : Int) (b : Int) (hf0 : f 3 = rv oW) (hf1 : f 7 = rv oS) (hf2 : f 9 = rv oP) (hf3 : fW 0 = iv pl) (hf4 : fP 0 = rv aA) (hf5 : fP 1 = rv aT) (hf6 : fP 2 = rv aW) (hf7 : fP 3 = rv aS) (hf8 : fS 0 = iv pl) (hf9 : fS 1 = iv n) (hf10 : fS 2 = iv ec) (hf11 : fS 3 = iv mk) (hf12 : fS 4 = rv aB) (hf13 : fS 5 = rv aF) (hf14 : fS 6 = rv aH) (hf15 : fS 7 = rv aL) (hz : okZ pl n ec Fo Ho B Lt) (hx_b : inR b) : AMi l yX11_last cX11_last 2 .int 4 0 0 [rv h0, iv b] [(h0, ob 10 f), (oW, ob 7 fW), (oP, ob 4 (uF (uF (uF fP 6 (iv p0)) 7 (iv n0)) 8 (iv k0))), (aA, ar 1206 Ab), (aT, ar 180 Tm), (aW, ar 6 Wq), (aS, ar 30 Sp), (oS, ob 5 fS), (aB, ar 6 B), (aF, ar 6 Fo), (aH, ar 6 Ho), (aL, ar 6 Lt)] (fun z u => ∃ p9 : Int, ∃ n9 : Int, ∃ k9 : Int, ∃ A2 : Int → Int, ∃ T2 : Int → Int, ∃ W2 : Int → Int, ∃ S2 : Int → Int, z = aLast pl n ec mk Fo Ho B Lt b ∧ u = [(h0, ob 10 f), (oW, ob 7 fW), (oP, ob 4 (uF (uF (uF fP 6 (iv p9)) 7 (iv n9)) 8 (iv k9))), (aA, ar 1206 A2), (aT, ar 180 T2), (aW, ar 6 W2), (aS, ar 30 S2), (oS, ob 5 fS), (aB, ar 6 B), (aF, ar 6 Fo), (aH, ar 6 Ho), (aL, ar 6 Lt)]) := by
  refine AMi.of2 rfl (nle rfl) ?_
  intro D G A p e s m args below meth c Po hPo X
  have hz6 := hz.2.1
  have hz0 := hz.1
  have hzn := hz.2.2.1
  have hzm := hz.2.2.2.1
  have hze := hz.2.2.2.2
  refine S_aload_n X dX11_last_0 rfl rfl ?_
  refine S_iload_n X dX11_last_1 rfl rfl ?_
  refine S_calli X (kX11_isBar l h0 f oW fW fS pl n oS b hf0 hf1 hf3 hf9 (by omega) (by omega) (by omega)) (is := [0, 1, 7]) rfl (run_V X lkX11_231 0 rfl rfl (is := [0, 1, 7]) (avs := [iv b]) (rest := []) rfl rfl (nle rfl) ⟨nle rfl, nle rfl⟩ ⟨nle rfl, nle rfl⟩ dX11_last_2 (by decide) rfl) (fun z_3 u_1 hp_2 => ?_)
  rcases hp_2 with ⟨hz_4, hu_5, hp_6⟩ | ⟨hz_7, hu_8, hp_9⟩
  ·
    subst hz_4
    subst hu_5
    refine ⟨rfl, ?_⟩
    refine S_w (ws' := [(h0, ob 10 f), (oW, ob 7 fW), (oP, ob 4 (uF (uF (uF fP 6 (iv p0)) 7 (iv n0)) 8 (iv k0))), (aA, ar 1206 Ab), (aT, ar 180 Tm), (aW, ar 6 Wq), (aS, ar 30 Sp), (oS, ob 5 fS), (aB, ar 6 B), (aF, ar 6 Fo), (aH, ar 6 Ho), (aL, ar 6 Lt)]) rfl ?_
    refine S_if_ne (tgt := 10) X dX11_last_5 (by decide) (by decide) (fun h9 => absurd h9 (by decide)) (fun _ => ?_)
    refine S_iconst X dX11_last_8 ?_
    exact S_iret X (nle rfl) (nle rfl) dX11_last_9 (hPo _ _ (⟨_, _, _, _, _, _, _, by unfold aLast; rw [if_neg (by omega)], rfl⟩))
  ·
    subst hz_7
    subst hu_8
    refine ⟨rfl, ?_⟩
    refine S_w (ws' := [(h0, ob 10 f), (oW, ob 7 fW), (oP, ob 4 (uF (uF (uF fP 6 (iv p0)) 7 (iv n0)) 8 (iv k0))), (aA, ar 1206 Ab), (aT, ar 180 Tm), (aW, ar 6 Wq), (aS, ar 30 Sp), (oS, ob 5 fS), (aB, ar 6 B), (aF, ar 6 Fo), (aH, ar 6 Ho), (aL, ar 6 Lt)]) rfl ?_
    refine S_if_ne (tgt := 10) X dX11_last_5 (by decide) (by decide) (fun _ => ?_) (fun h9 => absurd h9 (by decide))
    have hok := hz.s (by omega)
    have hpl := hok.2.1
    have hpl1 := hok.1
    have hn1 := hok.2.2.1
    have hn2 := hok.2.2.2.1
    have hec := hok.2.2.2.2
    refine S_aload_n X dX11_last_10 rfl rfl ?_
    refine S_get X fgX11_69_10 0 rfl hf2 dX11_last_11 ?_
    refine S_aload_n X dX11_last_14 rfl rfl ?_
    refine S_get X fgX11_59_10 0 rfl hf1 dX11_last_15 ?_
    refine S_ldc (n := 1000000000) X m813 dX11_last_18 ?_
    refine S_calli X (kX4_performE l fP fS pl n ec mk oP oS aA aT aW aS aB aF aH aL Ab Tm Wq Sp B Fo Ho Lt p0 n0 k0 hf4 hf5 hf6 hf7 hf8 hf9 hf10 hf11 hf12 hf13 hf14 hf15 (by omega)) (is := [2, 3, 4, 5, 6, 7, 8, 9, 10, 11]) rfl (run_V X lkX11_235 2 rfl rfl (is := [2, 3, 4, 5, 6, 7, 8, 9, 10, 11]) (avs := [rv oS, iv 1000000000]) (rest := []) rfl rfl (nle rfl) ⟨nle rfl, nle rfl⟩ ⟨nle rfl, nle rfl⟩ dX11_last_20 (by decide) rfl) (fun z_14 u_12 hp_13 => ?_)
    obtain ⟨A2_15, T2_16, W2_17, S2_18, hz_19, hu_20, hq_21, hA2_22, hT2_23, hS2_24⟩ := hp_13
    subst hz_19
    subst hu_20
    refine ⟨rfl, ?_⟩
    refine S_w (ws' := [(h0, ob 10 f), (oW, ob 7 fW), (oP, ob 4 (uF (uF (uF fP 6 (iv pl)) 7 (iv n)) 8 (iv mk))), (aA, ar 1206 A2_15), (aT, ar 180 T2_16), (aW, ar 6 W2_17), (aS, ar 30 S2_18), (oS, ob 5 fS), (aB, ar 6 B), (aF, ar 6 Fo), (aH, ar 6 Ho), (aL, ar 6 Lt)]) rfl ?_
    have hAL := hA2_22
    have hTL := hT2_23
    have hSL := hS2_24
    refine S_pop X dX11_last_23 ?_
    refine S_aload_n X dX11_last_24 rfl rfl ?_
    refine S_get X fgX11_69_10 0 rfl hf2 dX11_last_25 ?_
    refine S_iload_n X dX11_last_28 rfl rfl ?_
    refine S_calli X (kX4_lastIn l (uF (uF (uF fP 6 (iv pl)) 7 (iv n)) 8 (iv mk)) pl n ec mk oP aT T2_16 B Fo Ho Lt b hf5 rfl (by omega) hTL (by omega)) (is := [2, 4]) rfl (run_V X lkX11_258 2 rfl rfl (is := [2, 4]) (avs := [iv b]) (rest := []) rfl rfl (nle rfl) ⟨nle rfl, nle rfl⟩ ⟨nle rfl, nle rfl⟩ dX11_last_29 (by decide) rfl) (fun z_27 u_25 hp_26 => ?_)
    obtain ⟨hz_28, hu_29⟩ := hp_26
    subst hz_28
    subst hu_29
    refine ⟨rfl, ?_⟩
    refine S_w (ws' := [(h0, ob 10 f), (oW, ob 7 fW), (oP, ob 4 (uF (uF (uF fP 6 (iv pl)) 7 (iv n)) 8 (iv mk))), (aA, ar 1206 A2_15), (aT, ar 180 T2_16), (aW, ar 6 W2_17), (aS, ar 30 S2_18), (oS, ob 5 fS), (aB, ar 6 B), (aF, ar 6 Fo), (aH, ar 6 Ho), (aL, ar 6 Lt)]) rfl ?_
    exact S_iret X (nle rfl) (nle rfl) dX11_last_32 (hPo _ _ (⟨_, _, _, _, _, _, _, by unfold aLast; rw [if_pos (by omega)]; try rfl, rfl⟩))
set_option maxHeartbeats 4000000 in
set_option maxRecDepth 100000 in
theorem kX11_place (l : Launch) (h0 : Nat) (f : Nat → AV) (oW : Nat) (fW : Nat → AV) (fP : Nat → AV) (fS : Nat → AV) (pl : Int) (n : Int) (ec : Int) (mk : Int) (oP : Nat) (oS : Nat) (aA : Nat) (aT : Nat) (aW : Nat) (aS : Nat) (aB : Nat) (aF : Nat) (aH : Nat) (aL : Nat) (Ab : Int → Int) (Tm : Int → Int) (Wq : Int → Int) (Sp : Int → Int) (B : Int → Int) (Fo : Int → Int) (Ho : Int → Int) (Lt : Int → Int) (p0 : Int) (n0 : Int) (k0 : Int) (b : Int) (i : Int) (hf0 : f 3 = rv oW) (hf1 : f 7 = rv oS) (hf2 : f 9 = rv oP) (hf3 : fW 0 = iv pl) (hf4 : fP 0 = rv aA) (hf5 : fP 1 = rv aT) (hf6 : fP 2 = rv aW) (hf7 : fP 3 = rv aS) (hf8 : fS 0 = iv pl) (hf9 : fS 1 = iv n) (hf10 : fS 2 = iv ec) (hf11 : fS 3 = iv mk) (hf12 : fS 4 = rv aB) (hf13 : fS 5 = rv aF) (hf14 : fS 6 = rv aH) (hf15 : fS 7 = rv aL) (hz : okZ pl n ec Fo Ho B Lt) (hx_b : inR b) (hx_i : inR i) : AMi l yX11_place cX11_place 3 .int 4 0 0 [rv h0, iv b, iv i] [(h0, ob 10 f), (oW, ob 7 fW), (oP, ob 4 (uF (uF (uF fP 6 (iv p0)) 7 (iv n0)) 8 (iv k0))), (aA, ar 1206 Ab), (aT, ar 180 Tm), (aW, ar 6 Wq), (aS, ar 30 Sp), (oS, ob 5 fS), (aB, ar 6 B), (aF, ar 6 Fo), (aH, ar 6 Ho), (aL, ar 6 Lt)] (fun z u => ∃ p9 : Int, ∃ n9 : Int, ∃ k9 : Int, ∃ A2 : Int → Int, ∃ T2 : Int → Int, ∃ W2 : Int → Int, ∃ S2 : Int → Int, z = aPlace pl n ec mk Fo Ho B Lt b i ∧ u = [(h0, ob 10 f), (oW, ob 7 fW), (oP, ob 4 (uF (uF (uF fP 6 (iv p9)) 7 (iv n9)) 8 (iv k9))), (aA, ar 1206 A2), (aT, ar 180 T2), (aW, ar 6 W2), (aS, ar 30 S2), (oS, ob 5 fS), (aB, ar 6 B), (aF, ar 6 Fo), (aH, ar 6 Ho), (aL, ar 6 Lt)]) := by
  refine AMi.of2 rfl (nle rfl) ?_
  intro D G A p e s m args below meth c Po hPo X
  have hz6 := hz.2.1
  have hz0 := hz.1
  have hzn := hz.2.2.1
  have hzm := hz.2.2.2.1
  have hze := hz.2.2.2.2
  refine S_aload_n X dX11_place_0 rfl rfl ?_
  refine S_iload_n X dX11_place_1 rfl rfl ?_
  refine S_calli X (kX11_isBar l h0 f oW fW fS pl n oS b hf0 hf1 hf3 hf9 (by omega) (by omega) (by omega)) (is := [0, 1, 7]) rfl (run_V X lkX11_231 0 rfl rfl (is := [0, 1, 7]) (avs := [iv b]) (rest := []) rfl rfl (nle rfl) ⟨nle rfl, nle rfl⟩ ⟨nle rfl, nle rfl⟩ dX11_place_2 (by decide) rfl) (fun z_3 u_1 hp_2 => ?_)
  rcases hp_2 with ⟨hz_4, hu_5, hp_6⟩ | ⟨hz_7, hu_8, hp_9⟩
  ·
    subst hz_4
    subst hu_5
    refine ⟨rfl, ?_⟩
    refine S_w (ws' := [(h0, ob 10 f), (oW, ob 7 fW), (oP, ob 4 (uF (uF (uF fP 6 (iv p0)) 7 (iv n0)) 8 (iv k0))), (aA, ar 1206 Ab), (aT, ar 180 Tm), (aW, ar 6 Wq), (aS, ar 30 Sp), (oS, ob 5 fS), (aB, ar 6 B), (aF, ar 6 Fo), (aH, ar 6 Ho), (aL, ar 6 Lt)]) rfl ?_
    refine S_if_eq (tgt := 16) X dX11_place_5 (by decide) (by decide) (fun _ => ?_) (fun h9 => absurd h9 (by decide))
    refine S_iconst X dX11_place_16 ?_
    exact S_iret X (nle rfl) (nle rfl) dX11_place_17 (hPo _ _ (⟨_, _, _, _, _, _, _, cplace_no hz0 (by omega), rfl⟩))
  ·
    subst hz_7
    subst hu_8
    refine ⟨rfl, ?_⟩
    refine S_w (ws' := [(h0, ob 10 f), (oW, ob 7 fW), (oP, ob 4 (uF (uF (uF fP 6 (iv p0)) 7 (iv n0)) 8 (iv k0))), (aA, ar 1206 Ab), (aT, ar 180 Tm), (aW, ar 6 Wq), (aS, ar 30 Sp), (oS, ob 5 fS), (aB, ar 6 B), (aF, ar 6 Fo), (aH, ar 6 Ho), (aL, ar 6 Lt)]) rfl ?_
    refine S_if_eq (tgt := 16) X dX11_place_5 (by decide) (by decide) (fun h9 => absurd h9 (by decide)) (fun _ => ?_)
    refine S_aload_n X dX11_place_8 rfl rfl ?_
    refine S_iload_n X dX11_place_9 rfl rfl ?_
    refine S_calli X (kX11_isPlayer l h0 f oW fW pl i hf0 hf3 (by omega) (by omega)) (is := [0, 1]) rfl (run_V X lkX11_147 0 rfl rfl (is := [0, 1]) (avs := [iv i]) (rest := []) rfl rfl (nle rfl) ⟨nle rfl, nle rfl⟩ ⟨nle rfl, nle rfl⟩ dX11_place_10 (by decide) rfl) (fun z_14 u_12 hp_13 => ?_)
    rcases hp_13 with ⟨hz_15, hu_16, hp_17⟩ | ⟨hz_18, hu_19, hp_20⟩
    ·
      subst hz_15
      subst hu_16
      refine ⟨rfl, ?_⟩
      refine S_w (ws' := [(h0, ob 10 f), (oW, ob 7 fW), (oP, ob 4 (uF (uF (uF fP 6 (iv p0)) 7 (iv n0)) 8 (iv k0))), (aA, ar 1206 Ab), (aT, ar 180 Tm), (aW, ar 6 Wq), (aS, ar 30 Sp), (oS, ob 5 fS), (aB, ar 6 B), (aF, ar 6 Fo), (aH, ar 6 Ho), (aL, ar 6 Lt)]) rfl ?_
      refine S_if_ne (tgt := 18) X dX11_place_13 (by decide) (by decide) (fun h9 => absurd h9 (by decide)) (fun _ => ?_)
      refine S_iconst X dX11_place_16 ?_
      exact S_iret X (nle rfl) (nle rfl) dX11_place_17 (hPo _ _ (⟨_, _, _, _, _, _, _, cplace_no hz0 (by omega), rfl⟩))
    ·
      subst hz_18
      subst hu_19
      refine ⟨rfl, ?_⟩
      refine S_w (ws' := [(h0, ob 10 f), (oW, ob 7 fW), (oP, ob 4 (uF (uF (uF fP 6 (iv p0)) 7 (iv n0)) 8 (iv k0))), (aA, ar 1206 Ab), (aT, ar 180 Tm), (aW, ar 6 Wq), (aS, ar 30 Sp), (oS, ob 5 fS), (aB, ar 6 B), (aF, ar 6 Fo), (aH, ar 6 Ho), (aL, ar 6 Lt)]) rfl ?_
      refine S_if_ne (tgt := 18) X dX11_place_13 (by decide) (by decide) (fun _ => ?_) (fun h9 => absurd h9 (by decide))
      have hok := hz.s (by omega)
      have hpl := hok.2.1
      have hpl1 := hok.1
      have hn1 := hok.2.2.1
      have hn2 := hok.2.2.2.1
      have hec := hok.2.2.2.2
      refine S_aload_n X dX11_place_18 rfl rfl ?_
      refine S_get X fgX11_69_10 0 rfl hf2 dX11_place_19 ?_
      refine S_aload_n X dX11_place_22 rfl rfl ?_
      refine S_get X fgX11_59_10 0 rfl hf1 dX11_place_23 ?_
      refine S_ldc (n := 1000000000) X m813 dX11_place_26 ?_
      refine S_calli X (kX4_performE l fP fS pl n ec mk oP oS aA aT aW aS aB aF aH aL Ab Tm Wq Sp B Fo Ho Lt p0 n0 k0 hf4 hf5 hf6 hf7 hf8 hf9 hf10 hf11 hf12 hf13 hf14 hf15 (by omega)) (is := [2, 3, 4, 5, 6, 7, 8, 9, 10, 11]) rfl (run_V X lkX11_235 2 rfl rfl (is := [2, 3, 4, 5, 6, 7, 8, 9, 10, 11]) (avs := [rv oS, iv 1000000000]) (rest := []) rfl rfl (nle rfl) ⟨nle rfl, nle rfl⟩ ⟨nle rfl, nle rfl⟩ dX11_place_28 (by decide) rfl) (fun z_25 u_23 hp_24 => ?_)
      obtain ⟨A2_26, T2_27, W2_28, S2_29, hz_30, hu_31, hq_32, hA2_33, hT2_34, hS2_35⟩ := hp_24
      subst hz_30
      subst hu_31
      refine ⟨rfl, ?_⟩
      refine S_w (ws' := [(h0, ob 10 f), (oW, ob 7 fW), (oP, ob 4 (uF (uF (uF fP 6 (iv pl)) 7 (iv n)) 8 (iv mk))), (aA, ar 1206 A2_26), (aT, ar 180 T2_27), (aW, ar 6 W2_28), (aS, ar 30 S2_29), (oS, ob 5 fS), (aB, ar 6 B), (aF, ar 6 Fo), (aH, ar 6 Ho), (aL, ar 6 Lt)]) rfl ?_
      have hAL := hA2_33
      have hTL := hT2_34
      have hSL := hS2_35
      refine S_pop X dX11_place_31 ?_
      refine S_aload_n X dX11_place_32 rfl rfl ?_
      refine S_get X fgX11_69_10 0 rfl hf2 dX11_place_33 ?_
      refine S_iload_n X dX11_place_36 rfl rfl ?_
      refine S_iload_n X dX11_place_37 rfl rfl ?_
      refine S_calli X (kX4_inPlace l (uF (uF (uF fP 6 (iv pl)) 7 (iv n)) 8 (iv mk)) pl n ec mk oP aT T2_27 B Fo Ho Lt b i hf5 rfl (by omega) hTL (by omega) (by omega)) (is := [2, 4]) rfl (run_V X lkX11_271 2 rfl rfl (is := [2, 4]) (avs := [iv b, iv i]) (rest := []) rfl rfl (nle rfl) ⟨nle rfl, nle rfl⟩ ⟨nle rfl, nle rfl⟩ dX11_place_38 (by decide) rfl) (fun z_38 u_36 hp_37 => ?_)
      obtain ⟨hz_39, hu_40⟩ := hp_37
      subst hz_39
      subst hu_40
      refine ⟨rfl, ?_⟩
      refine S_w (ws' := [(h0, ob 10 f), (oW, ob 7 fW), (oP, ob 4 (uF (uF (uF fP 6 (iv pl)) 7 (iv n)) 8 (iv mk))), (aA, ar 1206 A2_26), (aT, ar 180 T2_27), (aW, ar 6 W2_28), (aS, ar 30 S2_29), (oS, ob 5 fS), (aB, ar 6 B), (aF, ar 6 Fo), (aH, ar 6 Ho), (aL, ar 6 Lt)]) rfl ?_
      exact S_iret X (nle rfl) (nle rfl) dX11_place_41 (hPo _ _ (⟨_, _, _, _, _, _, _, by unfold aPlace; rw [if_pos (by omega)], rfl⟩))
set_option maxHeartbeats 4000000 in
set_option maxRecDepth 100000 in
theorem kX11_overtakes (l : Launch) (h0 : Nat) (f : Nat → AV) (oW : Nat) (fW : Nat → AV) (fP : Nat → AV) (fS : Nat → AV) (pl : Int) (n : Int) (ec : Int) (mk : Int) (oP : Nat) (oS : Nat) (aA : Nat) (aT : Nat) (aW : Nat) (aS : Nat) (aB : Nat) (aF : Nat) (aH : Nat) (aL : Nat) (Ab : Int → Int) (Tm : Int → Int) (Wq : Int → Int) (Sp : Int → Int) (B : Int → Int) (Fo : Int → Int) (Ho : Int → Int) (Lt : Int → Int) (p0 : Int) (n0 : Int) (k0 : Int) (i : Int) (j : Int) (hf0 : f 3 = rv oW) (hf1 : f 7 = rv oS) (hf2 : f 9 = rv oP) (hf3 : fW 0 = iv pl) (hf4 : fP 0 = rv aA) (hf5 : fP 1 = rv aT) (hf6 : fP 2 = rv aW) (hf7 : fP 3 = rv aS) (hf8 : fS 0 = iv pl) (hf9 : fS 1 = iv n) (hf10 : fS 2 = iv ec) (hf11 : fS 3 = iv mk) (hf12 : fS 4 = rv aB) (hf13 : fS 5 = rv aF) (hf14 : fS 6 = rv aH) (hf15 : fS 7 = rv aL) (hz : okZ pl n ec Fo Ho B Lt) (hx_i : inR i) (hx_j : inR j) : AMi l yX11_overtakes cX11_overtakes 3 .int 4 0 0 [rv h0, iv i, iv j] [(h0, ob 10 f), (oW, ob 7 fW), (oP, ob 4 (uF (uF (uF fP 6 (iv p0)) 7 (iv n0)) 8 (iv k0))), (aA, ar 1206 Ab), (aT, ar 180 Tm), (aW, ar 6 Wq), (aS, ar 30 Sp), (oS, ob 5 fS), (aB, ar 6 B), (aF, ar 6 Fo), (aH, ar 6 Ho), (aL, ar 6 Lt)] (fun z u => ∃ p9 : Int, ∃ n9 : Int, ∃ k9 : Int, ∃ A2 : Int → Int, ∃ T2 : Int → Int, ∃ W2 : Int → Int, ∃ S2 : Int → Int, z = aOver pl n ec mk Fo Ho B Lt i j ∧ u = [(h0, ob 10 f), (oW, ob 7 fW), (oP, ob 4 (uF (uF (uF fP 6 (iv p9)) 7 (iv n9)) 8 (iv k9))), (aA, ar 1206 A2), (aT, ar 180 T2), (aW, ar 6 W2), (aS, ar 30 S2), (oS, ob 5 fS), (aB, ar 6 B), (aF, ar 6 Fo), (aH, ar 6 Ho), (aL, ar 6 Lt)]) := by
  refine AMi.of2 rfl (nle rfl) ?_
  intro D G A p e s m args below meth c Po hPo X
  have hz6 := hz.2.1
  have hz0 := hz.1
  have hzn := hz.2.2.1
  have hzm := hz.2.2.2.1
  have hze := hz.2.2.2.2
  refine S_aload_n X dX11_overtakes_0 rfl rfl ?_
  refine S_iload_n X dX11_overtakes_1 rfl rfl ?_
  refine S_calli X (kX11_isPlayer l h0 f oW fW pl i hf0 hf3 (by omega) (by omega)) (is := [0, 1]) rfl (run_V X lkX11_147 0 rfl rfl (is := [0, 1]) (avs := [iv i]) (rest := []) rfl rfl (nle rfl) ⟨nle rfl, nle rfl⟩ ⟨nle rfl, nle rfl⟩ dX11_overtakes_2 (by decide) rfl) (fun z_3 u_1 hp_2 => ?_)
  rcases hp_2 with ⟨hz_4, hu_5, hp_6⟩ | ⟨hz_7, hu_8, hp_9⟩
  ·
    subst hz_4
    subst hu_5
    refine ⟨rfl, ?_⟩
    refine S_w (ws' := [(h0, ob 10 f), (oW, ob 7 fW), (oP, ob 4 (uF (uF (uF fP 6 (iv p0)) 7 (iv n0)) 8 (iv k0))), (aA, ar 1206 Ab), (aT, ar 180 Tm), (aW, ar 6 Wq), (aS, ar 30 Sp), (oS, ob 5 fS), (aB, ar 6 B), (aF, ar 6 Fo), (aH, ar 6 Ho), (aL, ar 6 Lt)]) rfl ?_
    refine S_if_eq (tgt := 21) X dX11_overtakes_5 (by decide) (by decide) (fun _ => ?_) (fun h9 => absurd h9 (by decide))
    refine S_iconst X dX11_overtakes_21 ?_
    exact S_iret X (nle rfl) (nle rfl) dX11_overtakes_22 (hPo _ _ (⟨_, _, _, _, _, _, _, by unfold aOver; rw [if_neg (by omega)], rfl⟩))
  ·
    subst hz_7
    subst hu_8
    refine ⟨rfl, ?_⟩
    refine S_w (ws' := [(h0, ob 10 f), (oW, ob 7 fW), (oP, ob 4 (uF (uF (uF fP 6 (iv p0)) 7 (iv n0)) 8 (iv k0))), (aA, ar 1206 Ab), (aT, ar 180 Tm), (aW, ar 6 Wq), (aS, ar 30 Sp), (oS, ob 5 fS), (aB, ar 6 B), (aF, ar 6 Fo), (aH, ar 6 Ho), (aL, ar 6 Lt)]) rfl ?_
    refine S_if_eq (tgt := 21) X dX11_overtakes_5 (by decide) (by decide) (fun h9 => absurd h9 (by decide)) (fun _ => ?_)
    refine S_aload_n X dX11_overtakes_8 rfl rfl ?_
    refine S_iload_n X dX11_overtakes_9 rfl rfl ?_
    refine S_calli X (kX11_isPlayer l h0 f oW fW pl j hf0 hf3 (by omega) (by omega)) (is := [0, 1]) rfl (run_V X lkX11_147 0 rfl rfl (is := [0, 1]) (avs := [iv j]) (rest := []) rfl rfl (nle rfl) ⟨nle rfl, nle rfl⟩ ⟨nle rfl, nle rfl⟩ dX11_overtakes_10 (by decide) rfl) (fun z_14 u_12 hp_13 => ?_)
    rcases hp_13 with ⟨hz_15, hu_16, hp_17⟩ | ⟨hz_18, hu_19, hp_20⟩
    ·
      subst hz_15
      subst hu_16
      refine ⟨rfl, ?_⟩
      refine S_w (ws' := [(h0, ob 10 f), (oW, ob 7 fW), (oP, ob 4 (uF (uF (uF fP 6 (iv p0)) 7 (iv n0)) 8 (iv k0))), (aA, ar 1206 Ab), (aT, ar 180 Tm), (aW, ar 6 Wq), (aS, ar 30 Sp), (oS, ob 5 fS), (aB, ar 6 B), (aF, ar 6 Fo), (aH, ar 6 Ho), (aL, ar 6 Lt)]) rfl ?_
      refine S_if_eq (tgt := 21) X dX11_overtakes_13 (by decide) (by decide) (fun _ => ?_) (fun h9 => absurd h9 (by decide))
      refine S_iconst X dX11_overtakes_21 ?_
      exact S_iret X (nle rfl) (nle rfl) dX11_overtakes_22 (hPo _ _ (⟨_, _, _, _, _, _, _, by unfold aOver; rw [if_neg (by omega)], rfl⟩))
    ·
      subst hz_18
      subst hu_19
      refine ⟨rfl, ?_⟩
      refine S_w (ws' := [(h0, ob 10 f), (oW, ob 7 fW), (oP, ob 4 (uF (uF (uF fP 6 (iv p0)) 7 (iv n0)) 8 (iv k0))), (aA, ar 1206 Ab), (aT, ar 180 Tm), (aW, ar 6 Wq), (aS, ar 30 Sp), (oS, ob 5 fS), (aB, ar 6 B), (aF, ar 6 Fo), (aH, ar 6 Ho), (aL, ar 6 Lt)]) rfl ?_
      refine S_if_eq (tgt := 21) X dX11_overtakes_13 (by decide) (by decide) (fun h9 => absurd h9 (by decide)) (fun _ => ?_)
      refine S_iload_n X dX11_overtakes_16 rfl rfl ?_
      refine S_iload_n X dX11_overtakes_17 rfl rfl ?_
      refine S_icmp_ne (tgt := 23) X dX11_overtakes_18 (by decide) (by omega) (by omega) (fun c_23 => ?_) (fun c_23 => ?_)
      ·
        have hok := hz.s (by omega)
        have hpl := hok.2.1
        have hpl1 := hok.1
        have hn1 := hok.2.2.1
        have hn2 := hok.2.2.2.1
        have hec := hok.2.2.2.2
        refine S_aload_n X dX11_overtakes_23 rfl rfl ?_
        refine S_get X fgX11_69_10 0 rfl hf2 dX11_overtakes_24 ?_
        refine S_aload_n X dX11_overtakes_27 rfl rfl ?_
        refine S_get X fgX11_59_10 0 rfl hf1 dX11_overtakes_28 ?_
        refine S_ldc (n := 1000000000) X m813 dX11_overtakes_31 ?_
        refine S_calli X (kX4_performE l fP fS pl n ec mk oP oS aA aT aW aS aB aF aH aL Ab Tm Wq Sp B Fo Ho Lt p0 n0 k0 hf4 hf5 hf6 hf7 hf8 hf9 hf10 hf11 hf12 hf13 hf14 hf15 (by omega)) (is := [2, 3, 4, 5, 6, 7, 8, 9, 10, 11]) rfl (run_V X lkX11_235 2 rfl rfl (is := [2, 3, 4, 5, 6, 7, 8, 9, 10, 11]) (avs := [rv oS, iv 1000000000]) (rest := []) rfl rfl (nle rfl) ⟨nle rfl, nle rfl⟩ ⟨nle rfl, nle rfl⟩ dX11_overtakes_33 (by decide) rfl) (fun z_26 u_24 hp_25 => ?_)
        obtain ⟨A2_27, T2_28, W2_29, S2_30, hz_31, hu_32, hq_33, hA2_34, hT2_35, hS2_36⟩ := hp_25
        subst hz_31
        subst hu_32
        refine ⟨rfl, ?_⟩
        refine S_w (ws' := [(h0, ob 10 f), (oW, ob 7 fW), (oP, ob 4 (uF (uF (uF fP 6 (iv pl)) 7 (iv n)) 8 (iv mk))), (aA, ar 1206 A2_27), (aT, ar 180 T2_28), (aW, ar 6 W2_29), (aS, ar 30 S2_30), (oS, ob 5 fS), (aB, ar 6 B), (aF, ar 6 Fo), (aH, ar 6 Ho), (aL, ar 6 Lt)]) rfl ?_
        have hAL := hA2_34
        have hTL := hT2_35
        have hSL := hS2_36
        refine S_pop X dX11_overtakes_36 ?_
        refine S_aload_n X dX11_overtakes_37 rfl rfl ?_
        refine S_get X fgX11_69_10 0 rfl hf2 dX11_overtakes_38 ?_
        refine S_iload_n X dX11_overtakes_41 rfl rfl ?_
        refine S_iload_n X dX11_overtakes_42 rfl rfl ?_
        refine S_calli X (kX4_turns l (uF (uF (uF fP 6 (iv pl)) 7 (iv n)) 8 (iv mk)) pl n ec mk oP aT T2_28 B Fo Ho Lt i j hf5 rfl rfl (by omega) hTL (by omega) (by omega)) (is := [2, 4]) rfl (run_V X lkX11_274 2 rfl rfl (is := [2, 4]) (avs := [iv i, iv j]) (rest := []) rfl rfl (nle rfl) ⟨nle rfl, nle rfl⟩ ⟨nle rfl, nle rfl⟩ dX11_overtakes_43 (by decide) rfl) (fun z_39 u_37 hp_38 => ?_)
        obtain ⟨hz_40, hu_41⟩ := hp_38
        subst hz_40
        subst hu_41
        refine ⟨rfl, ?_⟩
        refine S_w (ws' := [(h0, ob 10 f), (oW, ob 7 fW), (oP, ob 4 (uF (uF (uF fP 6 (iv pl)) 7 (iv n)) 8 (iv mk))), (aA, ar 1206 A2_27), (aT, ar 180 T2_28), (aW, ar 6 W2_29), (aS, ar 30 S2_30), (oS, ob 5 fS), (aB, ar 6 B), (aF, ar 6 Fo), (aH, ar 6 Ho), (aL, ar 6 Lt)]) rfl ?_
        exact S_iret X (nle rfl) (nle rfl) dX11_overtakes_46 (hPo _ _ (⟨_, _, _, _, _, _, _, by unfold aOver; rw [if_pos (by omega)]; try rfl, rfl⟩))
      ·
        refine S_iconst X dX11_overtakes_21 ?_
        exact S_iret X (nle rfl) (nle rfl) dX11_overtakes_22 (hPo _ _ (⟨_, _, _, _, _, _, _, by unfold aOver; rw [if_neg (by omega)], rfl⟩))
set_option maxHeartbeats 4000000 in
set_option maxRecDepth 100000 in
theorem kX11_middle (l : Launch) (h0 : Nat) (f : Nat → AV) (oW : Nat) (fW : Nat → AV) (fP : Nat → AV) (fS : Nat → AV) (pl : Int) (n : Int) (ec : Int) (mk : Int) (oP : Nat) (oS : Nat) (aA : Nat) (aT : Nat) (aW : Nat) (aS : Nat) (aB : Nat) (aF : Nat) (aH : Nat) (aL : Nat) (Ab : Int → Int) (Tm : Int → Int) (Wq : Int → Int) (Sp : Int → Int) (B : Int → Int) (Fo : Int → Int) (Ho : Int → Int) (Lt : Int → Int) (p0 : Int) (n0 : Int) (k0 : Int) (hf0 : f 3 = rv oW) (hf1 : f 7 = rv oS) (hf2 : f 9 = rv oP) (hf3 : fW 0 = iv pl) (hf4 : fP 0 = rv aA) (hf5 : fP 1 = rv aT) (hf6 : fP 2 = rv aW) (hf7 : fP 3 = rv aS) (hf8 : fS 0 = iv pl) (hf9 : fS 1 = iv n) (hf10 : fS 2 = iv ec) (hf11 : fS 3 = iv mk) (hf12 : fS 4 = rv aB) (hf13 : fS 5 = rv aF) (hf14 : fS 6 = rv aH) (hf15 : fS 7 = rv aL) (hz : okZ pl n ec Fo Ho B Lt) : AMi l yX11_middle cX11_middle 1 .int 4 0 0 [rv h0] [(h0, ob 10 f), (oW, ob 7 fW), (oP, ob 4 (uF (uF (uF fP 6 (iv p0)) 7 (iv n0)) 8 (iv k0))), (aA, ar 1206 Ab), (aT, ar 180 Tm), (aW, ar 6 Wq), (aS, ar 30 Sp), (oS, ob 5 fS), (aB, ar 6 B), (aF, ar 6 Fo), (aH, ar 6 Ho), (aL, ar 6 Lt)] (fun z u => ∃ p9 : Int, ∃ n9 : Int, ∃ k9 : Int, ∃ A2 : Int → Int, ∃ T2 : Int → Int, ∃ W2 : Int → Int, ∃ S2 : Int → Int, z = aMiddle pl n ec mk Fo Ho B Lt ∧ u = [(h0, ob 10 f), (oW, ob 7 fW), (oP, ob 4 (uF (uF (uF fP 6 (iv p9)) 7 (iv n9)) 8 (iv k9))), (aA, ar 1206 A2), (aT, ar 180 T2), (aW, ar 6 W2), (aS, ar 30 S2), (oS, ob 5 fS), (aB, ar 6 B), (aF, ar 6 Fo), (aH, ar 6 Ho), (aL, ar 6 Lt)]) := by
  refine AMi.of2 rfl (nle rfl) ?_
  intro D G A p e s m args below meth c Po hPo X
  have hz6 := hz.2.1
  have hz0 := hz.1
  have hzn := hz.2.2.1
  have hzm := hz.2.2.2.1
  have hze := hz.2.2.2.2
  refine S_aload_n X dX11_middle_0 rfl rfl ?_
  refine S_get X fgX11_35_10 0 rfl hf0 dX11_middle_1 ?_
  refine S_get X fgX11_115_7 1 rfl hf3 dX11_middle_4 ?_
  refine S_if_ne (tgt := 12) X dX11_middle_7 (by decide) (by omega) (fun c_1 => ?_) (fun c_1 => ?_)
  ·
    have hok := hz.s (by omega)
    have hpl := hok.2.1
    have hpl1 := hok.1
    have hn1 := hok.2.2.1
    have hn2 := hok.2.2.2.1
    have hec := hok.2.2.2.2
    refine S_aload_n X dX11_middle_12 rfl rfl ?_
    refine S_get X fgX11_69_10 0 rfl hf2 dX11_middle_13 ?_
    refine S_aload_n X dX11_middle_16 rfl rfl ?_
    refine S_get X fgX11_59_10 0 rfl hf1 dX11_middle_17 ?_
    refine S_ldc (n := 1000000000) X m813 dX11_middle_20 ?_
    refine S_calli X (kX4_performE l fP fS pl n ec mk oP oS aA aT aW aS aB aF aH aL Ab Tm Wq Sp B Fo Ho Lt p0 n0 k0 hf4 hf5 hf6 hf7 hf8 hf9 hf10 hf11 hf12 hf13 hf14 hf15 (by omega)) (is := [2, 3, 4, 5, 6, 7, 8, 9, 10, 11]) rfl (run_V X lkX11_235 2 rfl rfl (is := [2, 3, 4, 5, 6, 7, 8, 9, 10, 11]) (avs := [rv oS, iv 1000000000]) (rest := []) rfl rfl (nle rfl) ⟨nle rfl, nle rfl⟩ ⟨nle rfl, nle rfl⟩ dX11_middle_22 (by decide) rfl) (fun z_4 u_2 hp_3 => ?_)
    obtain ⟨A2_5, T2_6, W2_7, S2_8, hz_9, hu_10, hq_11, hA2_12, hT2_13, hS2_14⟩ := hp_3
    subst hz_9
    subst hu_10
    refine ⟨rfl, ?_⟩
    refine S_w (ws' := [(h0, ob 10 f), (oW, ob 7 fW), (oP, ob 4 (uF (uF (uF fP 6 (iv pl)) 7 (iv n)) 8 (iv mk))), (aA, ar 1206 A2_5), (aT, ar 180 T2_6), (aW, ar 6 W2_7), (aS, ar 30 S2_8), (oS, ob 5 fS), (aB, ar 6 B), (aF, ar 6 Fo), (aH, ar 6 Ho), (aL, ar 6 Lt)]) rfl ?_
    have hAL := hA2_12
    have hTL := hT2_13
    have hSL := hS2_14
    refine S_pop X dX11_middle_25 ?_
    refine S_aload_n X dX11_middle_26 rfl rfl ?_
    refine S_get X fgX11_69_10 0 rfl hf2 dX11_middle_27 ?_
    refine S_calli X (kX4_innermost l (uF (uF (uF fP 6 (iv pl)) 7 (iv n)) 8 (iv mk)) pl n ec mk oP aT T2_6 B Fo Ho Lt hf5 rfl rfl (by omega) hTL) (is := [2, 4]) rfl (run_V X lkX11_277 2 rfl rfl (is := [2, 4]) (avs := []) (rest := []) rfl rfl (nle rfl) ⟨nle rfl, nle rfl⟩ ⟨nle rfl, nle rfl⟩ dX11_middle_30 (by decide) rfl) (fun z_17 u_15 hp_16 => ?_)
    obtain ⟨hz_18, hu_19⟩ := hp_16
    subst hz_18
    subst hu_19
    refine ⟨rfl, ?_⟩
    refine S_w (ws' := [(h0, ob 10 f), (oW, ob 7 fW), (oP, ob 4 (uF (uF (uF fP 6 (iv pl)) 7 (iv n)) 8 (iv mk))), (aA, ar 1206 A2_5), (aT, ar 180 T2_6), (aW, ar 6 W2_7), (aS, ar 30 S2_8), (oS, ob 5 fS), (aB, ar 6 B), (aF, ar 6 Fo), (aH, ar 6 Ho), (aL, ar 6 Lt)]) rfl ?_
    exact S_iret X (nle rfl) (nle rfl) dX11_middle_33 (hPo _ _ (⟨_, _, _, _, _, _, _, by unfold aMiddle; rw [if_pos (by omega)]; try rfl, rfl⟩))
  ·
    refine S_iconst X dX11_middle_10 ?_
    exact S_iret X (nle rfl) (nle rfl) dX11_middle_11 (hPo _ _ (⟨_, _, _, _, _, _, _, by unfold aMiddle; rw [if_neg (by omega)], rfl⟩))
set_option maxHeartbeats 4000000 in
set_option maxRecDepth 100000 in
theorem kX11_ends (l : Launch) (h0 : Nat) (f : Nat → AV) (oW : Nat) (fW : Nat → AV) (fP : Nat → AV) (fS : Nat → AV) (pl : Int) (n : Int) (ec : Int) (mk : Int) (oP : Nat) (oS : Nat) (aA : Nat) (aT : Nat) (aW : Nat) (aS : Nat) (aB : Nat) (aF : Nat) (aH : Nat) (aL : Nat) (Ab : Int → Int) (Tm : Int → Int) (Wq : Int → Int) (Sp : Int → Int) (B : Int → Int) (Fo : Int → Int) (Ho : Int → Int) (Lt : Int → Int) (p0 : Int) (n0 : Int) (k0 : Int) (v : Int) (hf0 : f 3 = rv oW) (hf1 : f 7 = rv oS) (hf2 : f 9 = rv oP) (hf3 : fW 0 = iv pl) (hf4 : fP 0 = rv aA) (hf5 : fP 1 = rv aT) (hf6 : fP 2 = rv aW) (hf7 : fP 3 = rv aS) (hf8 : fS 0 = iv pl) (hf9 : fS 1 = iv n) (hf10 : fS 2 = iv ec) (hf11 : fS 3 = iv mk) (hf12 : fS 4 = rv aB) (hf13 : fS 5 = rv aF) (hf14 : fS 6 = rv aH) (hf15 : fS 7 = rv aL) (hz : okZ pl n ec Fo Ho B Lt) (hx_v : inR v) : AMi l yX11_ends cX11_ends 4 .int 4 0 0 [rv h0, iv v] [(h0, ob 10 f), (oW, ob 7 fW), (oP, ob 4 (uF (uF (uF fP 6 (iv p0)) 7 (iv n0)) 8 (iv k0))), (aA, ar 1206 Ab), (aT, ar 180 Tm), (aW, ar 6 Wq), (aS, ar 30 Sp), (oS, ob 5 fS), (aB, ar 6 B), (aF, ar 6 Fo), (aH, ar 6 Ho), (aL, ar 6 Lt)] (fun z u => ∃ p9 : Int, ∃ n9 : Int, ∃ k9 : Int, ∃ A2 : Int → Int, ∃ T2 : Int → Int, ∃ W2 : Int → Int, ∃ S2 : Int → Int, z = aEnds pl n ec mk Fo Ho B Lt v ∧ u = [(h0, ob 10 f), (oW, ob 7 fW), (oP, ob 4 (uF (uF (uF fP 6 (iv p9)) 7 (iv n9)) 8 (iv k9))), (aA, ar 1206 A2), (aT, ar 180 T2), (aW, ar 6 W2), (aS, ar 30 S2), (oS, ob 5 fS), (aB, ar 6 B), (aF, ar 6 Fo), (aH, ar 6 Ho), (aL, ar 6 Lt)]) := by
  refine AMi.of2 rfl (nle rfl) ?_
  intro D G A p e s m args below meth c Po hPo X
  have hz6 := hz.2.1
  have hz0 := hz.1
  have hzn := hz.2.2.1
  have hzm := hz.2.2.2.1
  have hze := hz.2.2.2.2
  refine S_aload_n X dX11_ends_0 rfl rfl ?_
  refine S_iload_n X dX11_ends_1 rfl rfl ?_
  refine S_calli X (kX11_isOneOfTwo l h0 f oW fW pl v hf0 hf3 (by omega) (by omega)) (is := [0, 1]) rfl (run_V X lkX11_252 0 rfl rfl (is := [0, 1]) (avs := [iv v]) (rest := []) rfl rfl (nle rfl) ⟨nle rfl, nle rfl⟩ ⟨nle rfl, nle rfl⟩ dX11_ends_2 (by decide) rfl) (fun z_3 u_1 hp_2 => ?_)
  rcases hp_2 with ⟨hz_4, hu_5, hp_6⟩ | ⟨hz_7, hu_8, hp_9⟩
  ·
    subst hz_4
    subst hu_5
    refine ⟨rfl, ?_⟩
    refine S_w (ws' := [(h0, ob 10 f), (oW, ob 7 fW), (oP, ob 4 (uF (uF (uF fP 6 (iv p0)) 7 (iv n0)) 8 (iv k0))), (aA, ar 1206 Ab), (aT, ar 180 Tm), (aW, ar 6 Wq), (aS, ar 30 Sp), (oS, ob 5 fS), (aB, ar 6 B), (aF, ar 6 Fo), (aH, ar 6 Ho), (aL, ar 6 Lt)]) rfl ?_
    refine S_if_ne (tgt := 10) X dX11_ends_5 (by decide) (by decide) (fun h9 => absurd h9 (by decide)) (fun _ => ?_)
    refine S_iconst X dX11_ends_8 ?_
    exact S_iret X (nle rfl) (nle rfl) dX11_ends_9 (hPo _ _ (⟨_, _, _, _, _, _, _, by unfold aEnds; rw [if_neg (by omega)], rfl⟩))
  ·
    subst hz_7
    subst hu_8
    refine ⟨rfl, ?_⟩
    refine S_w (ws' := [(h0, ob 10 f), (oW, ob 7 fW), (oP, ob 4 (uF (uF (uF fP 6 (iv p0)) 7 (iv n0)) 8 (iv k0))), (aA, ar 1206 Ab), (aT, ar 180 Tm), (aW, ar 6 Wq), (aS, ar 30 Sp), (oS, ob 5 fS), (aB, ar 6 B), (aF, ar 6 Fo), (aH, ar 6 Ho), (aL, ar 6 Lt)]) rfl ?_
    refine S_if_ne (tgt := 10) X dX11_ends_5 (by decide) (by decide) (fun _ => ?_) (fun h9 => absurd h9 (by decide))
    have hok := hz.s (by omega)
    have hpl := hok.2.1
    have hpl1 := hok.1
    have hn1 := hok.2.2.1
    have hn2 := hok.2.2.2.1
    have hec := hok.2.2.2.2
    refine S_aload_n X dX11_ends_10 rfl rfl ?_
    refine S_get X fgX11_69_10 0 rfl hf2 dX11_ends_11 ?_
    refine S_aload_n X dX11_ends_14 rfl rfl ?_
    refine S_get X fgX11_59_10 0 rfl hf1 dX11_ends_15 ?_
    refine S_ldc (n := 1000000000) X m813 dX11_ends_18 ?_
    refine S_calli X (kX4_performE l fP fS pl n ec mk oP oS aA aT aW aS aB aF aH aL Ab Tm Wq Sp B Fo Ho Lt p0 n0 k0 hf4 hf5 hf6 hf7 hf8 hf9 hf10 hf11 hf12 hf13 hf14 hf15 (by omega)) (is := [2, 3, 4, 5, 6, 7, 8, 9, 10, 11]) rfl (run_V X lkX11_235 2 rfl rfl (is := [2, 3, 4, 5, 6, 7, 8, 9, 10, 11]) (avs := [rv oS, iv 1000000000]) (rest := []) rfl rfl (nle rfl) ⟨nle rfl, nle rfl⟩ ⟨nle rfl, nle rfl⟩ dX11_ends_20 (by decide) rfl) (fun z_14 u_12 hp_13 => ?_)
    obtain ⟨A2_15, T2_16, W2_17, S2_18, hz_19, hu_20, hq_21, hA2_22, hT2_23, hS2_24⟩ := hp_13
    subst hz_19
    subst hu_20
    refine ⟨rfl, ?_⟩
    refine S_w (ws' := [(h0, ob 10 f), (oW, ob 7 fW), (oP, ob 4 (uF (uF (uF fP 6 (iv pl)) 7 (iv n)) 8 (iv mk))), (aA, ar 1206 A2_15), (aT, ar 180 T2_16), (aW, ar 6 W2_17), (aS, ar 30 S2_18), (oS, ob 5 fS), (aB, ar 6 B), (aF, ar 6 Fo), (aH, ar 6 Ho), (aL, ar 6 Lt)]) rfl ?_
    have hAL := hA2_22
    have hTL := hT2_23
    have hSL := hS2_24
    refine S_pop X dX11_ends_23 ?_
    refine S_aload_n X dX11_ends_24 rfl rfl ?_
    refine S_get X fgX11_59_10 0 rfl hf1 dX11_ends_25 ?_
    refine S_get X fgX11_182_5 7 rfl hf9 dX11_ends_28 ?_
    refine S_iconst X dX11_ends_31 ?_
    refine S_isub X dX11_ends_32 ?_
    refine S_istore_n X dX11_ends_33 rfl (nle rfl) ?_
    refine S_aload_n X dX11_ends_34 rfl rfl ?_
    refine S_get X fgX11_69_10 0 rfl hf2 dX11_ends_35 ?_
    refine S_iload_n X dX11_ends_38 rfl rfl ?_
    refine S_calli X (kX4_greatestIn l (uF (uF (uF fP 6 (iv pl)) 7 (iv n)) 8 (iv mk)) pl n ec mk oP aT T2_16 B Fo Ho Lt (n - 1) hf5 rfl (by omega) hTL (by omega)) (is := [2, 4]) rfl (run_V X lkX11_280 2 rfl rfl (is := [2, 4]) (avs := [iv (n - 1)]) (rest := []) rfl rfl (nle rfl) ⟨nle rfl, nle rfl⟩ ⟨nle rfl, nle rfl⟩ dX11_ends_39 (by decide) rfl) (fun z_27 u_25 hp_26 => ?_)
    obtain ⟨hz_28, hu_29⟩ := hp_26
    subst hz_28
    subst hu_29
    refine ⟨rfl, ?_⟩
    refine S_w (ws' := [(h0, ob 10 f), (oW, ob 7 fW), (oP, ob 4 (uF (uF (uF fP 6 (iv pl)) 7 (iv n)) 8 (iv mk))), (aA, ar 1206 A2_15), (aT, ar 180 T2_16), (aW, ar 6 W2_17), (aS, ar 30 S2_18), (oS, ob 5 fS), (aB, ar 6 B), (aF, ar 6 Fo), (aH, ar 6 Ho), (aL, ar 6 Lt)]) rfl ?_
    refine S_istore_n X dX11_ends_42 rfl (nle rfl) ?_
    refine S_iload_n X dX11_ends_43 rfl rfl ?_
    refine S_if_ne (tgt := 51) X dX11_ends_44 (by decide) (by omega) (fun c_30 => ?_) (fun c_30 => ?_)
    ·
      refine S_iload_n X dX11_ends_51 rfl rfl ?_
      refine S_aload_n X dX11_ends_52 rfl rfl ?_
      refine S_get X fgX11_69_10 0 rfl hf2 dX11_ends_53 ?_
      refine S_get X fgX11_249_4 2 rfl hf7 dX11_ends_56 ?_
      refine S_iload_n X dX11_ends_59 rfl rfl ?_
      refine S_iald X 6 rfl (by omega) (by omega) (nle rfl) dX11_ends_60 ?_
      refine S_isub X dX11_ends_61 ?_
      exact S_iret X (nle rfl) (nle rfl) dX11_ends_62 (hPo _ _ (⟨_, _, _, _, _, _, _, by unfold aEnds; rw [if_pos (by omega)]; rw [if_neg (by omega), hSL (n - 1) (by omega) (by omega)], rfl⟩))
    ·
      refine S_iload_n X dX11_ends_47 rfl rfl ?_
      refine S_goto (tgt := 62) X dX11_ends_48 (by decide) ?_
      exact S_iret X (nle rfl) (nle rfl) dX11_ends_62 (hPo _ _ (⟨_, _, _, _, _, _, _, by unfold aEnds; rw [if_pos (by omega)]; rw [if_pos (by omega)], rfl⟩))
set_option maxHeartbeats 4000000 in
set_option maxRecDepth 100000 in
theorem kX11_stray (l : Launch) (h0 : Nat) (f : Nat → AV) (oW : Nat) (fW : Nat → AV) (fP : Nat → AV) (fS : Nat → AV) (pl : Int) (n : Int) (ec : Int) (mk : Int) (oP : Nat) (oS : Nat) (aA : Nat) (aT : Nat) (aW : Nat) (aS : Nat) (aB : Nat) (aF : Nat) (aH : Nat) (aL : Nat) (Ab : Int → Int) (Tm : Int → Int) (Wq : Int → Int) (Sp : Int → Int) (B : Int → Int) (Fo : Int → Int) (Ho : Int → Int) (Lt : Int → Int) (p0 : Int) (n0 : Int) (k0 : Int) (q : Int) (v : Int) (hf0 : f 3 = rv oW) (hf1 : f 7 = rv oS) (hf2 : f 9 = rv oP) (hf3 : fW 0 = iv pl) (hf4 : fP 0 = rv aA) (hf5 : fP 1 = rv aT) (hf6 : fP 2 = rv aW) (hf7 : fP 3 = rv aS) (hf8 : fS 0 = iv pl) (hf9 : fS 1 = iv n) (hf10 : fS 2 = iv ec) (hf11 : fS 3 = iv mk) (hf12 : fS 4 = rv aB) (hf13 : fS 5 = rv aF) (hf14 : fS 6 = rv aH) (hf15 : fS 7 = rv aL) (hz : okZ pl n ec Fo Ho B Lt) (hx_q : inR q) (hx_v : inR v) : AMi l yX11_stray cX11_stray 3 .int 4 0 0 [rv h0, iv q, iv v] [(h0, ob 10 f), (oW, ob 7 fW), (oP, ob 4 (uF (uF (uF fP 6 (iv p0)) 7 (iv n0)) 8 (iv k0))), (aA, ar 1206 Ab), (aT, ar 180 Tm), (aW, ar 6 Wq), (aS, ar 30 Sp), (oS, ob 5 fS), (aB, ar 6 B), (aF, ar 6 Fo), (aH, ar 6 Ho), (aL, ar 6 Lt)] (fun z u => ∃ p9 : Int, ∃ n9 : Int, ∃ k9 : Int, ∃ A2 : Int → Int, ∃ T2 : Int → Int, ∃ W2 : Int → Int, ∃ S2 : Int → Int, z = aStray pl n ec Fo Ho B q v ∧ u = [(h0, ob 10 f), (oW, ob 7 fW), (oP, ob 4 (uF (uF (uF fP 6 (iv p9)) 7 (iv n9)) 8 (iv k9))), (aA, ar 1206 A2), (aT, ar 180 T2), (aW, ar 6 W2), (aS, ar 30 S2), (oS, ob 5 fS), (aB, ar 6 B), (aF, ar 6 Fo), (aH, ar 6 Ho), (aL, ar 6 Lt)]) := by
  refine AMi.of2 rfl (nle rfl) ?_
  intro D G A p e s m args below meth c Po hPo X
  have hz6 := hz.2.1
  have hz0 := hz.1
  have hzn := hz.2.2.1
  have hzm := hz.2.2.2.1
  have hze := hz.2.2.2.2
  refine S_aload_n X dX11_stray_0 rfl rfl ?_
  refine S_iload_n X dX11_stray_1 rfl rfl ?_
  refine S_calli X (kX11_isPlayer l h0 f oW fW pl q hf0 hf3 (by omega) (by omega)) (is := [0, 1]) rfl (run_V X lkX11_147 0 rfl rfl (is := [0, 1]) (avs := [iv q]) (rest := []) rfl rfl (nle rfl) ⟨nle rfl, nle rfl⟩ ⟨nle rfl, nle rfl⟩ dX11_stray_2 (by decide) rfl) (fun z_3 u_1 hp_2 => ?_)
  rcases hp_2 with ⟨hz_4, hu_5, hp_6⟩ | ⟨hz_7, hu_8, hp_9⟩
  ·
    subst hz_4
    subst hu_5
    refine ⟨rfl, ?_⟩
    refine S_w (ws' := [(h0, ob 10 f), (oW, ob 7 fW), (oP, ob 4 (uF (uF (uF fP 6 (iv p0)) 7 (iv n0)) 8 (iv k0))), (aA, ar 1206 Ab), (aT, ar 180 Tm), (aW, ar 6 Wq), (aS, ar 30 Sp), (oS, ob 5 fS), (aB, ar 6 B), (aF, ar 6 Fo), (aH, ar 6 Ho), (aL, ar 6 Lt)]) rfl ?_
    refine S_if_eq (tgt := 19) X dX11_stray_5 (by decide) (by decide) (fun _ => ?_) (fun h9 => absurd h9 (by decide))
    refine S_iconst X dX11_stray_19 ?_
    exact S_iret X (nle rfl) (nle rfl) dX11_stray_20 (hPo _ _ (⟨_, _, _, _, _, _, _, by unfold aStray; rw [if_neg (by omega)], rfl⟩))
  ·
    subst hz_7
    subst hu_8
    refine ⟨rfl, ?_⟩
    refine S_w (ws' := [(h0, ob 10 f), (oW, ob 7 fW), (oP, ob 4 (uF (uF (uF fP 6 (iv p0)) 7 (iv n0)) 8 (iv k0))), (aA, ar 1206 Ab), (aT, ar 180 Tm), (aW, ar 6 Wq), (aS, ar 30 Sp), (oS, ob 5 fS), (aB, ar 6 B), (aF, ar 6 Fo), (aH, ar 6 Ho), (aL, ar 6 Lt)]) rfl ?_
    refine S_if_eq (tgt := 19) X dX11_stray_5 (by decide) (by decide) (fun h9 => absurd h9 (by decide)) (fun _ => ?_)
    refine S_iload_n X dX11_stray_8 rfl rfl ?_
    refine S_iconst X dX11_stray_9 ?_
    refine S_icmp_lt (tgt := 19) X dX11_stray_10 (by decide) (by omega) (by decide) (fun c_12 => ?_) (fun c_12 => ?_)
    ·
      refine S_iconst X dX11_stray_19 ?_
      exact S_iret X (nle rfl) (nle rfl) dX11_stray_20 (hPo _ _ (⟨_, _, _, _, _, _, _, by unfold aStray; rw [if_neg (by omega)], rfl⟩))
    ·
      refine S_iload_n X dX11_stray_13 rfl rfl ?_
      refine S_bipush X dX11_stray_14 rfl ?_
      refine S_icmp_le (tgt := 21) X dX11_stray_16 (by decide) (by omega) (by decide) (fun c_13 => ?_) (fun c_13 => ?_)
      ·
        have hok := hz.s (by omega)
        have hpl := hok.2.1
        have hpl1 := hok.1
        have hn1 := hok.2.2.1
        have hn2 := hok.2.2.2.1
        have hec := hok.2.2.2.2
        refine S_aload_n X dX11_stray_21 rfl rfl ?_
        refine S_get X fgX11_69_10 0 rfl hf2 dX11_stray_22 ?_
        refine S_aload_n X dX11_stray_25 rfl rfl ?_
        refine S_get X fgX11_59_10 0 rfl hf1 dX11_stray_26 ?_
        refine S_ldc (n := 1000000000) X m813 dX11_stray_29 ?_
        refine S_calli X (kX4_performE l fP fS pl n ec mk oP oS aA aT aW aS aB aF aH aL Ab Tm Wq Sp B Fo Ho Lt p0 n0 k0 hf4 hf5 hf6 hf7 hf8 hf9 hf10 hf11 hf12 hf13 hf14 hf15 (by omega)) (is := [2, 3, 4, 5, 6, 7, 8, 9, 10, 11]) rfl (run_V X lkX11_235 2 rfl rfl (is := [2, 3, 4, 5, 6, 7, 8, 9, 10, 11]) (avs := [rv oS, iv 1000000000]) (rest := []) rfl rfl (nle rfl) ⟨nle rfl, nle rfl⟩ ⟨nle rfl, nle rfl⟩ dX11_stray_31 (by decide) rfl) (fun z_16 u_14 hp_15 => ?_)
        obtain ⟨A2_17, T2_18, W2_19, S2_20, hz_21, hu_22, hq_23, hA2_24, hT2_25, hS2_26⟩ := hp_15
        subst hz_21
        subst hu_22
        refine ⟨rfl, ?_⟩
        refine S_w (ws' := [(h0, ob 10 f), (oW, ob 7 fW), (oP, ob 4 (uF (uF (uF fP 6 (iv pl)) 7 (iv n)) 8 (iv mk))), (aA, ar 1206 A2_17), (aT, ar 180 T2_18), (aW, ar 6 W2_19), (aS, ar 30 S2_20), (oS, ob 5 fS), (aB, ar 6 B), (aF, ar 6 Fo), (aH, ar 6 Ho), (aL, ar 6 Lt)]) rfl ?_
        have hAL := hA2_24
        have hTL := hT2_25
        have hSL := hS2_26
        refine S_pop X dX11_stray_34 ?_
        refine S_aload_n X dX11_stray_35 rfl rfl ?_
        refine S_get X fgX11_69_10 0 rfl hf2 dX11_stray_36 ?_
        refine S_iload_n X dX11_stray_39 rfl rfl ?_
        refine S_iload_n X dX11_stray_40 rfl rfl ?_
        refine S_calli X (kX4_firstChange l (uF (uF (uF fP 6 (iv pl)) 7 (iv n)) 8 (iv mk)) pl n ec oP aA A2_17 B Fo Ho Lt q v hf4 rfl (by omega) hAL (by omega) (by omega)) (is := [2, 3]) rfl (run_V X lkX11_283 2 rfl rfl (is := [2, 3]) (avs := [iv q, iv v]) (rest := []) rfl rfl (nle rfl) ⟨nle rfl, nle rfl⟩ ⟨nle rfl, nle rfl⟩ dX11_stray_41 (by decide) rfl) (fun z_29 u_27 hp_28 => ?_)
        obtain ⟨hz_30, hu_31⟩ := hp_28
        subst hz_30
        subst hu_31
        refine ⟨rfl, ?_⟩
        refine S_w (ws' := [(h0, ob 10 f), (oW, ob 7 fW), (oP, ob 4 (uF (uF (uF fP 6 (iv pl)) 7 (iv n)) 8 (iv mk))), (aA, ar 1206 A2_17), (aT, ar 180 T2_18), (aW, ar 6 W2_19), (aS, ar 30 S2_20), (oS, ob 5 fS), (aB, ar 6 B), (aF, ar 6 Fo), (aH, ar 6 Ho), (aL, ar 6 Lt)]) rfl ?_
        exact S_iret X (nle rfl) (nle rfl) dX11_stray_44 (hPo _ _ (⟨_, _, _, _, _, _, _, by unfold aStray; rw [if_pos (by omega)]; try rfl, rfl⟩))
      ·
        refine S_iconst X dX11_stray_19 ?_
        exact S_iret X (nle rfl) (nle rfl) dX11_stray_20 (hPo _ _ (⟨_, _, _, _, _, _, _, by unfold aStray; rw [if_neg (by omega)], rfl⟩))
