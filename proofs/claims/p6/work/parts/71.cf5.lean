def rwN : Nat → Int → Int
  | 0, s => if s < 0 ∨ 0 < s then 0 else 1
  | K + 1, s => if s < 0 ∨ (K + 1 : Int) * 2 < s then 0 else rwN K s + rwN K (s - 1) + rwN K (s - 2)
def p3 (K : Nat) : Int := if K = 0 then 1 else if K = 1 then 3 else if K = 2 then 9 else if K = 3 then 27 else if K = 4 then 81 else if K = 5 then 243 else 729
theorem p3_S {K : Nat} (h : K + 1 ≤ 6) : p3 (K + 1) = 3 * p3 K := by
  have : K = 0 ∨ K = 1 ∨ K = 2 ∨ K = 3 ∨ K = 4 ∨ K = 5 := by omega
  rcases this with rfl | rfl | rfl | rfl | rfl | rfl <;> rfl
theorem p3_in (K : Nat) : 1 ≤ p3 K ∧ p3 K ≤ 729 := by unfold p3; (repeat' split) <;> omega
theorem rw_in : ∀ K : Nat, K ≤ 6 → ∀ s, 0 ≤ rwN K s ∧ rwN K s ≤ p3 K := by
  intro K
  induction K with
  | zero => intro _ s; unfold rwN p3; split <;> simp
  | succ K ih =>
    intro h s
    have a := ih (by omega) s
    have b := ih (by omega) (s - 1)
    have d := ih (by omega) (s - 2)
    have e := p3_S h
    have e2 := p3_in K
    rw [rwN]
    split <;> omega
theorem okS.bt {pl n ec : Int} {Fo Ho B Lt F2 H2 B2 L2 Bv : Int → Int} (h : okS pl n ec Fo Ho B Lt) (e : teq pl Fo Ho B Lt F2 H2 B2 L2) (hb : ∀ x, 0 ≤ x → x < pl → 1 ≤ Bv x ∧ Bv x ≤ 199) : okS pl n ec F2 H2 Bv L2 := by
  obtain ⟨a1, a2, a3, a4, a5, a6, a⟩ := h
  refine ⟨a1, a2, a3, a4, a5, a6, fun p h0 h1 => ?_⟩
  obtain ⟨e1, e2, e3, e4⟩ := e p h0 h1
  have := a p h0 h1
  have k := hb p h0 h1
  rw [← e1, ← e2, ← e4]
  exact ⟨this.1, this.2.1, k, this.2.2.2⟩
theorem okS.b2 {pl n ec : Int} {Fo Ho B Lt Bv : Int → Int} (h : okS pl n ec Fo Ho B Lt) (hb : ∀ x, 0 ≤ x → x < pl → 1 ≤ Bv x ∧ Bv x ≤ 199) : okS pl n ec Fo Ho Bv Lt := h.bt (F2 := Fo) (H2 := Ho) (B2 := B) (L2 := Lt) (fun p _ _ => ⟨rfl, rfl, rfl, rfl⟩) hb
theorem mxd_q {K : Nat} (h : K + 1 ≤ 6) : mxd K = 10 * mxd (K + 1) + 9 := by
  have : K = 0 ∨ K = 1 ∨ K = 2 ∨ K = 3 ∨ K = 4 ∨ K = 5 := by omega
  rcases this with rfl | rfl | rfl | rfl | rfl | rfl <;> rfl
def C_X11_rowsWithSum (l : Launch) (K : Nat) (d : Nat) : Prop := ∀ (cn : Int) (su : Int), (cn = (K : Int) ∧ K ≤ 6) → (-100 ≤ su ∧ su ≤ 100) → AMi l yX11_rowsWithSum cX11_rowsWithSum 2 .int d 0 0 [iv cn, iv su] [] (fun z u => z = rwN K su ∧ u = [])
set_option maxHeartbeats 4000000 in
set_option maxRecDepth 100000 in
theorem kX11_rowsWithSum (l : Launch) (K : Nat) (d : Nat) (hnx : ∀ K2 : Nat, K = K2 + 1 → C_X11_rowsWithSum l K2 d) : C_X11_rowsWithSum l K (d + 1) := by
  intro cn su hcn hsu
  refine AMi.of2 rfl (nle rfl) ?_
  intro D G A p e s m args below meth c Po hPo X
  refine S_iload_n X dX11_rowsWithSum_0 rfl rfl ?_
  refine S_if_lt (tgt := 11) X dX11_rowsWithSum_1 (by decide) (by omega) (fun c_1 => ?_) (fun c_1 => ?_)
  ·
    refine S_iconst X dX11_rowsWithSum_11 ?_
    exact S_iret X (nle rfl) (nle rfl) dX11_rowsWithSum_12 (hPo _ _ (⟨by cases K with | zero => rw [rwN]; rw [if_pos (by omega)] | succ K2 => rw [rwN]; rw [if_pos (by omega)], rfl⟩))
  ·
    refine S_iload_n X dX11_rowsWithSum_4 rfl rfl ?_
    refine S_iconst X dX11_rowsWithSum_5 ?_
    refine S_iload_n X dX11_rowsWithSum_6 rfl rfl ?_
    refine S_imul X dX11_rowsWithSum_7 ?_
    refine S_icmp_le (tgt := 13) X dX11_rowsWithSum_8 (by decide) (by omega) (by omega) (fun c_2 => ?_) (fun c_2 => ?_)
    ·
      refine S_iload_n X dX11_rowsWithSum_13 rfl rfl ?_
      refine S_if_gt (tgt := 19) X dX11_rowsWithSum_14 (by decide) (by omega) (fun c_3 => ?_) (fun c_3 => ?_)
      ·
        obtain ⟨K2, hK2⟩ : ∃ K2, K = K2 + 1 := ⟨K - 1, by omega⟩
        have hp9 := p3_in K2
        have hr1 := rw_in K2 (by omega) su
        have hr2 := rw_in K2 (by omega) (su - 1)
        have hr3 := rw_in K2 (by omega) (su - 2)
        refine S_iload_n X dX11_rowsWithSum_19 rfl rfl ?_
        refine S_iconst X dX11_rowsWithSum_20 ?_
        refine S_isub X dX11_rowsWithSum_21 ?_
        refine S_iload_n X dX11_rowsWithSum_22 rfl rfl ?_
        refine S_calli X ((hnx K2 hK2) (cn - 1) su (by omega) (by omega)) (is := []) rfl (run_S X lkX11_332 (is := []) (avs := [iv (cn - 1), iv su]) (rest := []) rfl rfl (nle rfl) ⟨by simp only [rmD]; omega, by simp only [rmD]; omega⟩ ⟨nle rfl, nle rfl⟩ dX11_rowsWithSum_23 (by decide) rfl) (fun z_6 u_4 hp_5 => ?_)
        obtain ⟨hz_7, hu_8⟩ := hp_5
        subst hz_7
        subst hu_8
        refine ⟨rfl, ?_⟩
        refine S_w (ws' := []) rfl ?_
        refine S_iload_n X dX11_rowsWithSum_26 rfl rfl ?_
        refine S_iconst X dX11_rowsWithSum_27 ?_
        refine S_isub X dX11_rowsWithSum_28 ?_
        refine S_iload_n X dX11_rowsWithSum_29 rfl rfl ?_
        refine S_iconst X dX11_rowsWithSum_30 ?_
        refine S_isub X dX11_rowsWithSum_31 ?_
        refine S_calli X ((hnx K2 hK2) (cn - 1) (su - 1) (by omega) (by omega)) (is := []) rfl (run_S X lkX11_332 (is := []) (avs := [iv (cn - 1), iv (su - 1)]) (rest := [iv (rwN K2 su)]) rfl rfl (nle rfl) ⟨by simp only [rmD]; omega, by simp only [rmD]; omega⟩ ⟨nle rfl, nle rfl⟩ dX11_rowsWithSum_32 (by decide) rfl) (fun z_11 u_9 hp_10 => ?_)
        obtain ⟨hz_12, hu_13⟩ := hp_10
        subst hz_12
        subst hu_13
        refine ⟨rfl, ?_⟩
        refine S_w (ws' := []) rfl ?_
        refine S_iadd X dX11_rowsWithSum_35 ?_
        refine S_iload_n X dX11_rowsWithSum_36 rfl rfl ?_
        refine S_iconst X dX11_rowsWithSum_37 ?_
        refine S_isub X dX11_rowsWithSum_38 ?_
        refine S_iload_n X dX11_rowsWithSum_39 rfl rfl ?_
        refine S_iconst X dX11_rowsWithSum_40 ?_
        refine S_isub X dX11_rowsWithSum_41 ?_
        refine S_calli X ((hnx K2 hK2) (cn - 1) (su - 2) (by omega) (by omega)) (is := []) rfl (run_S X lkX11_332 (is := []) (avs := [iv (cn - 1), iv (su - 2)]) (rest := [iv ((rwN K2 su) + (rwN K2 (su - 1)))]) rfl rfl (nle rfl) ⟨by simp only [rmD]; omega, by simp only [rmD]; omega⟩ ⟨nle rfl, nle rfl⟩ dX11_rowsWithSum_42 (by decide) rfl) (fun z_16 u_14 hp_15 => ?_)
        obtain ⟨hz_17, hu_18⟩ := hp_15
        subst hz_17
        subst hu_18
        refine ⟨rfl, ?_⟩
        refine S_w (ws' := []) rfl ?_
        refine S_iadd X dX11_rowsWithSum_45 ?_
        exact S_iret X (nle rfl) (nle rfl) dX11_rowsWithSum_46 (hPo _ _ (⟨by rw [hK2, rwN, if_neg (by omega)], rfl⟩))
      ·
        refine S_iconst X dX11_rowsWithSum_17 ?_
        exact S_iret X (nle rfl) (nle rfl) dX11_rowsWithSum_18 (hPo _ _ (⟨by rw [show K = 0 by omega, rwN, if_neg (by omega)], rfl⟩))
    ·
      refine S_iconst X dX11_rowsWithSum_11 ?_
      exact S_iret X (nle rfl) (nle rfl) dX11_rowsWithSum_12 (hPo _ _ (⟨by cases K with | zero => rw [rwN]; rw [if_pos (by omega)] | succ K2 => rw [rwN]; rw [if_pos (by omega)], rfl⟩))
theorem rws_all (l : Launch) : ∀ K d : Nat, K ≤ d → C_X11_rowsWithSum l K (d + 1) := by
  intro K
  induction K with
  | zero => intro d _; exact kX11_rowsWithSum l 0 d (fun K2 h => by omega)
  | succ K ih =>
    intro d h
    refine kX11_rowsWithSum l (K + 1) d (fun K2 h2 => ?_)
    cases h2
    have := ih (d - 1) (by omega)
    rwa [show d - 1 + 1 = d by omega] at this
set_option maxHeartbeats 4000000 in
set_option maxRecDepth 100000 in
theorem kX11_odds (l : Launch) (h0 : Nat) (f : Nat → AV) (oW : Nat) (fW : Nat → AV) (fP : Nat → AV) (fS : Nat → AV) (pl : Int) (n : Int) (ec : Int) (mk : Int) (oP : Nat) (oS : Nat) (aA : Nat) (aT : Nat) (aW : Nat) (aS : Nat) (aB : Nat) (aF : Nat) (aH : Nat) (aL : Nat) (Ab : Int → Int) (Tm : Int → Int) (Wq : Int → Int) (Sp : Int → Int) (B : Int → Int) (Fo : Int → Int) (Ho : Int → Int) (Lt : Int → Int) (p0 : Int) (n0 : Int) (k0 : Int) (q : Int) (k9 : Int) (oT : Nat) (tB : Nat) (tF : Nat) (tH : Nat) (tL : Nat) (fT : Nat → AV) (TB : Int → Int) (TF : Int → Int) (TH : Int → Int) (TL : Int → Int) (t0 : Int) (t1 : Int) (t2 : Int) (t3 : Int) (wD : Nat) (wK : Nat) (WD : Int → Int) (WK : Int → Int) (mt : Int) (hf0 : f 3 = rv oW) (hf1 : f 7 = rv oS) (hf2 : f 9 = rv oP) (hf3 : f 8 = rv oT) (hf4 : fW 0 = iv pl) (hf5 : fP 0 = rv aA) (hf6 : fP 1 = rv aT) (hf7 : fP 2 = rv aW) (hf8 : fP 3 = rv aS) (hf9 : fS 0 = iv pl) (hf10 : fS 1 = iv n) (hf11 : fS 2 = iv ec) (hf12 : fS 3 = iv mk) (hf13 : fS 4 = rv aB) (hf14 : fS 5 = rv aF) (hf15 : fS 6 = rv aH) (hf16 : fS 7 = rv aL) (hf17 : fT 4 = rv tB) (hf18 : fT 5 = rv tF) (hf19 : fT 6 = rv tH) (hf20 : fT 7 = rv tL) (hf21 : fW 3 = rv wD) (hf22 : fW 4 = rv wK) (hz : okZ pl n ec Fo Ho B Lt) (hx_q : inR q) (hx_k9 : inR k9) (hod0 : 1 ≤ pl → okDy pl mt WK WD) : AMi l yX11_odds cX11_odds 6 .int 8 0 0 [rv h0, iv q, iv k9] [(h0, ob 10 f), (oW, ob 7 fW), (oP, ob 4 (uF (uF (uF fP 6 (iv p0)) 7 (iv n0)) 8 (iv k0))), (aA, ar 1206 Ab), (aT, ar 180 Tm), (aW, ar 6 Wq), (aS, ar 30 Sp), (oS, ob 5 fS), (aB, ar 6 B), (aF, ar 6 Fo), (aH, ar 6 Ho), (aL, ar 6 Lt), (oT, ob 5 (uF (uF (uF (uF fT 0 (iv t0)) 1 (iv t1)) 2 (iv t2)) 3 (iv t3))), (tB, ar 6 TB), (tF, ar 6 TF), (tH, ar 6 TH), (tL, ar 6 TL), (wD, ar 6 WD), (wK, ar 6 WK)] (fun z u => ∃ z9 : Int, ∃ p9 : Int, ∃ n9 : Int, ∃ k9 : Int, ∃ A2 : Int → Int, ∃ T2 : Int → Int, ∃ W2 : Int → Int, ∃ S2 : Int → Int, ∃ t4 : Int, ∃ t5 : Int, ∃ t6 : Int, ∃ t7 : Int, ∃ B3 : Int → Int, ∃ F3 : Int → Int, ∃ H3 : Int → Int, ∃ L3 : Int → Int, z = z9 ∧ u = [(h0, ob 10 f), (oW, ob 7 fW), (oP, ob 4 (uF (uF (uF fP 6 (iv p9)) 7 (iv n9)) 8 (iv k9))), (aA, ar 1206 A2), (aT, ar 180 T2), (aW, ar 6 W2), (aS, ar 30 S2), (oS, ob 5 fS), (aB, ar 6 B), (aF, ar 6 Fo), (aH, ar 6 Ho), (aL, ar 6 Lt), (oT, ob 5 (uF (uF (uF (uF fT 0 (iv t4)) 1 (iv t5)) 2 (iv t6)) 3 (iv t7))), (tB, ar 6 B3), (tF, ar 6 F3), (tH, ar 6 H3), (tL, ar 6 L3), (wD, ar 6 WD), (wK, ar 6 WK)]) := by
  refine AMi.of2 rfl (nle rfl) ?_
  intro D G A p e s m args below meth c Po hPo X
  have hz6 := hz.2.1
  have hz0 := hz.1
  have hzn := hz.2.2.1
  have hzm := hz.2.2.2.1
  have hze := hz.2.2.2.2
  refine S_aload_n X dX11_odds_0 rfl rfl ?_
  refine S_iload_n X dX11_odds_1 rfl rfl ?_
  refine S_calli X (kX11_isPlayer l h0 f oW fW pl q hf0 hf4 (by omega) (by omega)) (is := [0, 1]) rfl (run_V X lkX11_147 0 rfl rfl (is := [0, 1]) (avs := [iv q]) (rest := []) rfl rfl (nle rfl) ⟨nle rfl, nle rfl⟩ ⟨nle rfl, nle rfl⟩ dX11_odds_2 (by decide) rfl) (fun z_3 u_1 hp_2 => ?_)
  rcases hp_2 with ⟨hz_4, hu_5, hp_6⟩ | ⟨hz_7, hu_8, hp_9⟩
  ·
    subst hz_4
    subst hu_5
    refine ⟨rfl, ?_⟩
    refine S_w (ws' := [(h0, ob 10 f), (oW, ob 7 fW), (oP, ob 4 (uF (uF (uF fP 6 (iv p0)) 7 (iv n0)) 8 (iv k0))), (aA, ar 1206 Ab), (aT, ar 180 Tm), (aW, ar 6 Wq), (aS, ar 30 Sp), (oS, ob 5 fS), (aB, ar 6 B), (aF, ar 6 Fo), (aH, ar 6 Ho), (aL, ar 6 Lt), (oT, ob 5 (uF (uF (uF (uF fT 0 (iv t0)) 1 (iv t1)) 2 (iv t2)) 3 (iv t3))), (tB, ar 6 TB), (tF, ar 6 TF), (tH, ar 6 TH), (tL, ar 6 TL), (wD, ar 6 WD), (wK, ar 6 WK)]) rfl ?_
    refine S_if_eq (tgt := 19) X dX11_odds_5 (by decide) (by decide) (fun _ => ?_) (fun h9 => absurd h9 (by decide))
    refine S_iconst X dX11_odds_19 ?_
    exact S_iret X (nle rfl) (nle rfl) dX11_odds_20 (hPo _ _ (⟨_, _, _, _, _, _, _, _, _, _, _, _, _, _, _, _, rfl, rfl⟩))
  ·
    subst hz_7
    subst hu_8
    refine ⟨rfl, ?_⟩
    refine S_w (ws' := [(h0, ob 10 f), (oW, ob 7 fW), (oP, ob 4 (uF (uF (uF fP 6 (iv p0)) 7 (iv n0)) 8 (iv k0))), (aA, ar 1206 Ab), (aT, ar 180 Tm), (aW, ar 6 Wq), (aS, ar 30 Sp), (oS, ob 5 fS), (aB, ar 6 B), (aF, ar 6 Fo), (aH, ar 6 Ho), (aL, ar 6 Lt), (oT, ob 5 (uF (uF (uF (uF fT 0 (iv t0)) 1 (iv t1)) 2 (iv t2)) 3 (iv t3))), (tB, ar 6 TB), (tF, ar 6 TF), (tH, ar 6 TH), (tL, ar 6 TL), (wD, ar 6 WD), (wK, ar 6 WK)]) rfl ?_
    refine S_if_eq (tgt := 19) X dX11_odds_5 (by decide) (by decide) (fun h9 => absurd h9 (by decide)) (fun _ => ?_)
    refine S_iload_n X dX11_odds_8 rfl rfl ?_
    refine S_iconst X dX11_odds_9 ?_
    refine S_icmp_lt (tgt := 19) X dX11_odds_10 (by decide) (by omega) (by decide) (fun c_12 => ?_) (fun c_12 => ?_)
    ·
      refine S_iconst X dX11_odds_19 ?_
      exact S_iret X (nle rfl) (nle rfl) dX11_odds_20 (hPo _ _ (⟨_, _, _, _, _, _, _, _, _, _, _, _, _, _, _, _, rfl, rfl⟩))
    ·
      refine S_iload_n X dX11_odds_13 rfl rfl ?_
      refine S_bipush X dX11_odds_14 rfl ?_
      refine S_icmp_le (tgt := 21) X dX11_odds_16 (by decide) (by omega) (by decide) (fun c_13 => ?_) (fun c_13 => ?_)
      ·
        have hok := hz.s (by omega)
        have hpl := hok.2.1
        have hpl1 := hok.1
        have hn1 := hok.2.2.1
        have hn2 := hok.2.2.2.1
        have hec := hok.2.2.2.2
        have hod := hod0 (by omega)
        refine S_aload_n X dX11_odds_21 rfl rfl ?_
        refine S_get X fgX11_63_10 0 rfl hf3 dX11_odds_22 ?_
        refine S_aload_n X dX11_odds_25 rfl rfl ?_
        refine S_get X fgX11_59_10 0 rfl hf1 dX11_odds_26 ?_
        refine S_callv X (kX6_copyFrom l fS pl n ec mk oS aB aF aH aL B Fo Ho Lt oT tB tF tH tL fT TB TF TH TL t0 t1 t2 t3 hf9 hf10 hf11 hf12 hf13 hf14 hf15 hf16 hf17 hf18 hf19 hf20) (is := [12, 13, 14, 15, 16, 7, 8, 9, 10, 11]) rfl (run_V X lkX11_289 12 rfl rfl (is := [12, 13, 14, 15, 16, 7, 8, 9, 10, 11]) (avs := [rv oS]) (rest := []) rfl rfl (nle rfl) ⟨nle rfl, nle rfl⟩ ⟨nle rfl, nle rfl⟩ dX11_odds_29 (by decide) rfl) (fun u_14 hp_15 => ?_)
        obtain ⟨B2_17, F2_18, H2_19, L2_20, hu_22, hB2_23, hF2_24, hH2_25, hL2_26⟩ := hp_15
        subst hu_22
        refine ⟨rfl, ?_⟩
        refine S_w (ws' := [(h0, ob 10 f), (oW, ob 7 fW), (oP, ob 4 (uF (uF (uF fP 6 (iv p0)) 7 (iv n0)) 8 (iv k0))), (aA, ar 1206 Ab), (aT, ar 180 Tm), (aW, ar 6 Wq), (aS, ar 30 Sp), (oS, ob 5 fS), (aB, ar 6 B), (aF, ar 6 Fo), (aH, ar 6 Ho), (aL, ar 6 Lt), (oT, ob 5 (uF (uF (uF (uF fT 0 (iv pl)) 1 (iv n)) 2 (iv ec)) 3 (iv mk))), (tB, ar 6 B2_17), (tF, ar 6 F2_18), (tH, ar 6 H2_19), (tL, ar 6 L2_20), (wD, ar 6 WD), (wK, ar 6 WK)]) rfl ?_
        have hB9 := hB2_23
        have hF9 := hF2_24
        have hH9 := hH2_25
        have hL9 := hL2_26
        have hte := te_0 (pl := pl) (by omega) hB9 hF9 hH9 hL9
        refine S_iconst X dX11_odds_32 ?_
        refine S_istore_n X dX11_odds_33 rfl (nle rfl) ?_
        refine S_iconst X dX11_odds_34 ?_
        refine S_istore X dX11_odds_35 (nle rfl) ?_
        have lp37_3 : ∀ (N : Nat) (su : Int) (st : Int) (Bz : Int → Int) (Aw : Int → Int) (Tw : Int → Int) (Ww : Int → Int) (Sw : Int → Int) (pw : Int) (nw : Int) (kw : Int) (L : Nat → Option AV), 0 ≤ su ∧ su ≤ 13 → 0 ≤ st ∧ st ≤ 729 * su → L 0 = some (rv h0) → L 1 = some (iv q) → L 2 = some (iv k9) → L 3 = some (iv st) → L 4 = some (iv su) → 14 - su < (N : Int) → S_ p l e (rmD 8 0 0) s m args below meth c (MQ below (QcI D G A Po) args s 0 0 A) D G A 6 0 0 37 L [] [(h0, ob 10 f), (oW, ob 7 fW), (oP, ob 4 (uF (uF (uF fP 6 (iv pw)) 7 (iv nw)) 8 (iv kw))), (aA, ar 1206 Aw), (aT, ar 180 Tw), (aW, ar 6 Ww), (aS, ar 30 Sw), (oS, ob 5 fS), (aB, ar 6 B), (aF, ar 6 Fo), (aH, ar 6 Ho), (aL, ar 6 Lt), (oT, ob 5 (uF (uF (uF (uF fT 0 (iv pl)) 1 (iv n)) 2 (iv ec)) 3 (iv mk))), (tB, ar 6 Bz), (tF, ar 6 F2_18), (tH, ar 6 H2_19), (tL, ar 6 L2_20), (wD, ar 6 WD), (wK, ar 6 WK)] := by
          intro N
          induction N with
          | zero =>
            intro su st Bz Aw Tw Ww Sw pw nw kw L37 hsu hst hL37_0 hL37_1 hL37_2 hL37_3 hL37_4 hN37
            exfalso; omega
          | succ N ih37 =>
            intro su st Bz Aw Tw Ww Sw pw nw kw L37 hsu hst hL37_0 hL37_1 hL37_2 hL37_3 hL37_4 hN37
            refine S_iload X dX11_odds_37 hL37_4 ?_
            refine S_iconst X dX11_odds_39 ?_
            refine S_iload_n X dX11_odds_40 rfl hL37_2 ?_
            refine S_imul X dX11_odds_41 ?_
            refine S_icmp_gt (tgt := 147) X dX11_odds_42 (by decide) (by omega) (by omega) (fun c_27 => ?_) (fun c_27 => ?_)
            ·
              refine S_iload_n X dX11_odds_147 rfl hL37_3 ?_
              exact S_iret X (nle rfl) (nle rfl) dX11_odds_148 (hPo _ _ (⟨_, _, _, _, _, _, _, _, _, _, _, _, _, _, _, _, rfl, rfl⟩))
            ·
              refine S_iconst X dX11_odds_45 ?_
              refine S_istore X dX11_odds_46 (nle rfl) ?_
              have lp48_6 : ∀ (N : Nat) (i : Int) (Bv : Int → Int) (L : Nat → Option AV), 0 ≤ i ∧ i ≤ pl → (∀ x, 0 ≤ x → x < i → 1 ≤ Bv x ∧ Bv x ≤ 199) → L 0 = some (rv h0) → L 1 = some (iv q) → L 2 = some (iv k9) → L 3 = some (iv st) → L 4 = some (iv su) → L 5 = some (iv i) → pl + 1 - i < (N : Int) → S_ p l e (rmD 8 0 0) s m args below meth c (MQ below (QcI D G A Po) args s 0 0 A) D G A 6 0 0 48 L [] [(h0, ob 10 f), (oW, ob 7 fW), (oP, ob 4 (uF (uF (uF fP 6 (iv pw)) 7 (iv nw)) 8 (iv kw))), (aA, ar 1206 Aw), (aT, ar 180 Tw), (aW, ar 6 Ww), (aS, ar 30 Sw), (oS, ob 5 fS), (aB, ar 6 B), (aF, ar 6 Fo), (aH, ar 6 Ho), (aL, ar 6 Lt), (oT, ob 5 (uF (uF (uF (uF fT 0 (iv pl)) 1 (iv n)) 2 (iv ec)) 3 (iv mk))), (tB, ar 6 Bv), (tF, ar 6 F2_18), (tH, ar 6 H2_19), (tL, ar 6 L2_20), (wD, ar 6 WD), (wK, ar 6 WK)] := by
                intro N
                induction N with
                | zero =>
                  intro i Bv L48 hi hBv hL48_0 hL48_1 hL48_2 hL48_3 hL48_4 hL48_5 hN48
                  exfalso; omega
                | succ N ih48 =>
                  intro i Bv L48 hi hBv hL48_0 hL48_1 hL48_2 hL48_3 hL48_4 hL48_5 hN48
                  refine S_iload X dX11_odds_48 hL48_5 ?_
                  refine S_aload_n X dX11_odds_50 rfl hL48_0 ?_
                  refine S_get X fgX11_35_10 0 rfl hf0 dX11_odds_51 ?_
                  refine S_get X fgX11_115_7 1 rfl hf4 dX11_odds_54 ?_
                  refine S_icmp_ge (tgt := 98) X dX11_odds_57 (by decide) (by omega) (by omega) (fun c_28 => ?_) (fun c_28 => ?_)
                  ·
                    refine S_aload_n X dX11_odds_98 rfl hL48_0 ?_
                    refine S_get X fgX11_69_10 0 rfl hf2 dX11_odds_99 ?_
                    refine S_aload_n X dX11_odds_102 rfl hL48_0 ?_
                    refine S_get X fgX11_63_10 0 rfl hf3 dX11_odds_103 ?_
                    refine S_ldc (n := 1000000000) X m813 dX11_odds_106 ?_
                    refine S_calli X (kX4_performE l fP (uF (uF (uF (uF fT 0 (iv pl)) 1 (iv n)) 2 (iv ec)) 3 (iv mk)) pl n ec mk oP oT aA aT aW aS tB tF tH tL Aw Tw Ww Sw Bv F2_18 H2_19 L2_20 pw nw kw hf5 hf6 hf7 hf8 rfl rfl rfl rfl hf17 hf18 hf19 hf20 (hok.bt hte (fun x h0 h1 => hBv x h0 (by omega)))) (is := [2, 3, 4, 5, 6, 12, 13, 14, 15, 16]) rfl (run_V X lkX11_235 2 rfl rfl (is := [2, 3, 4, 5, 6, 12, 13, 14, 15, 16]) (avs := [rv oT, iv 1000000000]) (rest := []) rfl rfl (nle rfl) ⟨nle rfl, nle rfl⟩ ⟨nle rfl, nle rfl⟩ dX11_odds_108 (by decide) rfl) (fun z_31 u_29 hp_30 => ?_)
                    obtain ⟨A2_32, T2_33, W2_34, S2_35, hz_36, hu_37, hq_38, hA2_39, hT2_40, hS2_41⟩ := hp_30
                    subst hz_36
                    subst hu_37
                    refine ⟨rfl, ?_⟩
                    refine S_w (ws' := [(h0, ob 10 f), (oW, ob 7 fW), (oP, ob 4 (uF (uF (uF fP 6 (iv pl)) 7 (iv n)) 8 (iv mk))), (aA, ar 1206 A2_32), (aT, ar 180 T2_33), (aW, ar 6 W2_34), (aS, ar 30 S2_35), (oS, ob 5 fS), (aB, ar 6 B), (aF, ar 6 Fo), (aH, ar 6 Ho), (aL, ar 6 Lt), (oT, ob 5 (uF (uF (uF (uF fT 0 (iv pl)) 1 (iv n)) 2 (iv ec)) 3 (iv mk))), (tB, ar 6 Bv), (tF, ar 6 F2_18), (tH, ar 6 H2_19), (tL, ar 6 L2_20), (wD, ar 6 WD), (wK, ar 6 WK)]) rfl ?_
                    have hTL := hT2_40
                    refine S_pop X dX11_odds_111 ?_
                    refine S_aload_n X dX11_odds_112 rfl hL48_0 ?_
                    refine S_get X fgX11_69_10 0 rfl hf2 dX11_odds_113 ?_
                    refine S_aload_n X dX11_odds_116 rfl hL48_0 ?_
                    refine S_get X fgX11_63_10 0 rfl hf3 dX11_odds_117 ?_
                    refine S_get (v := iv n) X fgX11_182_5 12 rfl rfl dX11_odds_120 ?_
                    refine S_iconst X dX11_odds_123 ?_
                    refine S_isub X dX11_odds_124 ?_
                    refine S_calli X (kX4_lastIn l (uF (uF (uF fP 6 (iv pl)) 7 (iv n)) 8 (iv mk)) pl n ec mk oP aT T2_33 Bv F2_18 H2_19 L2_20 (n - 1) hf6 rfl (hok.bt hte (fun x h0 h1 => hBv x h0 (by omega))) hTL (by omega)) (is := [2, 4]) rfl (run_V X lkX11_258 2 rfl rfl (is := [2, 4]) (avs := [iv (n - 1)]) (rest := []) rfl rfl (nle rfl) ⟨nle rfl, nle rfl⟩ ⟨nle rfl, nle rfl⟩ dX11_odds_125 (by decide) rfl) (fun z_44 u_42 hp_43 => ?_)
                    obtain ⟨hz_45, hu_46⟩ := hp_43
                    subst hz_45
                    subst hu_46
                    refine ⟨rfl, ?_⟩
                    refine S_w (ws' := [(h0, ob 10 f), (oW, ob 7 fW), (oP, ob 4 (uF (uF (uF fP 6 (iv pl)) 7 (iv n)) 8 (iv mk))), (aA, ar 1206 A2_32), (aT, ar 180 T2_33), (aW, ar 6 W2_34), (aS, ar 30 S2_35), (oS, ob 5 fS), (aB, ar 6 B), (aF, ar 6 Fo), (aH, ar 6 Ho), (aL, ar 6 Lt), (oT, ob 5 (uF (uF (uF (uF fT 0 (iv pl)) 1 (iv n)) 2 (iv ec)) 3 (iv mk))), (tB, ar 6 Bv), (tF, ar 6 F2_18), (tH, ar 6 H2_19), (tL, ar 6 L2_20), (wD, ar 6 WD), (wK, ar 6 WK)]) rfl ?_
                    have hrb := rw_in k9.toNat (by omega) su
                    have hr3 := p3_in k9.toNat
                    have hal9 := amI_lt (g := tS pl ec mk F2_18 H2_19 Bv L2_20 (n - 1)) (p := pl) (by omega)
                    refine S_iload_n X dX11_odds_128 rfl hL48_1 ?_
                    refine S_icmp_ne (tgt := 141) X dX11_odds_129 (by decide) (by omega) (by omega) (fun c_47 => ?_) (fun c_47 => ?_)
                    ·
                      refine S_iinc X dX11_odds_141 (nle rfl) hL48_4 ?_
                      refine S_goto (tgt := 37) X dX11_odds_144 (by decide) ?_
                      exact ih37 (su + 1) st Bv A2_32 T2_33 W2_34 S2_35 pl n mk _ (by omega) (by omega) hL48_0 hL48_1 hL48_2 hL48_3 rfl (by omega)
                    ·
                      refine S_iload_n X dX11_odds_132 rfl hL48_3 ?_
                      refine S_iload_n X dX11_odds_133 rfl hL48_2 ?_
                      refine S_iload X dX11_odds_134 hL48_4 ?_
                      refine S_calli X ((rws_all l k9.toNat 6 (by omega)) k9 su (by omega) (by omega)) (is := []) rfl (run_S X lkX11_332 (is := []) (avs := [iv k9, iv su]) (rest := [iv st]) rfl rfl (nle rfl) ⟨nle rfl, nle rfl⟩ ⟨nle rfl, nle rfl⟩ dX11_odds_136 (by decide) rfl) (fun z_50 u_48 hp_49 => ?_)
                      obtain ⟨hz_51, hu_52⟩ := hp_49
                      subst hz_51
                      subst hu_52
                      refine ⟨rfl, ?_⟩
                      refine S_w (ws' := [(h0, ob 10 f), (oW, ob 7 fW), (oP, ob 4 (uF (uF (uF fP 6 (iv pl)) 7 (iv n)) 8 (iv mk))), (aA, ar 1206 A2_32), (aT, ar 180 T2_33), (aW, ar 6 W2_34), (aS, ar 30 S2_35), (oS, ob 5 fS), (aB, ar 6 B), (aF, ar 6 Fo), (aH, ar 6 Ho), (aL, ar 6 Lt), (oT, ob 5 (uF (uF (uF (uF fT 0 (iv pl)) 1 (iv n)) 2 (iv ec)) 3 (iv mk))), (tB, ar 6 Bv), (tF, ar 6 F2_18), (tH, ar 6 H2_19), (tL, ar 6 L2_20), (wD, ar 6 WD), (wK, ar 6 WK)]) rfl ?_
                      refine S_iadd X dX11_odds_139 ?_
                      refine S_istore_n X dX11_odds_140 rfl (nle rfl) ?_
                      refine S_iinc X dX11_odds_141 (nle rfl) hL48_4 ?_
                      refine S_goto (tgt := 37) X dX11_odds_144 (by decide) ?_
                      exact ih37 (su + 1) (st + (rwN k9.toNat su)) Bv A2_32 T2_33 W2_34 S2_35 pl n mk _ (by omega) (by omega) hL48_0 hL48_1 hL48_2 rfl rfl (by omega)
                  ·
                    have hB1 := (hok.2.2.2.2.2.2 i (by omega) (by omega)).2.2.1
                    have hdr9 := drF_in (WK i) (WD i) k9 su (B i)
                    refine S_aload_n X dX11_odds_60 rfl hL48_0 ?_
                    refine S_get X fgX11_63_10 0 rfl hf3 dX11_odds_61 ?_
                    refine S_get X fgX11_158_5 12 rfl hf17 dX11_odds_64 ?_
                    refine S_iload X dX11_odds_67 hL48_5 ?_
                    refine S_aload_n X dX11_odds_69 rfl hL48_0 ?_
                    refine S_get X fgX11_35_10 0 rfl hf0 dX11_odds_70 ?_
                    refine S_iload X dX11_odds_73 hL48_5 ?_
                    refine S_aload_n X dX11_odds_75 rfl hL48_0 ?_
                    refine S_get X fgX11_59_10 0 rfl hf1 dX11_odds_76 ?_
                    refine S_get X fgX11_158_5 7 rfl hf13 dX11_odds_79 ?_
                    refine S_iload X dX11_odds_82 hL48_5 ?_
                    refine S_iald X 8 rfl (by omega) (by omega) (nle rfl) dX11_odds_84 ?_
                    refine S_iload_n X dX11_odds_85 rfl hL48_2 ?_
                    refine S_iload X dX11_odds_86 hL48_4 ?_
                    refine S_calli X (kX8_drifted l oW wD wK fW WD WK i (B i) k9 su hf21 hf22 (by omega) (hod.2.2 i (by omega) (by omega)).2 (hod.2.2 i (by omega) (by omega)).1 (by omega) (by omega) (by omega)) (is := [1, 17, 18]) rfl (run_V X lkX11_328 1 rfl rfl (is := [1, 17, 18]) (avs := [iv i, iv (B i), iv k9, iv su]) (rest := [iv i, rv tB]) rfl rfl (nle rfl) ⟨nle rfl, nle rfl⟩ ⟨nle rfl, nle rfl⟩ dX11_odds_88 (by decide) rfl) (fun z_55 u_53 hp_54 => ?_)
                    obtain ⟨hz_56, hu_57⟩ := hp_54
                    subst hz_56
                    subst hu_57
                    refine ⟨rfl, ?_⟩
                    refine S_w (ws' := [(h0, ob 10 f), (oW, ob 7 fW), (oP, ob 4 (uF (uF (uF fP 6 (iv pw)) 7 (iv nw)) 8 (iv kw))), (aA, ar 1206 Aw), (aT, ar 180 Tw), (aW, ar 6 Ww), (aS, ar 30 Sw), (oS, ob 5 fS), (aB, ar 6 B), (aF, ar 6 Fo), (aH, ar 6 Ho), (aL, ar 6 Lt), (oT, ob 5 (uF (uF (uF (uF fT 0 (iv pl)) 1 (iv n)) 2 (iv ec)) 3 (iv mk))), (tB, ar 6 Bv), (tF, ar 6 F2_18), (tH, ar 6 H2_19), (tL, ar 6 L2_20), (wD, ar 6 WD), (wK, ar 6 WK)]) rfl ?_
                    refine S_iast X 13 rfl (by omega) (by omega) (nle rfl) dX11_odds_91 ?_
                    refine S_w (ws' := [(h0, ob 10 f), (oW, ob 7 fW), (oP, ob 4 (uF (uF (uF fP 6 (iv pw)) 7 (iv nw)) 8 (iv kw))), (aA, ar 1206 Aw), (aT, ar 180 Tw), (aW, ar 6 Ww), (aS, ar 30 Sw), (oS, ob 5 fS), (aB, ar 6 B), (aF, ar 6 Fo), (aH, ar 6 Ho), (aL, ar 6 Lt), (oT, ob 5 (uF (uF (uF (uF fT 0 (iv pl)) 1 (iv n)) 2 (iv ec)) 3 (iv mk))), (tB, ar 6 (uZ Bv i (drF (WK i) (WD i) k9 su (B i)))), (tF, ar 6 F2_18), (tH, ar 6 H2_19), (tL, ar 6 L2_20), (wD, ar 6 WD), (wK, ar 6 WK)]) rfl ?_
                    refine S_iinc X dX11_odds_92 (nle rfl) hL48_5 ?_
                    refine S_goto (tgt := 48) X dX11_odds_95 (by decide) ?_
                    exact ih48 (i + 1) (uZ Bv i (drF (WK i) (WD i) k9 su (B i))) _ (by omega) (fun x h0 h1 => by unfold uZ; split; exact hdr9; exact hBv x h0 (by omega)) hL48_0 hL48_1 hL48_2 hL48_3 hL48_4 rfl (by omega)
              exact lp48_6 (Int.toNat (pl + 1 - 0) + 1) 0 Bz _ (by omega) (fun x h0 h1 => by omega) hL37_0 hL37_1 hL37_2 hL37_3 hL37_4 rfl (by omega)
        exact lp37_3 (Int.toNat (14 - 0) + 1) 0 0 B2_17 Ab Tm Wq Sp p0 n0 k0 _ (by omega) (by omega) rfl rfl rfl rfl rfl (by omega)
      ·
        refine S_iconst X dX11_odds_19 ?_
        exact S_iret X (nle rfl) (nle rfl) dX11_odds_20 (hPo _ _ (⟨_, _, _, _, _, _, _, _, _, _, _, _, _, _, _, _, rfl, rfl⟩))
set_option maxHeartbeats 4000000 in
set_option maxRecDepth 100000 in
theorem kX10_slot (l : Launch) (q : Int) (da : Int) (hq : 0 ≤ q ∧ q ≤ 5) (hd : -1 ≤ da ∧ da ≤ 5) : AMi l yX10_slot cX10_slot 2 .int 0 0 0 [iv q, iv da] [] (fun z u => z = q * 7 + da + 1 ∧ u = []) := by
  refine AMi.of2 rfl (nle rfl) ?_
  intro D G A p e s m args below meth c Po hPo X
  refine S_iload_n X dX10_slot_0 rfl rfl ?_
  refine S_bipush X dX10_slot_1 rfl ?_
  refine S_imul X dX10_slot_3 ?_
  refine S_iload_n X dX10_slot_4 rfl rfl ?_
  refine S_iadd X dX10_slot_5 ?_
  refine S_iconst X dX10_slot_6 ?_
  refine S_iadd X dX10_slot_7 ?_
  exact S_iret X (nle rfl) (nle rfl) dX10_slot_8 (hPo _ _ (⟨by first | rfl | omega, rfl⟩))
set_option maxHeartbeats 4000000 in
set_option maxRecDepth 100000 in
theorem kX10_foresee (l : Launch) (oK : Nat) (fK : Nat → AV) (kW : Nat) (kB : Nat) (Kw : Int → Int) (Bh : Int → Int) (oW : Nat) (wD : Nat) (wK : Nat) (fW : Nat → AV) (WD : Int → Int) (WK : Int → Int) (pl : Int) (mt : Int) (fS : Nat → AV) (pl : Int) (n : Int) (ec : Int) (oS : Nat) (aB : Nat) (B : Int → Int) (Fo : Int → Int) (Ho : Int → Int) (Lt : Int → Int) (hf0 : fK 5 = rv kW) (hf1 : fK 6 = rv kB) (hf2 : fW 3 = rv wD) (hf3 : fW 4 = rv wK) (hf4 : fW 0 = iv pl) (hf5 : fW 1 = iv mt) (hf6 : fS 4 = rv aB) (hok : okS pl n ec Fo Ho B Lt) (hod : okDy pl mt WK WD) (hkw : ∀ x, 0 ≤ x → x < 6 → 0 ≤ Kw x ∧ Kw x ≤ 9) : AMv l yX10_foresee cX10_foresee 7 2 0 0 [rv oK, rv oW, rv oS] [(oK, ob 9 fK), (kW, ar 6 Kw), (kB, ar 42 Bh), (oW, ob 7 fW), (wD, ar 6 WD), (wK, ar 6 WK), (oS, ob 5 fS), (aB, ar 6 B)] (fun u => ∃ B2 : Int → Int, u = [(oK, ob 9 fK), (kW, ar 6 Kw), (kB, ar 42 B2), (oW, ob 7 fW), (wD, ar 6 WD), (wK, ar 6 WK), (oS, ob 5 fS), (aB, ar 6 B)] ∧ (∀ x d, 0 ≤ x → x < pl → -1 ≤ d → d ≤ 5 → 1 ≤ B2 (x * 7 + d + 1) ∧ B2 (x * 7 + d + 1) ≤ 199)) := by
  refine AMv.of2 rfl (nle rfl) ?_
  intro D G A p e s m args below meth c Po hPo hnm X
  have hpl := hok.2.1
  have hpl1 := hok.1
  have hn1 := hok.2.2.1
  have hn2 := hok.2.2.2.1
  have hec := hok.2.2.2.2
  have hod1 := hod.1
  have hod2 := hod.2.1
  refine S_iconst X dX10_foresee_0 ?_
  refine S_istore_n X dX10_foresee_1 rfl (nle rfl) ?_
  refine S_iconst X dX10_foresee_2 ?_
  refine S_istore X dX10_foresee_3 (nle rfl) ?_
  have lp5_0 : ∀ (N : Nat) (da : Int) (su : Int) (Bw : Int → Int) (L : Nat → Option AV), -2 ≤ da ∧ da ≤ 5 → 0 ≤ su ∧ su ≤ 9 * (5 - da) ∧ su ≤ 54 → (∀ x d, 0 ≤ x → x < pl → da < d → d ≤ 5 → 1 ≤ Bw (x * 7 + d + 1) ∧ Bw (x * 7 + d + 1) ≤ 199) → L 0 = some (rv oK) → L 1 = some (rv oW) → L 2 = some (rv oS) → L 3 = some (iv su) → L 4 = some (iv da) → da + 3 < (N : Int) → S_ p l e (rmD 2 0 0) s m args below meth c (MQ below (QcV D G A Po) args s 0 0 A) D G A 7 0 0 5 L [] [(oK, ob 9 fK), (kW, ar 6 Kw), (kB, ar 42 Bw), (oW, ob 7 fW), (wD, ar 6 WD), (wK, ar 6 WK), (oS, ob 5 fS), (aB, ar 6 B)] := by
    intro N
    induction N with
    | zero =>
      intro da su Bw L5 hda hsu hBw hL5_0 hL5_1 hL5_2 hL5_3 hL5_4 hN5
      exfalso; omega
    | succ N ih5 =>
      intro da su Bw L5 hda hsu hBw hL5_0 hL5_1 hL5_2 hL5_3 hL5_4 hN5
      refine S_iload X dX10_foresee_5 hL5_4 ?_
      refine S_iconst X dX10_foresee_7 ?_
      refine S_icmp_lt (tgt := 102) X dX10_foresee_8 (by decide) (by omega) (by decide) (fun c_1 => ?_) (fun c_1 => ?_)
      ·
        exact S_vret X (nle rfl) (nle rfl) dX10_foresee_102 (hPo _ (⟨_, rfl, fun x d h0 h1 h2 h3 => hBw x d h0 h1 (by omega) h3⟩))
      ·
        refine S_iconst X dX10_foresee_11 ?_
        refine S_istore X dX10_foresee_12 (nle rfl) ?_
        have lp14_3 : ∀ (N : Nat) (i : Int) (Bv : Int → Int) (L : Nat → Option AV), 0 ≤ i ∧ i ≤ pl → (∀ x d, 0 ≤ x → x < pl → da < d → d ≤ 5 → 1 ≤ Bv (x * 7 + d + 1) ∧ Bv (x * 7 + d + 1) ≤ 199) → (∀ x, 0 ≤ x → x < i → 1 ≤ Bv (x * 7 + da + 1) ∧ Bv (x * 7 + da + 1) ≤ 199) → L 0 = some (rv oK) → L 1 = some (rv oW) → L 2 = some (rv oS) → L 3 = some (iv su) → L 4 = some (iv da) → L 5 = some (iv i) → pl + 1 - i < (N : Int) → S_ p l e (rmD 2 0 0) s m args below meth c (MQ below (QcV D G A Po) args s 0 0 A) D G A 7 0 0 14 L [] [(oK, ob 9 fK), (kW, ar 6 Kw), (kB, ar 42 Bv), (oW, ob 7 fW), (wD, ar 6 WD), (wK, ar 6 WK), (oS, ob 5 fS), (aB, ar 6 B)] := by
          intro N
          induction N with
          | zero =>
            intro i Bv L14 hi hBv hBu hL14_0 hL14_1 hL14_2 hL14_3 hL14_4 hL14_5 hN14
            exfalso; omega
          | succ N ih14 =>
            intro i Bv L14 hi hBv hBu hL14_0 hL14_1 hL14_2 hL14_3 hL14_4 hL14_5 hN14
            refine S_iload X dX10_foresee_14 hL14_5 ?_
            refine S_aload_n X dX10_foresee_16 rfl hL14_1 ?_
            refine S_get X fgX10_62_7 3 rfl hf4 dX10_foresee_17 ?_
            refine S_icmp_ge (tgt := 76) X dX10_foresee_20 (by decide) (by omega) (by omega) (fun c_2 => ?_) (fun c_2 => ?_)
            ·
              refine S_iload_n X dX10_foresee_76 rfl hL14_3 ?_
              refine S_iload X dX10_foresee_77 hL14_4 ?_
              refine S_iconst X dX10_foresee_79 ?_
              refine S_icmp_ne (tgt := 87) X dX10_foresee_80 (by decide) (by omega) (by decide) (fun c_3 => ?_) (fun c_3 => ?_)
              ·
                have hw9 := hkw da (by omega) (by omega)
                refine S_aload_n X dX10_foresee_87 rfl hL14_0 ?_
                refine S_get X fgX10_9_9 0 rfl hf0 dX10_foresee_88 ?_
                refine S_iload X dX10_foresee_91 hL14_4 ?_
                refine S_iald X 1 rfl (by omega) (by omega) (nle rfl) dX10_foresee_93 ?_
                refine S_iadd X dX10_foresee_94 ?_
                refine S_istore_n X dX10_foresee_95 rfl (nle rfl) ?_
                refine S_iinc X dX10_foresee_96 (nle rfl) hL14_4 ?_
                refine S_goto (tgt := 5) X dX10_foresee_99 (by decide) ?_
                exact ih5 (da + (-1)) (su + (Kw da)) Bv _ (by omega) (by omega) (fun x d h0 h1 h2 h3 => (by omega : da < d ∨ d = da).elim (fun q9 => hBv x d h0 h1 q9 h3) (fun q9 => by rw [q9]; exact hBu x h0 (by omega))) hL14_0 hL14_1 hL14_2 rfl rfl (by omega)
              ·
                refine S_iconst X dX10_foresee_83 ?_
                refine S_goto (tgt := 94) X dX10_foresee_84 (by decide) ?_
                refine S_iadd X dX10_foresee_94 ?_
                refine S_istore_n X dX10_foresee_95 rfl (nle rfl) ?_
                refine S_iinc X dX10_foresee_96 (nle rfl) hL14_4 ?_
                refine S_goto (tgt := 5) X dX10_foresee_99 (by decide) ?_
                exact ih5 (da + (-1)) (su + 0) Bv _ (by omega) (by omega) (fun x d h0 h1 h2 h3 => (by omega : da < d ∨ d = da).elim (fun q9 => hBv x d h0 h1 q9 h3) (fun q9 => by rw [q9]; exact hBu x h0 (by omega))) hL14_0 hL14_1 hL14_2 rfl rfl (by omega)
            ·
              have hB1 := (hok.2.2.2.2.2.2 i (by omega) (by omega)).2.2.1
              refine S_iload X dX10_foresee_23 hL14_4 ?_
              refine S_iconst X dX10_foresee_25 ?_
              refine S_icmp_ne (tgt := 39) X dX10_foresee_26 (by decide) (by omega) (by decide) (fun c_4 => ?_) (fun c_4 => ?_)
              ·
                refine S_aload_n X dX10_foresee_39 rfl hL14_1 ?_
                refine S_get X fgX10_65_7 3 rfl hf5 dX10_foresee_40 ?_
                refine S_istore X dX10_foresee_43 (nle rfl) ?_
                refine S_aload_n X dX10_foresee_45 rfl hL14_0 ?_
                refine S_get X fgX10_15_9 0 rfl hf1 dX10_foresee_46 ?_
                refine S_iload X dX10_foresee_49 hL14_5 ?_
                refine S_iload X dX10_foresee_51 hL14_4 ?_
                refine S_calli X (kX10_slot l i da (by omega) (by omega)) (is := []) rfl (run_S X lkX10_43 (is := []) (avs := [iv i, iv da]) (rest := [rv kB]) rfl rfl (nle rfl) ⟨nle rfl, nle rfl⟩ ⟨nle rfl, nle rfl⟩ dX10_foresee_53 (by decide) rfl) (fun z_7 u_5 hp_6 => ?_)
                obtain ⟨hz_8, hu_9⟩ := hp_6
                subst hz_8
                subst hu_9
                refine ⟨rfl, ?_⟩
                refine S_w (ws' := [(oK, ob 9 fK), (kW, ar 6 Kw), (kB, ar 42 Bv), (oW, ob 7 fW), (wD, ar 6 WD), (wK, ar 6 WK), (oS, ob 5 fS), (aB, ar 6 B)]) rfl ?_
                refine S_aload_n X dX10_foresee_56 rfl hL14_1 ?_
                refine S_iload X dX10_foresee_57 hL14_5 ?_
                refine S_iload X dX10_foresee_59 rfl ?_
                refine S_iconst X dX10_foresee_61 ?_
                refine S_iload X dX10_foresee_62 hL14_4 ?_
                refine S_isub X dX10_foresee_64 ?_
                refine S_iload_n X dX10_foresee_65 rfl hL14_3 ?_
                have hdr9 := drF_in (WK i) (WD i) (5 - da) su mt
                refine S_calli X (kX8_drifted l oW wD wK fW WD WK i mt (5 - da) su hf2 hf3 (by omega) (hod.2.2 i (by omega) (by omega)).2 (hod.2.2 i (by omega) (by omega)).1 (by omega) (by omega) (by omega)) (is := [3, 4, 5]) rfl (run_V X lkX10_68 3 rfl rfl (is := [3, 4, 5]) (avs := [iv i, iv mt, iv (5 - da), iv su]) (rest := [iv (i * 7 + da + 1), rv kB]) rfl rfl (nle rfl) ⟨nle rfl, nle rfl⟩ ⟨nle rfl, nle rfl⟩ dX10_foresee_66 (by decide) rfl) (fun z_12 u_10 hp_11 => ?_)
                obtain ⟨hz_13, hu_14⟩ := hp_11
                subst hz_13
                subst hu_14
                refine ⟨rfl, ?_⟩
                refine S_w (ws' := [(oK, ob 9 fK), (kW, ar 6 Kw), (kB, ar 42 Bv), (oW, ob 7 fW), (wD, ar 6 WD), (wK, ar 6 WK), (oS, ob 5 fS), (aB, ar 6 B)]) rfl ?_
                refine S_iast X 2 rfl (by omega) (by omega) (nle rfl) dX10_foresee_69 ?_
                refine S_w (ws' := [(oK, ob 9 fK), (kW, ar 6 Kw), (kB, ar 42 (uZ Bv (i * 7 + da + 1) (drF (WK i) (WD i) (5 - da) su mt))), (oW, ob 7 fW), (wD, ar 6 WD), (wK, ar 6 WK), (oS, ob 5 fS), (aB, ar 6 B)]) rfl ?_
                refine S_iinc X dX10_foresee_70 (nle rfl) hL14_5 ?_
                refine S_goto (tgt := 14) X dX10_foresee_73 (by decide) ?_
                exact ih14 (i + 1) (uZ Bv (i * 7 + da + 1) (drF (WK i) (WD i) (5 - da) su mt)) _ (by omega) (fun x d h0 h1 h2 h3 => by unfold uZ; split; exact hdr9; exact hBv x d h0 h1 h2 h3) (fun x h0 h1 => by unfold uZ; split; exact hdr9; exact hBu x h0 (by omega)) hL14_0 hL14_1 hL14_2 hL14_3 hL14_4 rfl (by omega)
              ·
                refine S_aload_n X dX10_foresee_29 rfl hL14_2 ?_
                refine S_get X fgX10_40_5 6 rfl hf6 dX10_foresee_30 ?_
                refine S_iload X dX10_foresee_33 hL14_5 ?_
                refine S_iald X 7 rfl (by omega) (by omega) (nle rfl) dX10_foresee_35 ?_
                refine S_goto (tgt := 43) X dX10_foresee_36 (by decide) ?_
                refine S_istore X dX10_foresee_43 (nle rfl) ?_
                refine S_aload_n X dX10_foresee_45 rfl hL14_0 ?_
                refine S_get X fgX10_15_9 0 rfl hf1 dX10_foresee_46 ?_
                refine S_iload X dX10_foresee_49 hL14_5 ?_
                refine S_iload X dX10_foresee_51 hL14_4 ?_
                refine S_calli X (kX10_slot l i da (by omega) (by omega)) (is := []) rfl (run_S X lkX10_43 (is := []) (avs := [iv i, iv da]) (rest := [rv kB]) rfl rfl (nle rfl) ⟨nle rfl, nle rfl⟩ ⟨nle rfl, nle rfl⟩ dX10_foresee_53 (by decide) rfl) (fun z_17 u_15 hp_16 => ?_)
                obtain ⟨hz_18, hu_19⟩ := hp_16
                subst hz_18
                subst hu_19
                refine ⟨rfl, ?_⟩
                refine S_w (ws' := [(oK, ob 9 fK), (kW, ar 6 Kw), (kB, ar 42 Bv), (oW, ob 7 fW), (wD, ar 6 WD), (wK, ar 6 WK), (oS, ob 5 fS), (aB, ar 6 B)]) rfl ?_
                refine S_aload_n X dX10_foresee_56 rfl hL14_1 ?_
                refine S_iload X dX10_foresee_57 hL14_5 ?_
                refine S_iload X dX10_foresee_59 rfl ?_
                refine S_iconst X dX10_foresee_61 ?_
                refine S_iload X dX10_foresee_62 hL14_4 ?_
                refine S_isub X dX10_foresee_64 ?_
                refine S_iload_n X dX10_foresee_65 rfl hL14_3 ?_
                have hdr9 := drF_in (WK i) (WD i) (5 - da) su (B i)
                refine S_calli X (kX8_drifted l oW wD wK fW WD WK i (B i) (5 - da) su hf2 hf3 (by omega) (hod.2.2 i (by omega) (by omega)).2 (hod.2.2 i (by omega) (by omega)).1 (by omega) (by omega) (by omega)) (is := [3, 4, 5]) rfl (run_V X lkX10_68 3 rfl rfl (is := [3, 4, 5]) (avs := [iv i, iv (B i), iv (5 - da), iv su]) (rest := [iv (i * 7 + da + 1), rv kB]) rfl rfl (nle rfl) ⟨nle rfl, nle rfl⟩ ⟨nle rfl, nle rfl⟩ dX10_foresee_66 (by decide) rfl) (fun z_22 u_20 hp_21 => ?_)
                obtain ⟨hz_23, hu_24⟩ := hp_21
                subst hz_23
                subst hu_24
                refine ⟨rfl, ?_⟩
                refine S_w (ws' := [(oK, ob 9 fK), (kW, ar 6 Kw), (kB, ar 42 Bv), (oW, ob 7 fW), (wD, ar 6 WD), (wK, ar 6 WK), (oS, ob 5 fS), (aB, ar 6 B)]) rfl ?_
                refine S_iast X 2 rfl (by omega) (by omega) (nle rfl) dX10_foresee_69 ?_
                refine S_w (ws' := [(oK, ob 9 fK), (kW, ar 6 Kw), (kB, ar 42 (uZ Bv (i * 7 + da + 1) (drF (WK i) (WD i) (5 - da) su (B i)))), (oW, ob 7 fW), (wD, ar 6 WD), (wK, ar 6 WK), (oS, ob 5 fS), (aB, ar 6 B)]) rfl ?_
                refine S_iinc X dX10_foresee_70 (nle rfl) hL14_5 ?_
                refine S_goto (tgt := 14) X dX10_foresee_73 (by decide) ?_
                exact ih14 (i + 1) (uZ Bv (i * 7 + da + 1) (drF (WK i) (WD i) (5 - da) su (B i))) _ (by omega) (fun x d h0 h1 h2 h3 => by unfold uZ; split; exact hdr9; exact hBv x d h0 h1 h2 h3) (fun x h0 h1 => by unfold uZ; split; exact hdr9; exact hBu x h0 (by omega)) hL14_0 hL14_1 hL14_2 hL14_3 hL14_4 rfl (by omega)
        exact lp14_3 (Int.toNat (pl + 1 - 0) + 1) 0 Bw _ (by omega) (hBw) (fun x h0 h1 => by omega) hL5_0 hL5_1 hL5_2 hL5_3 hL5_4 rfl (by omega)
  exact lp5_0 (Int.toNat (5 + 3) + 1) 5 0 Bh _ (by omega) (by omega) (fun x d h0 h1 h2 h3 => by omega) rfl rfl rfl rfl rfl (by omega)
set_option maxHeartbeats 4000000 in
set_option maxRecDepth 100000 in
theorem kX10_weigh (l : Launch) (oK : Nat) (fK : Nat → AV) (ro : Int) (le : Int) (fP : Nat → AV) (fS : Nat → AV) (pl : Int) (n : Int) (ec : Int) (mk : Int) (oP : Nat) (oS : Nat) (aA : Nat) (aT : Nat) (aW : Nat) (aS : Nat) (aB : Nat) (aF : Nat) (aH : Nat) (aL : Nat) (Ab : Int → Int) (Tm : Int → Int) (Wq : Int → Int) (Sp : Int → Int) (B : Int → Int) (Fo : Int → Int) (Ho : Int → Int) (Lt : Int → Int) (p0 : Int) (n0 : Int) (k0 : Int) (re : Int) (hf0 : fK 3 = rv oP) (hf1 : fK 4 = rv oS) (hf2 : fP 0 = rv aA) (hf3 : fP 1 = rv aT) (hf4 : fP 2 = rv aW) (hf5 : fP 3 = rv aS) (hf6 : fS 0 = iv pl) (hf7 : fS 1 = iv n) (hf8 : fS 2 = iv ec) (hf9 : fS 3 = iv mk) (hf10 : fS 4 = rv aB) (hf11 : fS 5 = rv aF) (hf12 : fS 6 = rv aH) (hf13 : fS 7 = rv aL) (hok : okS pl n ec Fo Ho B Lt) (hre : 0 ≤ re ∧ re ≤ 999999) (hro : 0 ≤ ro ∧ ro ≤ 1000000000) (hle : 0 ≤ le ∧ le ≤ 1000000000) : AMv l yX10_weigh cX10_weigh 4 3 0 0 [rv oK, iv re] [(oK, ob 9 (uF (uF fK 1 (iv ro)) 2 (iv le))), (oP, ob 4 (uF (uF (uF fP 6 (iv p0)) 7 (iv n0)) 8 (iv k0))), (aA, ar 1206 Ab), (aT, ar 180 Tm), (aW, ar 6 Wq), (aS, ar 30 Sp), (oS, ob 5 fS), (aB, ar 6 B), (aF, ar 6 Fo), (aH, ar 6 Ho), (aL, ar 6 Lt)] (fun u => ∃ r2 : Int, ∃ l2 : Int, ∃ p9 : Int, ∃ n9 : Int, ∃ k9 : Int, ∃ A2 : Int → Int, ∃ T2 : Int → Int, ∃ W2 : Int → Int, ∃ S2 : Int → Int, u = [(oK, ob 9 (uF (uF fK 1 (iv r2)) 2 (iv l2))), (oP, ob 4 (uF (uF (uF fP 6 (iv p9)) 7 (iv n9)) 8 (iv k9))), (aA, ar 1206 A2), (aT, ar 180 T2), (aW, ar 6 W2), (aS, ar 30 S2), (oS, ob 5 fS), (aB, ar 6 B), (aF, ar 6 Fo), (aH, ar 6 Ho), (aL, ar 6 Lt)] ∧ (0 ≤ r2 ∧ r2 ≤ 1000000000) ∧ (0 ≤ l2 ∧ l2 ≤ 1000000000)) := by
  refine AMv.of2 rfl (nle rfl) ?_
  intro D G A p e s m args below meth c Po hPo hnm X
  have hwr := hok.worst (mk := mk)
  refine S_iload_n X dX10_weigh_0 rfl rfl ?_
  refine S_aload_n X dX10_weigh_1 rfl rfl ?_
  refine S_get (v := iv ro) X fgX10_48_9 0 rfl rfl dX10_weigh_2 ?_
  refine S_icmp_ge (tgt := 17) X dX10_weigh_5 (by decide) (by omega) (by omega) (fun c_1 => ?_) (fun c_1 => ?_)
  ·
    refine S_aload_n X dX10_weigh_17 rfl rfl ?_
    refine S_get (v := iv le) X fgX10_51_9 0 rfl rfl dX10_weigh_18 ?_
    refine S_istore_n X dX10_weigh_21 rfl (nle rfl) ?_
    refine S_iload_n X dX10_weigh_22 rfl rfl ?_
    refine S_if_le (tgt := 41) X dX10_weigh_23 (by decide) (by omega) (fun c_2 => ?_) (fun c_2 => ?_)
    ·
      refine S_iload_n X dX10_weigh_41 rfl rfl ?_
      refine S_istore_n X dX10_weigh_42 rfl (nle rfl) ?_
      refine S_iload_n X dX10_weigh_43 rfl rfl ?_
      refine S_iload_n X dX10_weigh_44 rfl rfl ?_
      refine S_icmp_ge (tgt := 58) X dX10_weigh_45 (by decide) (by omega) (by omega) (fun c_3 => ?_) (fun c_3 => ?_)
      ·
        exact S_vret X (nle rfl) (nle rfl) dX10_weigh_58 (hPo _ (⟨_, _, _, _, _, _, _, _, _, rfl, by omega, by omega⟩))
      ·
        refine S_aload_n X dX10_weigh_48 rfl rfl ?_
        refine S_iload_n X dX10_weigh_49 rfl rfl ?_
        refine S_put X fpX10_51_9 0 rfl FT_i dX10_weigh_50 ?_
        refine S_w (ws' := [(oK, ob 9 (uF (uF fK 1 (iv ro)) 2 (iv le))), (oP, ob 4 (uF (uF (uF fP 6 (iv p0)) 7 (iv n0)) 8 (iv k0))), (aA, ar 1206 Ab), (aT, ar 180 Tm), (aW, ar 6 Wq), (aS, ar 30 Sp), (oS, ob 5 fS), (aB, ar 6 B), (aF, ar 6 Fo), (aH, ar 6 Ho), (aL, ar 6 Lt)]) (by simp only [List.set]; rw [uF_same (k := 2)]) ?_
        refine S_aload_n X dX10_weigh_53 rfl rfl ?_
        refine S_iload_n X dX10_weigh_54 rfl rfl ?_
        refine S_put X fpX10_48_9 0 rfl FT_i dX10_weigh_55 ?_
        refine S_w (ws' := [(oK, ob 9 (uF (uF fK 1 (iv re)) 2 (iv le))), (oP, ob 4 (uF (uF (uF fP 6 (iv p0)) 7 (iv n0)) 8 (iv k0))), (aA, ar 1206 Ab), (aT, ar 180 Tm), (aW, ar 6 Wq), (aS, ar 30 Sp), (oS, ob 5 fS), (aB, ar 6 B), (aF, ar 6 Fo), (aH, ar 6 Ho), (aL, ar 6 Lt)]) (by simp only [List.set]; rw [uF_mv (j := 2) (k := 1) (by decide), uF_same (k := 1)]) ?_
        exact S_vret X (nle rfl) (nle rfl) dX10_weigh_58 (hPo _ (⟨_, _, _, _, _, _, _, _, _, rfl, by omega, by omega⟩))
    ·
      refine S_aload_n X dX10_weigh_26 rfl rfl ?_
      refine S_get X fgX10_18_9 0 rfl hf0 dX10_weigh_27 ?_
      refine S_aload_n X dX10_weigh_30 rfl rfl ?_
      refine S_get X fgX10_22_9 0 rfl hf1 dX10_weigh_31 ?_
      refine S_iload_n X dX10_weigh_34 rfl rfl ?_
      refine S_calli X (kX4_perform l fP fS pl n ec mk oP oS aA aT aW aS aB aF aH aL Ab Tm Wq Sp B Fo Ho Lt p0 n0 k0 le hf2 hf3 hf4 hf5 hf6 hf7 hf8 hf9 hf10 hf11 hf12 hf13 hok (by omega)) (is := [1, 2, 3, 4, 5, 6, 7, 8, 9, 10]) rfl (run_V X lkX10_76 1 rfl rfl (is := [1, 2, 3, 4, 5, 6, 7, 8, 9, 10]) (avs := [rv oS, iv le]) (rest := []) rfl rfl (nle rfl) ⟨nle rfl, nle rfl⟩ ⟨nle rfl, nle rfl⟩ dX10_weigh_35 (by decide) rfl) (fun z_6 u_4 hp_5 => ?_)
      rcases hp_5 with ⟨A2_7, T2_8, W2_9, S2_10, hz_11, hu_12, hq_13⟩ | ⟨A2_14, T2_15, W2_16, S2_17, hz_18, hu_19, hq_20, hA2_21, hT2_22, hS2_23⟩
      ·
        replace hz_11 := Eq.symm hz_11
        subst hz_11
        subst hu_12
        refine ⟨rfl, ?_⟩
        refine S_w (ws' := [(oK, ob 9 (uF (uF fK 1 (iv ro)) 2 (iv le))), (oP, ob 4 (uF (uF (uF fP 6 (iv pl)) 7 (iv n)) 8 (iv mk))), (aA, ar 1206 A2_7), (aT, ar 180 T2_8), (aW, ar 6 W2_9), (aS, ar 30 S2_10), (oS, ob 5 fS), (aB, ar 6 B), (aF, ar 6 Fo), (aH, ar 6 Ho), (aL, ar 6 Lt)]) rfl ?_
        refine S_goto (tgt := 42) X dX10_weigh_38 (by decide) ?_
        refine S_istore_n X dX10_weigh_42 rfl (nle rfl) ?_
        refine S_iload_n X dX10_weigh_43 rfl rfl ?_
        refine S_iload_n X dX10_weigh_44 rfl rfl ?_
        refine S_icmp_ge (tgt := 58) X dX10_weigh_45 (by decide) (by omega) (by omega) (fun c_24 => ?_) (fun c_24 => ?_)
        ·
          exact S_vret X (nle rfl) (nle rfl) dX10_weigh_58 (hPo _ (⟨_, _, _, _, _, _, _, _, _, rfl, by omega, by omega⟩))
        ·
          refine S_aload_n X dX10_weigh_48 rfl rfl ?_
          refine S_iload_n X dX10_weigh_49 rfl rfl ?_
          refine S_put X fpX10_51_9 0 rfl FT_i dX10_weigh_50 ?_
          refine S_w (ws' := [(oK, ob 9 (uF (uF fK 1 (iv ro)) 2 (iv le))), (oP, ob 4 (uF (uF (uF fP 6 (iv pl)) 7 (iv n)) 8 (iv mk))), (aA, ar 1206 A2_7), (aT, ar 180 T2_8), (aW, ar 6 W2_9), (aS, ar 30 S2_10), (oS, ob 5 fS), (aB, ar 6 B), (aF, ar 6 Fo), (aH, ar 6 Ho), (aL, ar 6 Lt)]) (by simp only [List.set]; rw [uF_same (k := 2)]) ?_
          refine S_aload_n X dX10_weigh_53 rfl rfl ?_
          refine S_iload_n X dX10_weigh_54 rfl rfl ?_
          refine S_put X fpX10_48_9 0 rfl FT_i dX10_weigh_55 ?_
          refine S_w (ws' := [(oK, ob 9 (uF (uF fK 1 (iv re)) 2 (iv le))), (oP, ob 4 (uF (uF (uF fP 6 (iv pl)) 7 (iv n)) 8 (iv mk))), (aA, ar 1206 A2_7), (aT, ar 180 T2_8), (aW, ar 6 W2_9), (aS, ar 30 S2_10), (oS, ob 5 fS), (aB, ar 6 B), (aF, ar 6 Fo), (aH, ar 6 Ho), (aL, ar 6 Lt)]) (by simp only [List.set]; rw [uF_mv (j := 2) (k := 1) (by decide), uF_same (k := 1)]) ?_
          exact S_vret X (nle rfl) (nle rfl) dX10_weigh_58 (hPo _ (⟨_, _, _, _, _, _, _, _, _, rfl, by omega, by omega⟩))
      ·
        subst hz_18
        subst hu_19
        refine ⟨rfl, ?_⟩
        refine S_w (ws' := [(oK, ob 9 (uF (uF fK 1 (iv ro)) 2 (iv le))), (oP, ob 4 (uF (uF (uF fP 6 (iv pl)) 7 (iv n)) 8 (iv mk))), (aA, ar 1206 A2_14), (aT, ar 180 T2_15), (aW, ar 6 W2_16), (aS, ar 30 S2_17), (oS, ob 5 fS), (aB, ar 6 B), (aF, ar 6 Fo), (aH, ar 6 Ho), (aL, ar 6 Lt)]) rfl ?_
        refine S_goto (tgt := 42) X dX10_weigh_38 (by decide) ?_
        refine S_istore_n X dX10_weigh_42 rfl (nle rfl) ?_
        refine S_iload_n X dX10_weigh_43 rfl rfl ?_
        refine S_iload_n X dX10_weigh_44 rfl rfl ?_
        refine S_icmp_ge (tgt := 58) X dX10_weigh_45 (by decide) (by omega) (by omega) (fun c_25 => ?_) (fun c_25 => ?_)
        ·
          exact S_vret X (nle rfl) (nle rfl) dX10_weigh_58 (hPo _ (⟨_, _, _, _, _, _, _, _, _, rfl, by omega, by omega⟩))
        ·
          refine S_aload_n X dX10_weigh_48 rfl rfl ?_
          refine S_iload_n X dX10_weigh_49 rfl rfl ?_
          refine S_put X fpX10_51_9 0 rfl FT_i dX10_weigh_50 ?_
          refine S_w (ws' := [(oK, ob 9 (uF (uF fK 1 (iv ro)) 2 (iv (WO pl n ec mk Fo Ho B Lt)))), (oP, ob 4 (uF (uF (uF fP 6 (iv pl)) 7 (iv n)) 8 (iv mk))), (aA, ar 1206 A2_14), (aT, ar 180 T2_15), (aW, ar 6 W2_16), (aS, ar 30 S2_17), (oS, ob 5 fS), (aB, ar 6 B), (aF, ar 6 Fo), (aH, ar 6 Ho), (aL, ar 6 Lt)]) (by simp only [List.set]; rw [uF_same (k := 2)]) ?_
          refine S_aload_n X dX10_weigh_53 rfl rfl ?_
          refine S_iload_n X dX10_weigh_54 rfl rfl ?_
          refine S_put X fpX10_48_9 0 rfl FT_i dX10_weigh_55 ?_
          refine S_w (ws' := [(oK, ob 9 (uF (uF fK 1 (iv re)) 2 (iv (WO pl n ec mk Fo Ho B Lt)))), (oP, ob 4 (uF (uF (uF fP 6 (iv pl)) 7 (iv n)) 8 (iv mk))), (aA, ar 1206 A2_14), (aT, ar 180 T2_15), (aW, ar 6 W2_16), (aS, ar 30 S2_17), (oS, ob 5 fS), (aB, ar 6 B), (aF, ar 6 Fo), (aH, ar 6 Ho), (aL, ar 6 Lt)]) (by simp only [List.set]; rw [uF_mv (j := 2) (k := 1) (by decide), uF_same (k := 1)]) ?_
          exact S_vret X (nle rfl) (nle rfl) dX10_weigh_58 (hPo _ (⟨_, _, _, _, _, _, _, _, _, rfl, by omega, by omega⟩))
  ·
    refine S_aload_n X dX10_weigh_8 rfl rfl ?_
    refine S_get (v := iv le) X fgX10_51_9 0 rfl rfl dX10_weigh_9 ?_
    refine S_iconst X dX10_weigh_12 ?_
    refine S_iadd X dX10_weigh_13 ?_
    refine S_goto (tgt := 21) X dX10_weigh_14 (by decide) ?_
    refine S_istore_n X dX10_weigh_21 rfl (nle rfl) ?_
    refine S_iload_n X dX10_weigh_22 rfl rfl ?_
    refine S_if_le (tgt := 41) X dX10_weigh_23 (by decide) (by omega) (fun c_26 => ?_) (fun c_26 => ?_)
    ·
      refine S_iload_n X dX10_weigh_41 rfl rfl ?_
      refine S_istore_n X dX10_weigh_42 rfl (nle rfl) ?_
      refine S_iload_n X dX10_weigh_43 rfl rfl ?_
      refine S_iload_n X dX10_weigh_44 rfl rfl ?_
      refine S_icmp_ge (tgt := 58) X dX10_weigh_45 (by decide) (by omega) (by omega) (fun c_27 => ?_) (fun c_27 => ?_)
      ·
        exact S_vret X (nle rfl) (nle rfl) dX10_weigh_58 (hPo _ (⟨_, _, _, _, _, _, _, _, _, rfl, by omega, by omega⟩))
      ·
        refine S_aload_n X dX10_weigh_48 rfl rfl ?_
        refine S_iload_n X dX10_weigh_49 rfl rfl ?_
        refine S_put X fpX10_51_9 0 rfl FT_i dX10_weigh_50 ?_
        refine S_w (ws' := [(oK, ob 9 (uF (uF fK 1 (iv ro)) 2 (iv (le + 1)))), (oP, ob 4 (uF (uF (uF fP 6 (iv p0)) 7 (iv n0)) 8 (iv k0))), (aA, ar 1206 Ab), (aT, ar 180 Tm), (aW, ar 6 Wq), (aS, ar 30 Sp), (oS, ob 5 fS), (aB, ar 6 B), (aF, ar 6 Fo), (aH, ar 6 Ho), (aL, ar 6 Lt)]) (by simp only [List.set]; rw [uF_same (k := 2)]) ?_
        refine S_aload_n X dX10_weigh_53 rfl rfl ?_
        refine S_iload_n X dX10_weigh_54 rfl rfl ?_
        refine S_put X fpX10_48_9 0 rfl FT_i dX10_weigh_55 ?_
        refine S_w (ws' := [(oK, ob 9 (uF (uF fK 1 (iv re)) 2 (iv (le + 1)))), (oP, ob 4 (uF (uF (uF fP 6 (iv p0)) 7 (iv n0)) 8 (iv k0))), (aA, ar 1206 Ab), (aT, ar 180 Tm), (aW, ar 6 Wq), (aS, ar 30 Sp), (oS, ob 5 fS), (aB, ar 6 B), (aF, ar 6 Fo), (aH, ar 6 Ho), (aL, ar 6 Lt)]) (by simp only [List.set]; rw [uF_mv (j := 2) (k := 1) (by decide), uF_same (k := 1)]) ?_
        exact S_vret X (nle rfl) (nle rfl) dX10_weigh_58 (hPo _ (⟨_, _, _, _, _, _, _, _, _, rfl, by omega, by omega⟩))
    ·
      refine S_aload_n X dX10_weigh_26 rfl rfl ?_
      refine S_get X fgX10_18_9 0 rfl hf0 dX10_weigh_27 ?_
      refine S_aload_n X dX10_weigh_30 rfl rfl ?_
      refine S_get X fgX10_22_9 0 rfl hf1 dX10_weigh_31 ?_
      refine S_iload_n X dX10_weigh_34 rfl rfl ?_
      refine S_calli X (kX4_perform l fP fS pl n ec mk oP oS aA aT aW aS aB aF aH aL Ab Tm Wq Sp B Fo Ho Lt p0 n0 k0 (le + 1) hf2 hf3 hf4 hf5 hf6 hf7 hf8 hf9 hf10 hf11 hf12 hf13 hok (by omega)) (is := [1, 2, 3, 4, 5, 6, 7, 8, 9, 10]) rfl (run_V X lkX10_76 1 rfl rfl (is := [1, 2, 3, 4, 5, 6, 7, 8, 9, 10]) (avs := [rv oS, iv (le + 1)]) (rest := []) rfl rfl (nle rfl) ⟨nle rfl, nle rfl⟩ ⟨nle rfl, nle rfl⟩ dX10_weigh_35 (by decide) rfl) (fun z_30 u_28 hp_29 => ?_)
      rcases hp_29 with ⟨A2_31, T2_32, W2_33, S2_34, hz_35, hu_36, hq_37⟩ | ⟨A2_38, T2_39, W2_40, S2_41, hz_42, hu_43, hq_44, hA2_45, hT2_46, hS2_47⟩
      ·
        subst hz_35
        subst hu_36
        refine ⟨rfl, ?_⟩
        refine S_w (ws' := [(oK, ob 9 (uF (uF fK 1 (iv ro)) 2 (iv le))), (oP, ob 4 (uF (uF (uF fP 6 (iv pl)) 7 (iv n)) 8 (iv mk))), (aA, ar 1206 A2_31), (aT, ar 180 T2_32), (aW, ar 6 W2_33), (aS, ar 30 S2_34), (oS, ob 5 fS), (aB, ar 6 B), (aF, ar 6 Fo), (aH, ar 6 Ho), (aL, ar 6 Lt)]) rfl ?_
        refine S_goto (tgt := 42) X dX10_weigh_38 (by decide) ?_
        refine S_istore_n X dX10_weigh_42 rfl (nle rfl) ?_
        refine S_iload_n X dX10_weigh_43 rfl rfl ?_
        refine S_iload_n X dX10_weigh_44 rfl rfl ?_
        refine S_icmp_ge (tgt := 58) X dX10_weigh_45 (by decide) (by omega) (by omega) (fun c_48 => ?_) (fun c_48 => ?_)
        ·
          exact S_vret X (nle rfl) (nle rfl) dX10_weigh_58 (hPo _ (⟨_, _, _, _, _, _, _, _, _, rfl, by omega, by omega⟩))
        ·
          refine S_aload_n X dX10_weigh_48 rfl rfl ?_
          refine S_iload_n X dX10_weigh_49 rfl rfl ?_
          refine S_put X fpX10_51_9 0 rfl FT_i dX10_weigh_50 ?_
          refine S_w (ws' := [(oK, ob 9 (uF (uF fK 1 (iv ro)) 2 (iv (le + 1)))), (oP, ob 4 (uF (uF (uF fP 6 (iv pl)) 7 (iv n)) 8 (iv mk))), (aA, ar 1206 A2_31), (aT, ar 180 T2_32), (aW, ar 6 W2_33), (aS, ar 30 S2_34), (oS, ob 5 fS), (aB, ar 6 B), (aF, ar 6 Fo), (aH, ar 6 Ho), (aL, ar 6 Lt)]) (by simp only [List.set]; rw [uF_same (k := 2)]) ?_
          refine S_aload_n X dX10_weigh_53 rfl rfl ?_
          refine S_iload_n X dX10_weigh_54 rfl rfl ?_
          refine S_put X fpX10_48_9 0 rfl FT_i dX10_weigh_55 ?_
          refine S_w (ws' := [(oK, ob 9 (uF (uF fK 1 (iv re)) 2 (iv (le + 1)))), (oP, ob 4 (uF (uF (uF fP 6 (iv pl)) 7 (iv n)) 8 (iv mk))), (aA, ar 1206 A2_31), (aT, ar 180 T2_32), (aW, ar 6 W2_33), (aS, ar 30 S2_34), (oS, ob 5 fS), (aB, ar 6 B), (aF, ar 6 Fo), (aH, ar 6 Ho), (aL, ar 6 Lt)]) (by simp only [List.set]; rw [uF_mv (j := 2) (k := 1) (by decide), uF_same (k := 1)]) ?_
          exact S_vret X (nle rfl) (nle rfl) dX10_weigh_58 (hPo _ (⟨_, _, _, _, _, _, _, _, _, rfl, by omega, by omega⟩))
      ·
        subst hz_42
        subst hu_43
        refine ⟨rfl, ?_⟩
        refine S_w (ws' := [(oK, ob 9 (uF (uF fK 1 (iv ro)) 2 (iv le))), (oP, ob 4 (uF (uF (uF fP 6 (iv pl)) 7 (iv n)) 8 (iv mk))), (aA, ar 1206 A2_38), (aT, ar 180 T2_39), (aW, ar 6 W2_40), (aS, ar 30 S2_41), (oS, ob 5 fS), (aB, ar 6 B), (aF, ar 6 Fo), (aH, ar 6 Ho), (aL, ar 6 Lt)]) rfl ?_
        refine S_goto (tgt := 42) X dX10_weigh_38 (by decide) ?_
        refine S_istore_n X dX10_weigh_42 rfl (nle rfl) ?_
        refine S_iload_n X dX10_weigh_43 rfl rfl ?_
        refine S_iload_n X dX10_weigh_44 rfl rfl ?_
        refine S_icmp_ge (tgt := 58) X dX10_weigh_45 (by decide) (by omega) (by omega) (fun c_49 => ?_) (fun c_49 => ?_)
        ·
          exact S_vret X (nle rfl) (nle rfl) dX10_weigh_58 (hPo _ (⟨_, _, _, _, _, _, _, _, _, rfl, by omega, by omega⟩))
        ·
          refine S_aload_n X dX10_weigh_48 rfl rfl ?_
          refine S_iload_n X dX10_weigh_49 rfl rfl ?_
          refine S_put X fpX10_51_9 0 rfl FT_i dX10_weigh_50 ?_
          refine S_w (ws' := [(oK, ob 9 (uF (uF fK 1 (iv ro)) 2 (iv (WO pl n ec mk Fo Ho B Lt)))), (oP, ob 4 (uF (uF (uF fP 6 (iv pl)) 7 (iv n)) 8 (iv mk))), (aA, ar 1206 A2_38), (aT, ar 180 T2_39), (aW, ar 6 W2_40), (aS, ar 30 S2_41), (oS, ob 5 fS), (aB, ar 6 B), (aF, ar 6 Fo), (aH, ar 6 Ho), (aL, ar 6 Lt)]) (by simp only [List.set]; rw [uF_same (k := 2)]) ?_
          refine S_aload_n X dX10_weigh_53 rfl rfl ?_
          refine S_iload_n X dX10_weigh_54 rfl rfl ?_
          refine S_put X fpX10_48_9 0 rfl FT_i dX10_weigh_55 ?_
          refine S_w (ws' := [(oK, ob 9 (uF (uF fK 1 (iv re)) 2 (iv (WO pl n ec mk Fo Ho B Lt)))), (oP, ob 4 (uF (uF (uF fP 6 (iv pl)) 7 (iv n)) 8 (iv mk))), (aA, ar 1206 A2_38), (aT, ar 180 T2_39), (aW, ar 6 W2_40), (aS, ar 30 S2_41), (oS, ob 5 fS), (aB, ar 6 B), (aF, ar 6 Fo), (aH, ar 6 Ho), (aL, ar 6 Lt)]) (by simp only [List.set]; rw [uF_mv (j := 2) (k := 1) (by decide), uF_same (k := 1)]) ?_
          exact S_vret X (nle rfl) (nle rfl) dX10_weigh_58 (hPo _ (⟨_, _, _, _, _, _, _, _, _, rfl, by omega, by omega⟩))
def C_X10_choose (l : Launch) (K : Nat) (d : Nat) : Prop := ∀ (oK : Nat) (fK : Nat → AV) (ro : Int) (le : Int) (kB : Nat) (Bh : Int → Int) (fP : Nat → AV) (fS : Nat → AV) (pl : Int) (n : Int) (ec : Int) (mk : Int) (oP : Nat) (oS : Nat) (aA : Nat) (aT : Nat) (aW : Nat) (aS : Nat) (aB : Nat) (aF : Nat) (aH : Nat) (aL : Nat) (Ab : Int → Int) (Tm : Int → Int) (Wq : Int → Int) (Sp : Int → Int) (B : Int → Int) (Fo : Int → Int) (Ho : Int → Int) (Lt : Int → Int) (p0 : Int) (n0 : Int) (k0 : Int) (da : Int) (vi : Int) (re : Int) (di : Int), (fK 3 = rv oP) → (fK 4 = rv oS) → (fK 6 = rv kB) → (fP 0 = rv aA) → (fP 1 = rv aT) → (fP 2 = rv aW) → (fP 3 = rv aS) → (fS 0 = iv pl) → (fS 1 = iv n) → (fS 2 = iv ec) → (fS 3 = iv mk) → (fS 4 = rv aB) → (fS 5 = rv aF) → (fS 6 = rv aH) → (fS 7 = rv aL) → (okS pl n ec Fo Ho B Lt) → (da + 1 = (K : Int) ∧ K ≤ 6) → (inR vi) → (0 ≤ re ∧ re ≤ mxd K) → (di = mxd K + 1) → (∀ x d, 0 ≤ x → x < pl → -1 ≤ d → d ≤ 5 → 1 ≤ Bh (x * 7 + d + 1) ∧ Bh (x * 7 + d + 1) ≤ 199) → (0 ≤ ro ∧ ro ≤ 1000000000) → (0 ≤ le ∧ le ≤ 1000000000) → AMv l yX10_choose cX10_choose 9 d 0 0 [rv oK, iv da, iv vi, iv re, iv di] [(oK, ob 9 (uF (uF fK 1 (iv ro)) 2 (iv le))), (oP, ob 4 (uF (uF (uF fP 6 (iv p0)) 7 (iv n0)) 8 (iv k0))), (aA, ar 1206 Ab), (aT, ar 180 Tm), (aW, ar 6 Wq), (aS, ar 30 Sp), (oS, ob 5 fS), (aB, ar 6 B), (aF, ar 6 Fo), (aH, ar 6 Ho), (aL, ar 6 Lt), (kB, ar 42 Bh)] (fun u => ∃ r2 : Int, ∃ l2 : Int, ∃ p9 : Int, ∃ n9 : Int, ∃ k9 : Int, ∃ A2 : Int → Int, ∃ T2 : Int → Int, ∃ W2 : Int → Int, ∃ S2 : Int → Int, ∃ B2 : Int → Int, u = [(oK, ob 9 (uF (uF fK 1 (iv r2)) 2 (iv l2))), (oP, ob 4 (uF (uF (uF fP 6 (iv p9)) 7 (iv n9)) 8 (iv k9))), (aA, ar 1206 A2), (aT, ar 180 T2), (aW, ar 6 W2), (aS, ar 30 S2), (oS, ob 5 fS), (aB, ar 6 B2), (aF, ar 6 Fo), (aH, ar 6 Ho), (aL, ar 6 Lt), (kB, ar 42 Bh)] ∧ (0 ≤ r2 ∧ r2 ≤ 1000000000) ∧ (0 ≤ l2 ∧ l2 ≤ 1000000000) ∧ (∀ x, 0 ≤ x → x < pl → 1 ≤ B2 x ∧ B2 x ≤ 199))
set_option maxHeartbeats 4000000 in
set_option maxRecDepth 100000 in
theorem kX10_choose (l : Launch) (K : Nat) (d : Nat) (hnx : ∀ K2 : Nat, K = K2 + 1 → C_X10_choose l K2 (d + 3)) : C_X10_choose l K (d + 4) := by
  intro oK fK ro le kB Bh fP fS pl n ec mk oP oS aA aT aW aS aB aF aH aL Ab Tm Wq Sp B Fo Ho Lt p0 n0 k0 da vi re di hf0 hf1 hf2 hf3 hf4 hf5 hf6 hf7 hf8 hf9 hf10 hf11 hf12 hf13 hf14 hok hda hvi hre hdi hbh hro hle
  refine AMv.of2 rfl (nle rfl) ?_
  intro D G A p e s m args below meth c Po hPo hnm X
  have hpl := hok.2.1
  have hpl1 := hok.1
  have hn1 := hok.2.2.1
  have hn2 := hok.2.2.2.1
  have hec := hok.2.2.2.2
  have hmx := mxd_le K
  refine S_iload_n X dX10_choose_0 rfl rfl ?_
  refine S_if_ge (tgt := 10) X dX10_choose_1 (by decide) (by omega) (fun c_1 => ?_) (fun c_1 => ?_)
  ·
    obtain ⟨K2, hK2⟩ : ∃ K2, K = K2 + 1 := ⟨K - 1, by omega⟩
    have hmq := mxd_q (K := K2) (by omega)
    rw [← hK2] at hmq
    refine S_aload_n X dX10_choose_10 rfl rfl ?_
    refine S_get X fgX10_22_9 0 rfl hf1 dX10_choose_11 ?_
    refine S_get X fgX10_40_5 6 rfl hf11 dX10_choose_14 ?_
    refine S_astore X dX10_choose_17 (nle rfl) ?_
    refine S_iload_n X dX10_choose_19 rfl rfl ?_
    refine S_iload_n X dX10_choose_20 rfl rfl ?_
    refine S_ineg X dX10_choose_21 ?_
    refine S_iand X dX10_choose_22 ?_
    refine S_istore X dX10_choose_23 (nle rfl) ?_
    refine S_iconst X dX10_choose_25 ?_
    refine S_istore X dX10_choose_26 (nle rfl) ?_
    have lp28_1 : ∀ (N : Nat) (i : Int) (r1 : Int) (l1 : Int) (Bv : Int → Int) (Aw : Int → Int) (Tw : Int → Int) (Ww : Int → Int) (Sw : Int → Int) (pw : Int) (nw : Int) (kw : Int) (L : Nat → Option AV), 0 ≤ i ∧ i ≤ pl → 0 ≤ r1 ∧ r1 ≤ 1000000000 → 0 ≤ l1 ∧ l1 ≤ 1000000000 → (∀ x, 0 ≤ x → x < pl → 1 ≤ Bv x ∧ Bv x ≤ 199) → L 0 = some (rv oK) → L 1 = some (iv da) → L 2 = some (iv vi) → L 3 = some (iv re) → L 4 = some (iv di) → L 5 = some (rv aB) → L 6 = some (iv (zAnd vi (-vi))) → L 7 = some (iv i) → pl + 1 - i < (N : Int) → S_ p l e (rmD (d + 4) 0 0) s m args below meth c (MQ below (QcV D G A Po) args s 0 0 A) D G A 9 0 0 28 L [] [(oK, ob 9 (uF (uF fK 1 (iv r1)) 2 (iv l1))), (oP, ob 4 (uF (uF (uF fP 6 (iv pw)) 7 (iv nw)) 8 (iv kw))), (aA, ar 1206 Aw), (aT, ar 180 Tw), (aW, ar 6 Ww), (aS, ar 30 Sw), (oS, ob 5 fS), (aB, ar 6 Bv), (aF, ar 6 Fo), (aH, ar 6 Ho), (aL, ar 6 Lt), (kB, ar 42 Bh)] := by
      intro N
      induction N with
      | zero =>
        intro i r1 l1 Bv Aw Tw Ww Sw pw nw kw L28 hi hr1 hr2 hBv hL28_0 hL28_1 hL28_2 hL28_3 hL28_4 hL28_5 hL28_6 hL28_7 hN28
        exfalso; omega
      | succ N ih28 =>
        intro i r1 l1 Bv Aw Tw Ww Sw pw nw kw L28 hi hr1 hr2 hBv hL28_0 hL28_1 hL28_2 hL28_3 hL28_4 hL28_5 hL28_6 hL28_7 hN28
        refine S_iload X dX10_choose_28 hL28_7 ?_
        refine S_aload_n X dX10_choose_30 rfl hL28_0 ?_
        refine S_get X fgX10_22_9 0 rfl hf1 dX10_choose_31 ?_
        refine S_get X fgX10_36_5 6 rfl hf7 dX10_choose_34 ?_
        refine S_icmp_ge (tgt := 144) X dX10_choose_37 (by decide) (by omega) (by omega) (fun c_2 => ?_) (fun c_2 => ?_)
        ·
          exact S_vret X (nle rfl) (nle rfl) dX10_choose_144 (hPo _ (⟨_, _, _, _, _, _, _, _, _, _, rfl, hr1, hr2, hBv⟩))
        ·
          have hz1 := zShl_r 1 i
          have hz2 := zAnd_r vi (-vi)
          have hz3 := zAnd_r vi (zShl 1 i)
          have hd5 : i * di ≤ 5 * di := Int.mul_le_mul_of_nonneg_right (by omega) (by omega)
          have hd0 : 0 ≤ i * di := Int.mul_nonneg (by omega) (by omega)
          have hmd : 0 ≤ re + i * di ∧ re + i * di ≤ mxd K2 := by omega
          have hmd2 : di * 10 = mxd K2 + 1 := by omega
          refine S_iconst X dX10_choose_40 ?_
          refine S_iload X dX10_choose_41 hL28_7 ?_
          refine S_ishl X dX10_choose_43 ?_
          refine S_istore X dX10_choose_44 (nle rfl) ?_
          refine S_iload X dX10_choose_46 rfl ?_
          refine S_iload X dX10_choose_48 hL28_6 ?_
          refine S_icmp_ne (tgt := 76) X dX10_choose_50 (by decide) (by omega) (by omega) (fun c_3 => ?_) (fun c_3 => ?_)
          ·
            refine S_iload_n X dX10_choose_76 rfl hL28_2 ?_
            refine S_iload X dX10_choose_77 rfl ?_
            refine S_iand X dX10_choose_79 ?_
            refine S_if_ne (tgt := 138) X dX10_choose_80 (by decide) (by omega) (fun c_4 => ?_) (fun c_4 => ?_)
            ·
              refine S_iinc X dX10_choose_138 (nle rfl) hL28_7 ?_
              refine S_goto (tgt := 28) X dX10_choose_141 (by decide) ?_
              exact ih28 (i + 1) r1 l1 Bv Aw Tw Ww Sw pw nw kw _ (by omega) (by first | exact h91 | exact hr1) (by first | exact h92 | exact hr2) (by first | exact hBv | exact h93 | exact (fun x h0 h1 => by unfold uZ; split; exact hb8; exact h93 x h0 h1)) hL28_0 hL28_1 hL28_2 hL28_3 hL28_4 hL28_5 hL28_6 rfl (by omega)
            ·
              refine S_aload X dX10_choose_83 hL28_5 ?_
              refine S_iload X dX10_choose_85 hL28_7 ?_
              refine S_aload_n X dX10_choose_87 rfl hL28_0 ?_
              refine S_get X fgX10_15_9 0 rfl hf2 dX10_choose_88 ?_
              refine S_iload X dX10_choose_91 hL28_7 ?_
              refine S_iload_n X dX10_choose_93 rfl hL28_1 ?_
              have hb9 := hbh i da (by omega) (by omega) (by omega) (by omega)
              refine S_calli X (kX10_slot l i da (by omega) (by omega)) (is := []) rfl (run_S X lkX10_43 (is := []) (avs := [iv i, iv da]) (rest := [rv kB, iv i, rv aB]) rfl rfl (nle rfl) ⟨by simp only [rmD]; omega, by simp only [rmD]; omega⟩ ⟨nle rfl, nle rfl⟩ dX10_choose_94 (by decide) rfl) (fun z_7 u_5 hp_6 => ?_)
              obtain ⟨hz_8, hu_9⟩ := hp_6
              subst hz_8
              subst hu_9
              refine ⟨rfl, ?_⟩
              refine S_w (ws' := [(oK, ob 9 (uF (uF fK 1 (iv r1)) 2 (iv l1))), (oP, ob 4 (uF (uF (uF fP 6 (iv pw)) 7 (iv nw)) 8 (iv kw))), (aA, ar 1206 Aw), (aT, ar 180 Tw), (aW, ar 6 Ww), (aS, ar 30 Sw), (oS, ob 5 fS), (aB, ar 6 Bv), (aF, ar 6 Fo), (aH, ar 6 Ho), (aL, ar 6 Lt), (kB, ar 42 Bh)]) rfl ?_
              refine S_iald X 11 rfl (by omega) (by omega) (nle rfl) dX10_choose_97 ?_
              refine S_iast X 7 rfl (by omega) (by omega) (nle rfl) dX10_choose_98 ?_
              refine S_w (ws' := [(oK, ob 9 (uF (uF fK 1 (iv r1)) 2 (iv l1))), (oP, ob 4 (uF (uF (uF fP 6 (iv pw)) 7 (iv nw)) 8 (iv kw))), (aA, ar 1206 Aw), (aT, ar 180 Tw), (aW, ar 6 Ww), (aS, ar 30 Sw), (oS, ob 5 fS), (aB, ar 6 (uZ Bv i (Bh (i * 7 + da + 1)))), (aF, ar 6 Fo), (aH, ar 6 Ho), (aL, ar 6 Lt), (kB, ar 42 Bh)]) rfl ?_
              refine S_aload_n X dX10_choose_99 rfl hL28_0 ?_
              refine S_iload_n X dX10_choose_100 rfl hL28_1 ?_
              refine S_iconst X dX10_choose_101 ?_
              refine S_isub X dX10_choose_102 ?_
              refine S_iload_n X dX10_choose_103 rfl hL28_2 ?_
              refine S_iload X dX10_choose_104 rfl ?_
              refine S_ior X dX10_choose_106 ?_
              refine S_iload_n X dX10_choose_107 rfl hL28_3 ?_
              refine S_iload X dX10_choose_108 hL28_7 ?_
              refine S_iload X dX10_choose_110 hL28_4 ?_
              refine S_imul X dX10_choose_112 ?_
              refine S_iadd X dX10_choose_113 ?_
              refine S_iload X dX10_choose_114 hL28_4 ?_
              refine S_bipush X dX10_choose_116 rfl ?_
              refine S_imul X dX10_choose_118 ?_
              refine S_callv X ((hnx K2 hK2) oK fK r1 l1 kB Bh fP fS pl n ec mk oP oS aA aT aW aS aB aF aH aL Aw Tw Ww Sw (uZ Bv i (Bh (i * 7 + da + 1))) Fo Ho Lt pw nw kw (da - 1) (zOr vi (zShl 1 i)) (re + (i * di)) (di * 10) hf0 hf1 hf2 hf3 hf4 hf5 hf6 hf7 hf8 hf9 hf10 hf11 hf12 hf13 hf14 (hok.b2 (fun x h0 h1 => by unfold uZ; split; exact hb9; exact hBv x h0 h1)) (by omega) (zOr_r _ _) hmd hmd2 hbh (by omega) (by omega)) (is := [0, 1, 2, 3, 4, 5, 6, 7, 8, 9, 10, 11]) rfl (run_S X lkX10_54 (is := [0, 1, 2, 3, 4, 5, 6, 7, 8, 9, 10, 11]) (avs := [rv oK, iv (da - 1), iv (zOr vi (zShl 1 i)), iv (re + (i * di)), iv (di * 10)]) (rest := []) rfl rfl (nle rfl) ⟨by simp only [rmD]; omega, by simp only [rmD]; omega⟩ ⟨nle rfl, nle rfl⟩ dX10_choose_119 (by decide) rfl) (fun u_10 hp_11 => ?_)
              obtain ⟨r2_13, l2_14, p9_15, n9_16, k9_17, A2_18, T2_19, W2_20, S2_21, B2_22, hu_24, h1_25, h2_26, hB2_27⟩ := hp_11
              subst hu_24
              refine ⟨rfl, ?_⟩
              refine S_w (ws' := [(oK, ob 9 (uF (uF fK 1 (iv r2_13)) 2 (iv l2_14))), (oP, ob 4 (uF (uF (uF fP 6 (iv p9_15)) 7 (iv n9_16)) 8 (iv k9_17))), (aA, ar 1206 A2_18), (aT, ar 180 T2_19), (aW, ar 6 W2_20), (aS, ar 30 S2_21), (oS, ob 5 fS), (aB, ar 6 B2_22), (aF, ar 6 Fo), (aH, ar 6 Ho), (aL, ar 6 Lt), (kB, ar 42 Bh)]) rfl ?_
              have h91 := h1_25
              have h92 := h2_26
              have h93 := hB2_27
              refine S_aload X dX10_choose_122 hL28_5 ?_
              refine S_iload X dX10_choose_124 hL28_7 ?_
              refine S_aload_n X dX10_choose_126 rfl hL28_0 ?_
              refine S_get X fgX10_15_9 0 rfl hf2 dX10_choose_127 ?_
              refine S_iload X dX10_choose_130 hL28_7 ?_
              refine S_iconst X dX10_choose_132 ?_
              have hb8 := hbh i (-1) (by omega) (by omega) (by omega) (by omega)
              refine S_calli X (kX10_slot l i (-1) (by omega) (by omega)) (is := []) rfl (run_S X lkX10_43 (is := []) (avs := [iv i, iv (-1)]) (rest := [rv kB, iv i, rv aB]) rfl rfl (nle rfl) ⟨by simp only [rmD]; omega, by simp only [rmD]; omega⟩ ⟨nle rfl, nle rfl⟩ dX10_choose_133 (by decide) rfl) (fun z_30 u_28 hp_29 => ?_)
              obtain ⟨hz_31, hu_32⟩ := hp_29
              subst hz_31
              subst hu_32
              refine ⟨rfl, ?_⟩
              refine S_w (ws' := [(oK, ob 9 (uF (uF fK 1 (iv r2_13)) 2 (iv l2_14))), (oP, ob 4 (uF (uF (uF fP 6 (iv p9_15)) 7 (iv n9_16)) 8 (iv k9_17))), (aA, ar 1206 A2_18), (aT, ar 180 T2_19), (aW, ar 6 W2_20), (aS, ar 30 S2_21), (oS, ob 5 fS), (aB, ar 6 B2_22), (aF, ar 6 Fo), (aH, ar 6 Ho), (aL, ar 6 Lt), (kB, ar 42 Bh)]) rfl ?_
              refine S_iald X 11 rfl (by omega) (by omega) (nle rfl) dX10_choose_136 ?_
              refine S_iast X 7 rfl (by omega) (by omega) (nle rfl) dX10_choose_137 ?_
              refine S_w (ws' := [(oK, ob 9 (uF (uF fK 1 (iv r2_13)) 2 (iv l2_14))), (oP, ob 4 (uF (uF (uF fP 6 (iv p9_15)) 7 (iv n9_16)) 8 (iv k9_17))), (aA, ar 1206 A2_18), (aT, ar 180 T2_19), (aW, ar 6 W2_20), (aS, ar 30 S2_21), (oS, ob 5 fS), (aB, ar 6 (uZ B2_22 i (Bh (i * 7 + (-1) + 1)))), (aF, ar 6 Fo), (aH, ar 6 Ho), (aL, ar 6 Lt), (kB, ar 42 Bh)]) rfl ?_
              refine S_iinc X dX10_choose_138 (nle rfl) hL28_7 ?_
              refine S_goto (tgt := 28) X dX10_choose_141 (by decide) ?_
              exact ih28 (i + 1) r2_13 l2_14 (uZ B2_22 i (Bh (i * 7 + (-1) + 1))) A2_18 T2_19 W2_20 S2_21 p9_15 n9_16 k9_17 _ (by omega) (by first | exact h91 | exact hr1) (by first | exact h92 | exact hr2) (by first | exact hBv | exact h93 | exact (fun x h0 h1 => by unfold uZ; split; exact hb8; exact h93 x h0 h1)) hL28_0 hL28_1 hL28_2 hL28_3 hL28_4 hL28_5 hL28_6 rfl (by omega)
          ·
            refine S_aload_n X dX10_choose_53 rfl hL28_0 ?_
            refine S_iload_n X dX10_choose_54 rfl hL28_1 ?_
            refine S_iconst X dX10_choose_55 ?_
            refine S_isub X dX10_choose_56 ?_
            refine S_iload_n X dX10_choose_57 rfl hL28_2 ?_
            refine S_iload_n X dX10_choose_58 rfl hL28_3 ?_
            refine S_iload X dX10_choose_59 hL28_7 ?_
            refine S_iload X dX10_choose_61 hL28_4 ?_
            refine S_imul X dX10_choose_63 ?_
            refine S_iadd X dX10_choose_64 ?_
            refine S_iload X dX10_choose_65 hL28_4 ?_
            refine S_bipush X dX10_choose_67 rfl ?_
            refine S_imul X dX10_choose_69 ?_
            refine S_callv X ((hnx K2 hK2) oK fK r1 l1 kB Bh fP fS pl n ec mk oP oS aA aT aW aS aB aF aH aL Aw Tw Ww Sw Bv Fo Ho Lt pw nw kw (da - 1) vi (re + (i * di)) (di * 10) hf0 hf1 hf2 hf3 hf4 hf5 hf6 hf7 hf8 hf9 hf10 hf11 hf12 hf13 hf14 (hok.b2 hBv) (by omega) hvi hmd hmd2 hbh (by omega) (by omega)) (is := [0, 1, 2, 3, 4, 5, 6, 7, 8, 9, 10, 11]) rfl (run_S X lkX10_54 (is := [0, 1, 2, 3, 4, 5, 6, 7, 8, 9, 10, 11]) (avs := [rv oK, iv (da - 1), iv vi, iv (re + (i * di)), iv (di * 10)]) (rest := []) rfl rfl (nle rfl) ⟨by simp only [rmD]; omega, by simp only [rmD]; omega⟩ ⟨nle rfl, nle rfl⟩ dX10_choose_70 (by decide) rfl) (fun u_33 hp_34 => ?_)
            obtain ⟨r2_36, l2_37, p9_38, n9_39, k9_40, A2_41, T2_42, W2_43, S2_44, B2_45, hu_47, h1_48, h2_49, hB2_50⟩ := hp_34
            subst hu_47
            refine ⟨rfl, ?_⟩
            refine S_w (ws' := [(oK, ob 9 (uF (uF fK 1 (iv r2_36)) 2 (iv l2_37))), (oP, ob 4 (uF (uF (uF fP 6 (iv p9_38)) 7 (iv n9_39)) 8 (iv k9_40))), (aA, ar 1206 A2_41), (aT, ar 180 T2_42), (aW, ar 6 W2_43), (aS, ar 30 S2_44), (oS, ob 5 fS), (aB, ar 6 B2_45), (aF, ar 6 Fo), (aH, ar 6 Ho), (aL, ar 6 Lt), (kB, ar 42 Bh)]) rfl ?_
            have h91 := h1_48
            have h92 := h2_49
            have h93 := hB2_50
            refine S_goto (tgt := 138) X dX10_choose_73 (by decide) ?_
            refine S_iinc X dX10_choose_138 (nle rfl) hL28_7 ?_
            refine S_goto (tgt := 28) X dX10_choose_141 (by decide) ?_
            exact ih28 (i + 1) r2_36 l2_37 B2_45 A2_41 T2_42 W2_43 S2_44 p9_38 n9_39 k9_40 _ (by omega) (by first | exact h91 | exact hr1) (by first | exact h92 | exact hr2) (by first | exact hBv | exact h93 | exact (fun x h0 h1 => by unfold uZ; split; exact hb8; exact h93 x h0 h1)) hL28_0 hL28_1 hL28_2 hL28_3 hL28_4 hL28_5 hL28_6 rfl (by omega)
    exact lp28_1 (Int.toNat (pl + 1 - 0) + 1) 0 ro le B Ab Tm Wq Sp p0 n0 k0 _ (by omega) (hro) (hle) (fun x h0 h1 => (hok.2.2.2.2.2.2 x h0 h1).2.2.1) rfl rfl rfl rfl rfl rfl rfl rfl (by omega)
  ·
    refine S_aload_n X dX10_choose_4 rfl rfl ?_
    refine S_iload_n X dX10_choose_5 rfl rfl ?_
    refine S_callv X (kX10_weigh l oK fK ro le fP fS pl n ec mk oP oS aA aT aW aS aB aF aH aL Ab Tm Wq Sp B Fo Ho Lt p0 n0 k0 re hf0 hf1 hf3 hf4 hf5 hf6 hf7 hf8 hf9 hf10 hf11 hf12 hf13 hf14 hok (by omega) (by omega) (by omega)) (is := [0, 1, 2, 3, 4, 5, 6, 7, 8, 9, 10]) rfl (run_V X lkX10_72 0 rfl rfl (is := [0, 1, 2, 3, 4, 5, 6, 7, 8, 9, 10]) (avs := [iv re]) (rest := []) rfl rfl (nle rfl) ⟨by simp only [rmD]; omega, by simp only [rmD]; omega⟩ ⟨nle rfl, nle rfl⟩ dX10_choose_6 (by decide) rfl) (fun u_51 hp_52 => ?_)
    obtain ⟨r2_54, l2_55, p9_56, n9_57, k9_58, A2_59, T2_60, W2_61, S2_62, hu_64, h1_65, h2_66⟩ := hp_52
    subst hu_64
    refine ⟨rfl, ?_⟩
    refine S_w (ws' := [(oK, ob 9 (uF (uF fK 1 (iv r2_54)) 2 (iv l2_55))), (oP, ob 4 (uF (uF (uF fP 6 (iv p9_56)) 7 (iv n9_57)) 8 (iv k9_58))), (aA, ar 1206 A2_59), (aT, ar 180 T2_60), (aW, ar 6 W2_61), (aS, ar 30 S2_62), (oS, ob 5 fS), (aB, ar 6 B), (aF, ar 6 Fo), (aH, ar 6 Ho), (aL, ar 6 Lt), (kB, ar 42 Bh)]) rfl ?_
    have h91 := h1_65
    have h92 := h2_66
    exact S_vret X (nle rfl) (nle rfl) dX10_choose_9 (hPo _ (⟨_, _, _, _, _, _, _, _, _, _, rfl, h91, h92, fun x h0 h1 => (hok.2.2.2.2.2.2 x h0 h1).2.2.1⟩))
theorem cho_all (l : Launch) : ∀ K : Nat, C_X10_choose l K (4 + K) := by
  intro K
  induction K with
  | zero => exact kX10_choose l 0 0 (fun K2 h => by omega)
  | succ K ih =>
    rw [show 4 + (K + 1) = (K + 1) + 4 by omega]
    refine kX10_choose l (K + 1) (K + 1) (fun K2 h => ?_)
    cases h
    rw [show K + 1 + 3 = 4 + K by omega]
    exact ih
