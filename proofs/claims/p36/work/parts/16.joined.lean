/- 71.cf5.lean.txt -/
section pt_71cf5
def rwN : Nat → Int → Int
  | 0, s => if s < 0 ∨ 0 < s then 0 else 1
  | K + 1, s => if s < 0 ∨ (K + 1 : Int) * 2 < s then 0 else rwN K s + rwN K (s - 1) + rwN K (s - 2)
def p3 (K : Nat) : Int := if K = 0 then 1 else if K = 1 then 3 else if K = 2 then 9 else if K = 3 then 27 else if K = 4 then 81 else if K = 5 then 243 else 729
theorem p3_S {K : Nat} (h : K + 1 ≤ 6) : p3 (K + 1) = 3 * p3 K := by
  have : K = 0 ∨ K = 1 ∨ K = 2 ∨ K = 3 ∨ K = 4 ∨ K = 5 := by omega
  rcases this with rfl | rfl | rfl | rfl | rfl | rfl <;> rfl
theorem p3_in (K : Nat) : 1 ≤ p3 K ∧ p3 K ≤ 729 := by unfold p3; (repeat' split) <;> omega
theorem rw_in : ∀ K : Nat, K ≤ 6 → ∀ s, 0 ≤ rwN K s ∧ rwN K s ≤ p3 K := by
  intro K
  induction K with
  | zero => intro _ s; unfold rwN p3; split <;> simp
  | succ K ih =>
    intro h s
    have a := ih (by omega) s
    have b := ih (by omega) (s - 1)
    have d := ih (by omega) (s - 2)
    have e := p3_S h
    have e2 := p3_in K
    rw [rwN]
    split <;> omega
theorem okS.bt {pl n ec : Int} {Fo Ho B Lt F2 H2 B2 L2 Bv : Int → Int} (h : okS pl n ec Fo Ho B Lt) (e : teq pl Fo Ho B Lt F2 H2 B2 L2) (hb : ∀ x, 0 ≤ x → x < pl → 1 ≤ Bv x ∧ Bv x ≤ 199) : okS pl n ec F2 H2 Bv L2 := by
  obtain ⟨a1, a2, a3, a4, a5, a6, a⟩ := h
  refine ⟨a1, a2, a3, a4, a5, a6, fun p h0 h1 => ?_⟩
  obtain ⟨e1, e2, e3, e4⟩ := e p h0 h1
  have := a p h0 h1
  have k := hb p h0 h1
  rw [← e1, ← e2, ← e4]
  exact ⟨this.1, this.2.1, k, this.2.2.2⟩
theorem okS.b2 {pl n ec : Int} {Fo Ho B Lt Bv : Int → Int} (h : okS pl n ec Fo Ho B Lt) (hb : ∀ x, 0 ≤ x → x < pl → 1 ≤ Bv x ∧ Bv x ≤ 199) : okS pl n ec Fo Ho Bv Lt := h.bt (F2 := Fo) (H2 := Ho) (B2 := B) (L2 := Lt) (fun p _ _ => ⟨rfl, rfl, rfl, rfl⟩) hb
theorem mxd_q {K : Nat} (h : K + 1 ≤ 6) : mxd K = 10 * mxd (K + 1) + 9 := by
  have : K = 0 ∨ K = 1 ∨ K = 2 ∨ K = 3 ∨ K = 4 ∨ K = 5 := by omega
  rcases this with rfl | rfl | rfl | rfl | rfl | rfl <;> rfl
def C_X11_rowsWithSum (l : Launch) (K : Nat) (d : Nat) : Prop := ∀ (cn : Int) (su : Int), (cn = (K : Int) ∧ K ≤ 6) → (-100 ≤ su ∧ su ≤ 100) → AMi l yX11_rowsWithSum cX11_rowsWithSum 2 .int d 0 0 [iv cn, iv su] [] (fun z u => z = rwN K su ∧ u = [])
set_option maxHeartbeats 4000000 in
set_option maxRecDepth 100000 in
theorem kX11_rowsWithSum (l : Launch) (K : Nat) (d : Nat) (hnx : ∀ K2 : Nat, K = K2 + 1 → C_X11_rowsWithSum l K2 d) : C_X11_rowsWithSum l K (d + 1) := by
  intro cn su hcn hsu
  refine AMi.of2 rfl (nle rfl) ?_
  intro D G A p e s m args below meth c Po hPo X
  refine S_iload_n X dX11_rowsWithSum_0 rfl rfl ?_
  refine S_if_lt (tgt := 11) X dX11_rowsWithSum_1 (by decide) (by omega) (fun c_1 => ?_) (fun c_1 => ?_)
  ·
    refine S_iconst X dX11_rowsWithSum_11 ?_
    exact S_iret X (nle rfl) (nle rfl) dX11_rowsWithSum_12 (hPo _ _ (⟨by cases K with | zero => rw [rwN]; rw [if_pos (by omega)] | succ K2 => rw [rwN]; rw [if_pos (by omega)], rfl⟩))
  ·
    refine S_iload_n X dX11_rowsWithSum_4 rfl rfl ?_
    refine S_iconst X dX11_rowsWithSum_5 ?_
    refine S_iload_n X dX11_rowsWithSum_6 rfl rfl ?_
    refine S_imul X dX11_rowsWithSum_7 ?_
    refine S_icmp_le (tgt := 13) X dX11_rowsWithSum_8 (by decide) (by omega) (by omega) (fun c_2 => ?_) (fun c_2 => ?_)
    ·
      refine S_iload_n X dX11_rowsWithSum_13 rfl rfl ?_
      refine S_if_gt (tgt := 19) X dX11_rowsWithSum_14 (by decide) (by omega) (fun c_3 => ?_) (fun c_3 => ?_)
      ·
        obtain ⟨K2, hK2⟩ : ∃ K2, K = K2 + 1 := ⟨K - 1, by omega⟩
        have hp9 := p3_in K2
        have hr1 := rw_in K2 (by omega) su
        have hr2 := rw_in K2 (by omega) (su - 1)
        have hr3 := rw_in K2 (by omega) (su - 2)
        refine S_iload_n X dX11_rowsWithSum_19 rfl rfl ?_
        refine S_iconst X dX11_rowsWithSum_20 ?_
        refine S_isub X dX11_rowsWithSum_21 ?_
        refine S_iload_n X dX11_rowsWithSum_22 rfl rfl ?_
        refine S_calli X ((hnx K2 hK2) (cn - 1) su (by omega) (by omega)) (is := []) rfl (run_S X lkX11_332 (is := []) (avs := [iv (cn - 1), iv su]) (rest := []) rfl rfl (nle rfl) ⟨by simp only [rmD]; omega, by simp only [rmD]; omega⟩ ⟨nle rfl, nle rfl⟩ dX11_rowsWithSum_23 (by decide) rfl) (fun z_6 u_4 hp_5 => ?_)
        obtain ⟨hz_7, hu_8⟩ := hp_5
        subst hz_7
        subst hu_8
        refine ⟨rfl, ?_⟩
        refine S_w (ws' := []) rfl ?_
        refine S_iload_n X dX11_rowsWithSum_26 rfl rfl ?_
        refine S_iconst X dX11_rowsWithSum_27 ?_
        refine S_isub X dX11_rowsWithSum_28 ?_
        refine S_iload_n X dX11_rowsWithSum_29 rfl rfl ?_
        refine S_iconst X dX11_rowsWithSum_30 ?_
        refine S_isub X dX11_rowsWithSum_31 ?_
        refine S_calli X ((hnx K2 hK2) (cn - 1) (su - 1) (by omega) (by omega)) (is := []) rfl (run_S X lkX11_332 (is := []) (avs := [iv (cn - 1), iv (su - 1)]) (rest := [iv (rwN K2 su)]) rfl rfl (nle rfl) ⟨by simp only [rmD]; omega, by simp only [rmD]; omega⟩ ⟨nle rfl, nle rfl⟩ dX11_rowsWithSum_32 (by decide) rfl) (fun z_11 u_9 hp_10 => ?_)
        obtain ⟨hz_12, hu_13⟩ := hp_10
        subst hz_12
        subst hu_13
        refine ⟨rfl, ?_⟩
        refine S_w (ws' := []) rfl ?_
        refine S_iadd X dX11_rowsWithSum_35 ?_
        refine S_iload_n X dX11_rowsWithSum_36 rfl rfl ?_
        refine S_iconst X dX11_rowsWithSum_37 ?_
        refine S_isub X dX11_rowsWithSum_38 ?_
        refine S_iload_n X dX11_rowsWithSum_39 rfl rfl ?_
        refine S_iconst X dX11_rowsWithSum_40 ?_
        refine S_isub X dX11_rowsWithSum_41 ?_
        refine S_calli X ((hnx K2 hK2) (cn - 1) (su - 2) (by omega) (by omega)) (is := []) rfl (run_S X lkX11_332 (is := []) (avs := [iv (cn - 1), iv (su - 2)]) (rest := [iv ((rwN K2 su) + (rwN K2 (su - 1)))]) rfl rfl (nle rfl) ⟨by simp only [rmD]; omega, by simp only [rmD]; omega⟩ ⟨nle rfl, nle rfl⟩ dX11_rowsWithSum_42 (by decide) rfl) (fun z_16 u_14 hp_15 => ?_)
        obtain ⟨hz_17, hu_18⟩ := hp_15
        subst hz_17
        subst hu_18
        refine ⟨rfl, ?_⟩
        refine S_w (ws' := []) rfl ?_
        refine S_iadd X dX11_rowsWithSum_45 ?_
        exact S_iret X (nle rfl) (nle rfl) dX11_rowsWithSum_46 (hPo _ _ (⟨by rw [hK2, rwN, if_neg (by omega)], rfl⟩))
      ·
        refine S_iconst X dX11_rowsWithSum_17 ?_
        exact S_iret X (nle rfl) (nle rfl) dX11_rowsWithSum_18 (hPo _ _ (⟨by rw [show K = 0 by omega, rwN, if_neg (by omega)], rfl⟩))
    ·
      refine S_iconst X dX11_rowsWithSum_11 ?_
      exact S_iret X (nle rfl) (nle rfl) dX11_rowsWithSum_12 (hPo _ _ (⟨by cases K with | zero => rw [rwN]; rw [if_pos (by omega)] | succ K2 => rw [rwN]; rw [if_pos (by omega)], rfl⟩))
theorem rws_all (l : Launch) : ∀ K d : Nat, K ≤ d → C_X11_rowsWithSum l K (d + 1) := by
  intro K
  induction K with
  | zero => intro d _; exact kX11_rowsWithSum l 0 d (fun K2 h => by omega)
  | succ K ih =>
    intro d h
    refine kX11_rowsWithSum l (K + 1) d (fun K2 h2 => ?_)
    cases h2
    have := ih (d - 1) (by omega)
    rwa [show d - 1 + 1 = d by omega] at this
set_option maxHeartbeats 4000000 in
set_option maxRecDepth 100000 in
theorem kX11_odds (l : Launch) (h0 : Nat) (f : Nat → AV) (oW : Nat) (fW : Nat → AV) (fP : Nat → AV) (fS : Nat → AV) (pl : Int) (n : Int) (ec : Int) (mk : Int) (oP : Nat) (oS : Nat) (aA : Nat) (aT : Nat) (aW : Nat) (aS : Nat) (aB : Nat) (aF : Nat) (aH : Nat) (aL : Nat) (Ab : Int → Int) (Tm : Int → Int) (Wq : Int → Int) (Sp : Int → Int) (B : Int → Int) (Fo : Int → Int) (Ho : Int → Int) (Lt : Int → Int) (p0 : Int) (n0 : Int) (k0 : Int) (q : Int) (k9 : Int) (oT : Nat) (tB : Nat) (tF : Nat) (tH : Nat) (tL : Nat) (fT : Nat → AV) (TB : Int → Int) (TF : Int → Int) (TH : Int → Int) (TL : Int → Int) (t0 : Int) (t1 : Int) (t2 : Int) (t3 : Int) (wD : Nat) (wK : Nat) (WD : Int → Int) (WK : Int → Int) (mt : Int) (hf0 : f 3 = rv oW) (hf1 : f 7 = rv oS) (hf2 : f 9 = rv oP) (hf3 : f 8 = rv oT) (hf4 : fW 0 = iv pl) (hf5 : fP 0 = rv aA) (hf6 : fP 1 = rv aT) (hf7 : fP 2 = rv aW) (hf8 : fP 3 = rv aS) (hf9 : fS 0 = iv pl) (hf10 : fS 1 = iv n) (hf11 : fS 2 = iv ec) (hf12 : fS 3 = iv mk) (hf13 : fS 4 = rv aB) (hf14 : fS 5 = rv aF) (hf15 : fS 6 = rv aH) (hf16 : fS 7 = rv aL) (hf17 : fT 4 = rv tB) (hf18 : fT 5 = rv tF) (hf19 : fT 6 = rv tH) (hf20 : fT 7 = rv tL) (hf21 : fW 3 = rv wD) (hf22 : fW 4 = rv wK) (hz : okZ pl n ec Fo Ho B Lt) (hx_q : inR q) (hx_k9 : inR k9) (hod0 : 1 ≤ pl → okDy pl mt WK WD) : AMi l yX11_odds cX11_odds 6 .int 8 0 0 [rv h0, iv q, iv k9] [(h0, ob 10 f), (oW, ob 7 fW), (oP, ob 4 (uF (uF (uF fP 6 (iv p0)) 7 (iv n0)) 8 (iv k0))), (aA, ar 1206 Ab), (aT, ar 180 Tm), (aW, ar 6 Wq), (aS, ar 30 Sp), (oS, ob 5 fS), (aB, ar 6 B), (aF, ar 6 Fo), (aH, ar 6 Ho), (aL, ar 6 Lt), (oT, ob 5 (uF (uF (uF (uF fT 0 (iv t0)) 1 (iv t1)) 2 (iv t2)) 3 (iv t3))), (tB, ar 6 TB), (tF, ar 6 TF), (tH, ar 6 TH), (tL, ar 6 TL), (wD, ar 6 WD), (wK, ar 6 WK)] (fun z u => ∃ z9 : Int, ∃ p9 : Int, ∃ n9 : Int, ∃ k9 : Int, ∃ A2 : Int → Int, ∃ T2 : Int → Int, ∃ W2 : Int → Int, ∃ S2 : Int → Int, ∃ t4 : Int, ∃ t5 : Int, ∃ t6 : Int, ∃ t7 : Int, ∃ B3 : Int → Int, ∃ F3 : Int → Int, ∃ H3 : Int → Int, ∃ L3 : Int → Int, z = z9 ∧ u = [(h0, ob 10 f), (oW, ob 7 fW), (oP, ob 4 (uF (uF (uF fP 6 (iv p9)) 7 (iv n9)) 8 (iv k9))), (aA, ar 1206 A2), (aT, ar 180 T2), (aW, ar 6 W2), (aS, ar 30 S2), (oS, ob 5 fS), (aB, ar 6 B), (aF, ar 6 Fo), (aH, ar 6 Ho), (aL, ar 6 Lt), (oT, ob 5 (uF (uF (uF (uF fT 0 (iv t4)) 1 (iv t5)) 2 (iv t6)) 3 (iv t7))), (tB, ar 6 B3), (tF, ar 6 F3), (tH, ar 6 H3), (tL, ar 6 L3), (wD, ar 6 WD), (wK, ar 6 WK)]) := by
  refine AMi.of2 rfl (nle rfl) ?_
  intro D G A p e s m args below meth c Po hPo X
  have hz6 := hz.2.1
  have hz0 := hz.1
  have hzn := hz.2.2.1
  have hzm := hz.2.2.2.1
  have hze := hz.2.2.2.2
  refine S_aload_n X dX11_odds_0 rfl rfl ?_
  refine S_iload_n X dX11_odds_1 rfl rfl ?_
  refine S_calli X (kX11_isPlayer l h0 f oW fW pl q hf0 hf4 (by omega) (by omega)) (is := [0, 1]) rfl (run_V X lkX11_147 0 rfl rfl (is := [0, 1]) (avs := [iv q]) (rest := []) rfl rfl (nle rfl) ⟨nle rfl, nle rfl⟩ ⟨nle rfl, nle rfl⟩ dX11_odds_2 (by decide) rfl) (fun z_3 u_1 hp_2 => ?_)
  rcases hp_2 with ⟨hz_4, hu_5, hp_6⟩ | ⟨hz_7, hu_8, hp_9⟩
  ·
    subst hz_4
    subst hu_5
    refine ⟨rfl, ?_⟩
    refine S_w (ws' := [(h0, ob 10 f), (oW, ob 7 fW), (oP, ob 4 (uF (uF (uF fP 6 (iv p0)) 7 (iv n0)) 8 (iv k0))), (aA, ar 1206 Ab), (aT, ar 180 Tm), (aW, ar 6 Wq), (aS, ar 30 Sp), (oS, ob 5 fS), (aB, ar 6 B), (aF, ar 6 Fo), (aH, ar 6 Ho), (aL, ar 6 Lt), (oT, ob 5 (uF (uF (uF (uF fT 0 (iv t0)) 1 (iv t1)) 2 (iv t2)) 3 (iv t3))), (tB, ar 6 TB), (tF, ar 6 TF), (tH, ar 6 TH), (tL, ar 6 TL), (wD, ar 6 WD), (wK, ar 6 WK)]) rfl ?_
    refine S_if_eq (tgt := 19) X dX11_odds_5 (by decide) (by decide) (fun _ => ?_) (fun h9 => absurd h9 (by decide))
    refine S_iconst X dX11_odds_19 ?_
    exact S_iret X (nle rfl) (nle rfl) dX11_odds_20 (hPo _ _ (⟨_, _, _, _, _, _, _, _, _, _, _, _, _, _, _, _, rfl, rfl⟩))
  ·
    subst hz_7
    subst hu_8
    refine ⟨rfl, ?_⟩
    refine S_w (ws' := [(h0, ob 10 f), (oW, ob 7 fW), (oP, ob 4 (uF (uF (uF fP 6 (iv p0)) 7 (iv n0)) 8 (iv k0))), (aA, ar 1206 Ab), (aT, ar 180 Tm), (aW, ar 6 Wq), (aS, ar 30 Sp), (oS, ob 5 fS), (aB, ar 6 B), (aF, ar 6 Fo), (aH, ar 6 Ho), (aL, ar 6 Lt), (oT, ob 5 (uF (uF (uF (uF fT 0 (iv t0)) 1 (iv t1)) 2 (iv t2)) 3 (iv t3))), (tB, ar 6 TB), (tF, ar 6 TF), (tH, ar 6 TH), (tL, ar 6 TL), (wD, ar 6 WD), (wK, ar 6 WK)]) rfl ?_
    refine S_if_eq (tgt := 19) X dX11_odds_5 (by decide) (by decide) (fun h9 => absurd h9 (by decide)) (fun _ => ?_)
    refine S_iload_n X dX11_odds_8 rfl rfl ?_
    refine S_iconst X dX11_odds_9 ?_
    refine S_icmp_lt (tgt := 19) X dX11_odds_10 (by decide) (by omega) (by decide) (fun c_12 => ?_) (fun c_12 => ?_)
    ·
      refine S_iconst X dX11_odds_19 ?_
      exact S_iret X (nle rfl) (nle rfl) dX11_odds_20 (hPo _ _ (⟨_, _, _, _, _, _, _, _, _, _, _, _, _, _, _, _, rfl, rfl⟩))
    ·
      refine S_iload_n X dX11_odds_13 rfl rfl ?_
      refine S_bipush X dX11_odds_14 rfl ?_
      refine S_icmp_le (tgt := 21) X dX11_odds_16 (by decide) (by omega) (by decide) (fun c_13 => ?_) (fun c_13 => ?_)
      ·
        have hok := hz.s (by omega)
        have hpl := hok.2.1
        have hpl1 := hok.1
        have hn1 := hok.2.2.1
        have hn2 := hok.2.2.2.1
        have hec := hok.2.2.2.2
        have hod := hod0 (by omega)
        refine S_aload_n X dX11_odds_21 rfl rfl ?_
        refine S_get X fgX11_63_10 0 rfl hf3 dX11_odds_22 ?_
        refine S_aload_n X dX11_odds_25 rfl rfl ?_
        refine S_get X fgX11_59_10 0 rfl hf1 dX11_odds_26 ?_
        refine S_callv X (kX6_copyFrom l fS pl n ec mk oS aB aF aH aL B Fo Ho Lt oT tB tF tH tL fT TB TF TH TL t0 t1 t2 t3 hf9 hf10 hf11 hf12 hf13 hf14 hf15 hf16 hf17 hf18 hf19 hf20) (is := [12, 13, 14, 15, 16, 7, 8, 9, 10, 11]) rfl (run_V X lkX11_289 12 rfl rfl (is := [12, 13, 14, 15, 16, 7, 8, 9, 10, 11]) (avs := [rv oS]) (rest := []) rfl rfl (nle rfl) ⟨nle rfl, nle rfl⟩ ⟨nle rfl, nle rfl⟩ dX11_odds_29 (by decide) rfl) (fun u_14 hp_15 => ?_)
        obtain ⟨B2_17, F2_18, H2_19, L2_20, hu_22, hB2_23, hF2_24, hH2_25, hL2_26⟩ := hp_15
        subst hu_22
        refine ⟨rfl, ?_⟩
        refine S_w (ws' := [(h0, ob 10 f), (oW, ob 7 fW), (oP, ob 4 (uF (uF (uF fP 6 (iv p0)) 7 (iv n0)) 8 (iv k0))), (aA, ar 1206 Ab), (aT, ar 180 Tm), (aW, ar 6 Wq), (aS, ar 30 Sp), (oS, ob 5 fS), (aB, ar 6 B), (aF, ar 6 Fo), (aH, ar 6 Ho), (aL, ar 6 Lt), (oT, ob 5 (uF (uF (uF (uF fT 0 (iv pl)) 1 (iv n)) 2 (iv ec)) 3 (iv mk))), (tB, ar 6 B2_17), (tF, ar 6 F2_18), (tH, ar 6 H2_19), (tL, ar 6 L2_20), (wD, ar 6 WD), (wK, ar 6 WK)]) rfl ?_
        have hB9 := hB2_23
        have hF9 := hF2_24
        have hH9 := hH2_25
        have hL9 := hL2_26
        have hte := te_0 (pl := pl) (by omega) hB9 hF9 hH9 hL9
        refine S_iconst X dX11_odds_32 ?_
        refine S_istore_n X dX11_odds_33 rfl (nle rfl) ?_
        refine S_iconst X dX11_odds_34 ?_
        refine S_istore X dX11_odds_35 (nle rfl) ?_
        have lp37_3 : ∀ (N : Nat) (su : Int) (st : Int) (Bz : Int → Int) (Aw : Int → Int) (Tw : Int → Int) (Ww : Int → Int) (Sw : Int → Int) (pw : Int) (nw : Int) (kw : Int) (L : Nat → Option AV), 0 ≤ su ∧ su ≤ 13 → 0 ≤ st ∧ st ≤ 729 * su → L 0 = some (rv h0) → L 1 = some (iv q) → L 2 = some (iv k9) → L 3 = some (iv st) → L 4 = some (iv su) → 14 - su < (N : Int) → S_ p l e (rmD 8 0 0) s m args below meth c (MQ below (QcI D G A Po) args s 0 0 A) D G A 6 0 0 37 L [] [(h0, ob 10 f), (oW, ob 7 fW), (oP, ob 4 (uF (uF (uF fP 6 (iv pw)) 7 (iv nw)) 8 (iv kw))), (aA, ar 1206 Aw), (aT, ar 180 Tw), (aW, ar 6 Ww), (aS, ar 30 Sw), (oS, ob 5 fS), (aB, ar 6 B), (aF, ar 6 Fo), (aH, ar 6 Ho), (aL, ar 6 Lt), (oT, ob 5 (uF (uF (uF (uF fT 0 (iv pl)) 1 (iv n)) 2 (iv ec)) 3 (iv mk))), (tB, ar 6 Bz), (tF, ar 6 F2_18), (tH, ar 6 H2_19), (tL, ar 6 L2_20), (wD, ar 6 WD), (wK, ar 6 WK)] := by
          intro N
          induction N with
          | zero =>
            intro su st Bz Aw Tw Ww Sw pw nw kw L37 hsu hst hL37_0 hL37_1 hL37_2 hL37_3 hL37_4 hN37
            exfalso; omega
          | succ N ih37 =>
            intro su st Bz Aw Tw Ww Sw pw nw kw L37 hsu hst hL37_0 hL37_1 hL37_2 hL37_3 hL37_4 hN37
            refine S_iload X dX11_odds_37 hL37_4 ?_
            refine S_iconst X dX11_odds_39 ?_
            refine S_iload_n X dX11_odds_40 rfl hL37_2 ?_
            refine S_imul X dX11_odds_41 ?_
            refine S_icmp_gt (tgt := 147) X dX11_odds_42 (by decide) (by omega) (by omega) (fun c_27 => ?_) (fun c_27 => ?_)
            ·
              refine S_iload_n X dX11_odds_147 rfl hL37_3 ?_
              exact S_iret X (nle rfl) (nle rfl) dX11_odds_148 (hPo _ _ (⟨_, _, _, _, _, _, _, _, _, _, _, _, _, _, _, _, rfl, rfl⟩))
            ·
              refine S_iconst X dX11_odds_45 ?_
              refine S_istore X dX11_odds_46 (nle rfl) ?_
              have lp48_6 : ∀ (N : Nat) (i : Int) (Bv : Int → Int) (L : Nat → Option AV), 0 ≤ i ∧ i ≤ pl → (∀ x, 0 ≤ x → x < i → 1 ≤ Bv x ∧ Bv x ≤ 199) → L 0 = some (rv h0) → L 1 = some (iv q) → L 2 = some (iv k9) → L 3 = some (iv st) → L 4 = some (iv su) → L 5 = some (iv i) → pl + 1 - i < (N : Int) → S_ p l e (rmD 8 0 0) s m args below meth c (MQ below (QcI D G A Po) args s 0 0 A) D G A 6 0 0 48 L [] [(h0, ob 10 f), (oW, ob 7 fW), (oP, ob 4 (uF (uF (uF fP 6 (iv pw)) 7 (iv nw)) 8 (iv kw))), (aA, ar 1206 Aw), (aT, ar 180 Tw), (aW, ar 6 Ww), (aS, ar 30 Sw), (oS, ob 5 fS), (aB, ar 6 B), (aF, ar 6 Fo), (aH, ar 6 Ho), (aL, ar 6 Lt), (oT, ob 5 (uF (uF (uF (uF fT 0 (iv pl)) 1 (iv n)) 2 (iv ec)) 3 (iv mk))), (tB, ar 6 Bv), (tF, ar 6 F2_18), (tH, ar 6 H2_19), (tL, ar 6 L2_20), (wD, ar 6 WD), (wK, ar 6 WK)] := by
                intro N
                induction N with
                | zero =>
                  intro i Bv L48 hi hBv hL48_0 hL48_1 hL48_2 hL48_3 hL48_4 hL48_5 hN48
                  exfalso; omega
                | succ N ih48 =>
                  intro i Bv L48 hi hBv hL48_0 hL48_1 hL48_2 hL48_3 hL48_4 hL48_5 hN48
                  refine S_iload X dX11_odds_48 hL48_5 ?_
                  refine S_aload_n X dX11_odds_50 rfl hL48_0 ?_
                  refine S_get X fgX11_35_10 0 rfl hf0 dX11_odds_51 ?_
                  refine S_get X fgX11_115_7 1 rfl hf4 dX11_odds_54 ?_
                  refine S_icmp_ge (tgt := 98) X dX11_odds_57 (by decide) (by omega) (by omega) (fun c_28 => ?_) (fun c_28 => ?_)
                  ·
                    refine S_aload_n X dX11_odds_98 rfl hL48_0 ?_
                    refine S_get X fgX11_69_10 0 rfl hf2 dX11_odds_99 ?_
                    refine S_aload_n X dX11_odds_102 rfl hL48_0 ?_
                    refine S_get X fgX11_63_10 0 rfl hf3 dX11_odds_103 ?_
                    refine S_ldc (n := 1000000000) X m813 dX11_odds_106 ?_
                    refine S_calli X (kX4_performE l fP (uF (uF (uF (uF fT 0 (iv pl)) 1 (iv n)) 2 (iv ec)) 3 (iv mk)) pl n ec mk oP oT aA aT aW aS tB tF tH tL Aw Tw Ww Sw Bv F2_18 H2_19 L2_20 pw nw kw hf5 hf6 hf7 hf8 rfl rfl rfl rfl hf17 hf18 hf19 hf20 (hok.bt hte (fun x h0 h1 => hBv x h0 (by omega)))) (is := [2, 3, 4, 5, 6, 12, 13, 14, 15, 16]) rfl (run_V X lkX11_235 2 rfl rfl (is := [2, 3, 4, 5, 6, 12, 13, 14, 15, 16]) (avs := [rv oT, iv 1000000000]) (rest := []) rfl rfl (nle rfl) ⟨nle rfl, nle rfl⟩ ⟨nle rfl, nle rfl⟩ dX11_odds_108 (by decide) rfl) (fun z_31 u_29 hp_30 => ?_)
                    obtain ⟨A2_32, T2_33, W2_34, S2_35, hz_36, hu_37, hq_38, hA2_39, hT2_40, hS2_41⟩ := hp_30
                    subst hz_36
                    subst hu_37
                    refine ⟨rfl, ?_⟩
                    refine S_w (ws' := [(h0, ob 10 f), (oW, ob 7 fW), (oP, ob 4 (uF (uF (uF fP 6 (iv pl)) 7 (iv n)) 8 (iv mk))), (aA, ar 1206 A2_32), (aT, ar 180 T2_33), (aW, ar 6 W2_34), (aS, ar 30 S2_35), (oS, ob 5 fS), (aB, ar 6 B), (aF, ar 6 Fo), (aH, ar 6 Ho), (aL, ar 6 Lt), (oT, ob 5 (uF (uF (uF (uF fT 0 (iv pl)) 1 (iv n)) 2 (iv ec)) 3 (iv mk))), (tB, ar 6 Bv), (tF, ar 6 F2_18), (tH, ar 6 H2_19), (tL, ar 6 L2_20), (wD, ar 6 WD), (wK, ar 6 WK)]) rfl ?_
                    have hTL := hT2_40
                    refine S_pop X dX11_odds_111 ?_
                    refine S_aload_n X dX11_odds_112 rfl hL48_0 ?_
                    refine S_get X fgX11_69_10 0 rfl hf2 dX11_odds_113 ?_
                    refine S_aload_n X dX11_odds_116 rfl hL48_0 ?_
                    refine S_get X fgX11_63_10 0 rfl hf3 dX11_odds_117 ?_
                    refine S_get (v := iv n) X fgX11_182_5 12 rfl rfl dX11_odds_120 ?_
                    refine S_iconst X dX11_odds_123 ?_
                    refine S_isub X dX11_odds_124 ?_
                    refine S_calli X (kX4_lastIn l (uF (uF (uF fP 6 (iv pl)) 7 (iv n)) 8 (iv mk)) pl n ec mk oP aT T2_33 Bv F2_18 H2_19 L2_20 (n - 1) hf6 rfl (hok.bt hte (fun x h0 h1 => hBv x h0 (by omega))) hTL (by omega)) (is := [2, 4]) rfl (run_V X lkX11_258 2 rfl rfl (is := [2, 4]) (avs := [iv (n - 1)]) (rest := []) rfl rfl (nle rfl) ⟨nle rfl, nle rfl⟩ ⟨nle rfl, nle rfl⟩ dX11_odds_125 (by decide) rfl) (fun z_44 u_42 hp_43 => ?_)
                    obtain ⟨hz_45, hu_46⟩ := hp_43
                    subst hz_45
                    subst hu_46
                    refine ⟨rfl, ?_⟩
                    refine S_w (ws' := [(h0, ob 10 f), (oW, ob 7 fW), (oP, ob 4 (uF (uF (uF fP 6 (iv pl)) 7 (iv n)) 8 (iv mk))), (aA, ar 1206 A2_32), (aT, ar 180 T2_33), (aW, ar 6 W2_34), (aS, ar 30 S2_35), (oS, ob 5 fS), (aB, ar 6 B), (aF, ar 6 Fo), (aH, ar 6 Ho), (aL, ar 6 Lt), (oT, ob 5 (uF (uF (uF (uF fT 0 (iv pl)) 1 (iv n)) 2 (iv ec)) 3 (iv mk))), (tB, ar 6 Bv), (tF, ar 6 F2_18), (tH, ar 6 H2_19), (tL, ar 6 L2_20), (wD, ar 6 WD), (wK, ar 6 WK)]) rfl ?_
                    have hrb := rw_in k9.toNat (by omega) su
                    have hr3 := p3_in k9.toNat
                    have hal9 := amI_lt (g := tS pl ec mk F2_18 H2_19 Bv L2_20 (n - 1)) (p := pl) (by omega)
                    refine S_iload_n X dX11_odds_128 rfl hL48_1 ?_
                    refine S_icmp_ne (tgt := 141) X dX11_odds_129 (by decide) (by omega) (by omega) (fun c_47 => ?_) (fun c_47 => ?_)
                    ·
                      refine S_iinc X dX11_odds_141 (nle rfl) hL48_4 ?_
                      refine S_goto (tgt := 37) X dX11_odds_144 (by decide) ?_
                      exact ih37 (su + 1) st Bv A2_32 T2_33 W2_34 S2_35 pl n mk _ (by omega) (by omega) hL48_0 hL48_1 hL48_2 hL48_3 rfl (by omega)
                    ·
                      refine S_iload_n X dX11_odds_132 rfl hL48_3 ?_
                      refine S_iload_n X dX11_odds_133 rfl hL48_2 ?_
                      refine S_iload X dX11_odds_134 hL48_4 ?_
                      refine S_calli X ((rws_all l k9.toNat 6 (by omega)) k9 su (by omega) (by omega)) (is := []) rfl (run_S X lkX11_332 (is := []) (avs := [iv k9, iv su]) (rest := [iv st]) rfl rfl (nle rfl) ⟨nle rfl, nle rfl⟩ ⟨nle rfl, nle rfl⟩ dX11_odds_136 (by decide) rfl) (fun z_50 u_48 hp_49 => ?_)
                      obtain ⟨hz_51, hu_52⟩ := hp_49
                      subst hz_51
                      subst hu_52
                      refine ⟨rfl, ?_⟩
                      refine S_w (ws' := [(h0, ob 10 f), (oW, ob 7 fW), (oP, ob 4 (uF (uF (uF fP 6 (iv pl)) 7 (iv n)) 8 (iv mk))), (aA, ar 1206 A2_32), (aT, ar 180 T2_33), (aW, ar 6 W2_34), (aS, ar 30 S2_35), (oS, ob 5 fS), (aB, ar 6 B), (aF, ar 6 Fo), (aH, ar 6 Ho), (aL, ar 6 Lt), (oT, ob 5 (uF (uF (uF (uF fT 0 (iv pl)) 1 (iv n)) 2 (iv ec)) 3 (iv mk))), (tB, ar 6 Bv), (tF, ar 6 F2_18), (tH, ar 6 H2_19), (tL, ar 6 L2_20), (wD, ar 6 WD), (wK, ar 6 WK)]) rfl ?_
                      refine S_iadd X dX11_odds_139 ?_
                      refine S_istore_n X dX11_odds_140 rfl (nle rfl) ?_
                      refine S_iinc X dX11_odds_141 (nle rfl) hL48_4 ?_
                      refine S_goto (tgt := 37) X dX11_odds_144 (by decide) ?_
                      exact ih37 (su + 1) (st + (rwN k9.toNat su)) Bv A2_32 T2_33 W2_34 S2_35 pl n mk _ (by omega) (by omega) hL48_0 hL48_1 hL48_2 rfl rfl (by omega)
                  ·
                    have hB1 := (hok.2.2.2.2.2.2 i (by omega) (by omega)).2.2.1
                    have hdr9 := drF_in (WK i) (WD i) k9 su (B i)
                    refine S_aload_n X dX11_odds_60 rfl hL48_0 ?_
                    refine S_get X fgX11_63_10 0 rfl hf3 dX11_odds_61 ?_
                    refine S_get X fgX11_158_5 12 rfl hf17 dX11_odds_64 ?_
                    refine S_iload X dX11_odds_67 hL48_5 ?_
                    refine S_aload_n X dX11_odds_69 rfl hL48_0 ?_
                    refine S_get X fgX11_35_10 0 rfl hf0 dX11_odds_70 ?_
                    refine S_iload X dX11_odds_73 hL48_5 ?_
                    refine S_aload_n X dX11_odds_75 rfl hL48_0 ?_
                    refine S_get X fgX11_59_10 0 rfl hf1 dX11_odds_76 ?_
                    refine S_get X fgX11_158_5 7 rfl hf13 dX11_odds_79 ?_
                    refine S_iload X dX11_odds_82 hL48_5 ?_
                    refine S_iald X 8 rfl (by omega) (by omega) (nle rfl) dX11_odds_84 ?_
                    refine S_iload_n X dX11_odds_85 rfl hL48_2 ?_
                    refine S_iload X dX11_odds_86 hL48_4 ?_
                    refine S_calli X (kX8_drifted l oW wD wK fW WD WK i (B i) k9 su hf21 hf22 (by omega) (hod.2.2 i (by omega) (by omega)).2 (hod.2.2 i (by omega) (by omega)).1 (by omega) (by omega) (by omega)) (is := [1, 17, 18]) rfl (run_V X lkX11_328 1 rfl rfl (is := [1, 17, 18]) (avs := [iv i, iv (B i), iv k9, iv su]) (rest := [iv i, rv tB]) rfl rfl (nle rfl) ⟨nle rfl, nle rfl⟩ ⟨nle rfl, nle rfl⟩ dX11_odds_88 (by decide) rfl) (fun z_55 u_53 hp_54 => ?_)
                    obtain ⟨hz_56, hu_57⟩ := hp_54
                    subst hz_56
                    subst hu_57
                    refine ⟨rfl, ?_⟩
                    refine S_w (ws' := [(h0, ob 10 f), (oW, ob 7 fW), (oP, ob 4 (uF (uF (uF fP 6 (iv pw)) 7 (iv nw)) 8 (iv kw))), (aA, ar 1206 Aw), (aT, ar 180 Tw), (aW, ar 6 Ww), (aS, ar 30 Sw), (oS, ob 5 fS), (aB, ar 6 B), (aF, ar 6 Fo), (aH, ar 6 Ho), (aL, ar 6 Lt), (oT, ob 5 (uF (uF (uF (uF fT 0 (iv pl)) 1 (iv n)) 2 (iv ec)) 3 (iv mk))), (tB, ar 6 Bv), (tF, ar 6 F2_18), (tH, ar 6 H2_19), (tL, ar 6 L2_20), (wD, ar 6 WD), (wK, ar 6 WK)]) rfl ?_
                    refine S_iast X 13 rfl (by omega) (by omega) (nle rfl) dX11_odds_91 ?_
                    refine S_w (ws' := [(h0, ob 10 f), (oW, ob 7 fW), (oP, ob 4 (uF (uF (uF fP 6 (iv pw)) 7 (iv nw)) 8 (iv kw))), (aA, ar 1206 Aw), (aT, ar 180 Tw), (aW, ar 6 Ww), (aS, ar 30 Sw), (oS, ob 5 fS), (aB, ar 6 B), (aF, ar 6 Fo), (aH, ar 6 Ho), (aL, ar 6 Lt), (oT, ob 5 (uF (uF (uF (uF fT 0 (iv pl)) 1 (iv n)) 2 (iv ec)) 3 (iv mk))), (tB, ar 6 (uZ Bv i (drF (WK i) (WD i) k9 su (B i)))), (tF, ar 6 F2_18), (tH, ar 6 H2_19), (tL, ar 6 L2_20), (wD, ar 6 WD), (wK, ar 6 WK)]) rfl ?_
                    refine S_iinc X dX11_odds_92 (nle rfl) hL48_5 ?_
                    refine S_goto (tgt := 48) X dX11_odds_95 (by decide) ?_
                    exact ih48 (i + 1) (uZ Bv i (drF (WK i) (WD i) k9 su (B i))) _ (by omega) (fun x h0 h1 => by unfold uZ; split; exact hdr9; exact hBv x h0 (by omega)) hL48_0 hL48_1 hL48_2 hL48_3 hL48_4 rfl (by omega)
              exact lp48_6 (Int.toNat (pl + 1 - 0) + 1) 0 Bz _ (by omega) (fun x h0 h1 => by omega) hL37_0 hL37_1 hL37_2 hL37_3 hL37_4 rfl (by omega)
        exact lp37_3 (Int.toNat (14 - 0) + 1) 0 0 B2_17 Ab Tm Wq Sp p0 n0 k0 _ (by omega) (by omega) rfl rfl rfl rfl rfl (by omega)
      ·
        refine S_iconst X dX11_odds_19 ?_
        exact S_iret X (nle rfl) (nle rfl) dX11_odds_20 (hPo _ _ (⟨_, _, _, _, _, _, _, _, _, _, _, _, _, _, _, _, rfl, rfl⟩))
set_option maxHeartbeats 4000000 in
set_option maxRecDepth 100000 in
theorem kX10_slot (l : Launch) (q : Int) (da : Int) (hq : 0 ≤ q ∧ q ≤ 5) (hd : -1 ≤ da ∧ da ≤ 5) : AMi l yX10_slot cX10_slot 2 .int 0 0 0 [iv q, iv da] [] (fun z u => z = q * 7 + da + 1 ∧ u = []) := by
  refine AMi.of2 rfl (nle rfl) ?_
  intro D G A p e s m args below meth c Po hPo X
  refine S_iload_n X dX10_slot_0 rfl rfl ?_
  refine S_bipush X dX10_slot_1 rfl ?_
  refine S_imul X dX10_slot_3 ?_
  refine S_iload_n X dX10_slot_4 rfl rfl ?_
  refine S_iadd X dX10_slot_5 ?_
  refine S_iconst X dX10_slot_6 ?_
  refine S_iadd X dX10_slot_7 ?_
  exact S_iret X (nle rfl) (nle rfl) dX10_slot_8 (hPo _ _ (⟨by first | rfl | omega, rfl⟩))
set_option maxHeartbeats 4000000 in
set_option maxRecDepth 100000 in
theorem kX10_foresee (l : Launch) (oK : Nat) (fK : Nat → AV) (kW : Nat) (kB : Nat) (Kw : Int → Int) (Bh : Int → Int) (oW : Nat) (wD : Nat) (wK : Nat) (fW : Nat → AV) (WD : Int → Int) (WK : Int → Int) (pl : Int) (mt : Int) (fS : Nat → AV) (pl : Int) (n : Int) (ec : Int) (oS : Nat) (aB : Nat) (B : Int → Int) (Fo : Int → Int) (Ho : Int → Int) (Lt : Int → Int) (hf0 : fK 5 = rv kW) (hf1 : fK 6 = rv kB) (hf2 : fW 3 = rv wD) (hf3 : fW 4 = rv wK) (hf4 : fW 0 = iv pl) (hf5 : fW 1 = iv mt) (hf6 : fS 4 = rv aB) (hok : okS pl n ec Fo Ho B Lt) (hod : okDy pl mt WK WD) (hkw : ∀ x, 0 ≤ x → x < 6 → 0 ≤ Kw x ∧ Kw x ≤ 9) : AMv l yX10_foresee cX10_foresee 7 2 0 0 [rv oK, rv oW, rv oS] [(oK, ob 9 fK), (kW, ar 6 Kw), (kB, ar 42 Bh), (oW, ob 7 fW), (wD, ar 6 WD), (wK, ar 6 WK), (oS, ob 5 fS), (aB, ar 6 B)] (fun u => ∃ B2 : Int → Int, u = [(oK, ob 9 fK), (kW, ar 6 Kw), (kB, ar 42 B2), (oW, ob 7 fW), (wD, ar 6 WD), (wK, ar 6 WK), (oS, ob 5 fS), (aB, ar 6 B)] ∧ (∀ x d, 0 ≤ x → x < pl → -1 ≤ d → d ≤ 5 → 1 ≤ B2 (x * 7 + d + 1) ∧ B2 (x * 7 + d + 1) ≤ 199)) := by
  refine AMv.of2 rfl (nle rfl) ?_
  intro D G A p e s m args below meth c Po hPo hnm X
  have hpl := hok.2.1
  have hpl1 := hok.1
  have hn1 := hok.2.2.1
  have hn2 := hok.2.2.2.1
  have hec := hok.2.2.2.2
  have hod1 := hod.1
  have hod2 := hod.2.1
  refine S_iconst X dX10_foresee_0 ?_
  refine S_istore_n X dX10_foresee_1 rfl (nle rfl) ?_
  refine S_iconst X dX10_foresee_2 ?_
  refine S_istore X dX10_foresee_3 (nle rfl) ?_
  have lp5_0 : ∀ (N : Nat) (da : Int) (su : Int) (Bw : Int → Int) (L : Nat → Option AV), -2 ≤ da ∧ da ≤ 5 → 0 ≤ su ∧ su ≤ 9 * (5 - da) ∧ su ≤ 54 → (∀ x d, 0 ≤ x → x < pl → da < d → d ≤ 5 → 1 ≤ Bw (x * 7 + d + 1) ∧ Bw (x * 7 + d + 1) ≤ 199) → L 0 = some (rv oK) → L 1 = some (rv oW) → L 2 = some (rv oS) → L 3 = some (iv su) → L 4 = some (iv da) → da + 3 < (N : Int) → S_ p l e (rmD 2 0 0) s m args below meth c (MQ below (QcV D G A Po) args s 0 0 A) D G A 7 0 0 5 L [] [(oK, ob 9 fK), (kW, ar 6 Kw), (kB, ar 42 Bw), (oW, ob 7 fW), (wD, ar 6 WD), (wK, ar 6 WK), (oS, ob 5 fS), (aB, ar 6 B)] := by
    intro N
    induction N with
    | zero =>
      intro da su Bw L5 hda hsu hBw hL5_0 hL5_1 hL5_2 hL5_3 hL5_4 hN5
      exfalso; omega
    | succ N ih5 =>
      intro da su Bw L5 hda hsu hBw hL5_0 hL5_1 hL5_2 hL5_3 hL5_4 hN5
      refine S_iload X dX10_foresee_5 hL5_4 ?_
      refine S_iconst X dX10_foresee_7 ?_
      refine S_icmp_lt (tgt := 102) X dX10_foresee_8 (by decide) (by omega) (by decide) (fun c_1 => ?_) (fun c_1 => ?_)
      ·
        exact S_vret X (nle rfl) (nle rfl) dX10_foresee_102 (hPo _ (⟨_, rfl, fun x d h0 h1 h2 h3 => hBw x d h0 h1 (by omega) h3⟩))
      ·
        refine S_iconst X dX10_foresee_11 ?_
        refine S_istore X dX10_foresee_12 (nle rfl) ?_
        have lp14_3 : ∀ (N : Nat) (i : Int) (Bv : Int → Int) (L : Nat → Option AV), 0 ≤ i ∧ i ≤ pl → (∀ x d, 0 ≤ x → x < pl → da < d → d ≤ 5 → 1 ≤ Bv (x * 7 + d + 1) ∧ Bv (x * 7 + d + 1) ≤ 199) → (∀ x, 0 ≤ x → x < i → 1 ≤ Bv (x * 7 + da + 1) ∧ Bv (x * 7 + da + 1) ≤ 199) → L 0 = some (rv oK) → L 1 = some (rv oW) → L 2 = some (rv oS) → L 3 = some (iv su) → L 4 = some (iv da) → L 5 = some (iv i) → pl + 1 - i < (N : Int) → S_ p l e (rmD 2 0 0) s m args below meth c (MQ below (QcV D G A Po) args s 0 0 A) D G A 7 0 0 14 L [] [(oK, ob 9 fK), (kW, ar 6 Kw), (kB, ar 42 Bv), (oW, ob 7 fW), (wD, ar 6 WD), (wK, ar 6 WK), (oS, ob 5 fS), (aB, ar 6 B)] := by
          intro N
          induction N with
          | zero =>
            intro i Bv L14 hi hBv hBu hL14_0 hL14_1 hL14_2 hL14_3 hL14_4 hL14_5 hN14
            exfalso; omega
          | succ N ih14 =>
            intro i Bv L14 hi hBv hBu hL14_0 hL14_1 hL14_2 hL14_3 hL14_4 hL14_5 hN14
            refine S_iload X dX10_foresee_14 hL14_5 ?_
            refine S_aload_n X dX10_foresee_16 rfl hL14_1 ?_
            refine S_get X fgX10_62_7 3 rfl hf4 dX10_foresee_17 ?_
            refine S_icmp_ge (tgt := 76) X dX10_foresee_20 (by decide) (by omega) (by omega) (fun c_2 => ?_) (fun c_2 => ?_)
            ·
              refine S_iload_n X dX10_foresee_76 rfl hL14_3 ?_
              refine S_iload X dX10_foresee_77 hL14_4 ?_
              refine S_iconst X dX10_foresee_79 ?_
              refine S_icmp_ne (tgt := 87) X dX10_foresee_80 (by decide) (by omega) (by decide) (fun c_3 => ?_) (fun c_3 => ?_)
              ·
                have hw9 := hkw da (by omega) (by omega)
                refine S_aload_n X dX10_foresee_87 rfl hL14_0 ?_
                refine S_get X fgX10_9_9 0 rfl hf0 dX10_foresee_88 ?_
                refine S_iload X dX10_foresee_91 hL14_4 ?_
                refine S_iald X 1 rfl (by omega) (by omega) (nle rfl) dX10_foresee_93 ?_
                refine S_iadd X dX10_foresee_94 ?_
                refine S_istore_n X dX10_foresee_95 rfl (nle rfl) ?_
                refine S_iinc X dX10_foresee_96 (nle rfl) hL14_4 ?_
                refine S_goto (tgt := 5) X dX10_foresee_99 (by decide) ?_
                exact ih5 (da + (-1)) (su + (Kw da)) Bv _ (by omega) (by omega) (fun x d h0 h1 h2 h3 => (by omega : da < d ∨ d = da).elim (fun q9 => hBv x d h0 h1 q9 h3) (fun q9 => by rw [q9]; exact hBu x h0 (by omega))) hL14_0 hL14_1 hL14_2 rfl rfl (by omega)
              ·
                refine S_iconst X dX10_foresee_83 ?_
                refine S_goto (tgt := 94) X dX10_foresee_84 (by decide) ?_
                refine S_iadd X dX10_foresee_94 ?_
                refine S_istore_n X dX10_foresee_95 rfl (nle rfl) ?_
                refine S_iinc X dX10_foresee_96 (nle rfl) hL14_4 ?_
                refine S_goto (tgt := 5) X dX10_foresee_99 (by decide) ?_
                exact ih5 (da + (-1)) (su + 0) Bv _ (by omega) (by omega) (fun x d h0 h1 h2 h3 => (by omega : da < d ∨ d = da).elim (fun q9 => hBv x d h0 h1 q9 h3) (fun q9 => by rw [q9]; exact hBu x h0 (by omega))) hL14_0 hL14_1 hL14_2 rfl rfl (by omega)
            ·
              have hB1 := (hok.2.2.2.2.2.2 i (by omega) (by omega)).2.2.1
              refine S_iload X dX10_foresee_23 hL14_4 ?_
              refine S_iconst X dX10_foresee_25 ?_
              refine S_icmp_ne (tgt := 39) X dX10_foresee_26 (by decide) (by omega) (by decide) (fun c_4 => ?_) (fun c_4 => ?_)
              ·
                refine S_aload_n X dX10_foresee_39 rfl hL14_1 ?_
                refine S_get X fgX10_65_7 3 rfl hf5 dX10_foresee_40 ?_
                refine S_istore X dX10_foresee_43 (nle rfl) ?_
                refine S_aload_n X dX10_foresee_45 rfl hL14_0 ?_
                refine S_get X fgX10_15_9 0 rfl hf1 dX10_foresee_46 ?_
                refine S_iload X dX10_foresee_49 hL14_5 ?_
                refine S_iload X dX10_foresee_51 hL14_4 ?_
                refine S_calli X (kX10_slot l i da (by omega) (by omega)) (is := []) rfl (run_S X lkX10_43 (is := []) (avs := [iv i, iv da]) (rest := [rv kB]) rfl rfl (nle rfl) ⟨nle rfl, nle rfl⟩ ⟨nle rfl, nle rfl⟩ dX10_foresee_53 (by decide) rfl) (fun z_7 u_5 hp_6 => ?_)
                obtain ⟨hz_8, hu_9⟩ := hp_6
                subst hz_8
                subst hu_9
                refine ⟨rfl, ?_⟩
                refine S_w (ws' := [(oK, ob 9 fK), (kW, ar 6 Kw), (kB, ar 42 Bv), (oW, ob 7 fW), (wD, ar 6 WD), (wK, ar 6 WK), (oS, ob 5 fS), (aB, ar 6 B)]) rfl ?_
                refine S_aload_n X dX10_foresee_56 rfl hL14_1 ?_
                refine S_iload X dX10_foresee_57 hL14_5 ?_
                refine S_iload X dX10_foresee_59 rfl ?_
                refine S_iconst X dX10_foresee_61 ?_
                refine S_iload X dX10_foresee_62 hL14_4 ?_
                refine S_isub X dX10_foresee_64 ?_
                refine S_iload_n X dX10_foresee_65 rfl hL14_3 ?_
                have hdr9 := drF_in (WK i) (WD i) (5 - da) su mt
                refine S_calli X (kX8_drifted l oW wD wK fW WD WK i mt (5 - da) su hf2 hf3 (by omega) (hod.2.2 i (by omega) (by omega)).2 (hod.2.2 i (by omega) (by omega)).1 (by omega) (by omega) (by omega)) (is := [3, 4, 5]) rfl (run_V X lkX10_68 3 rfl rfl (is := [3, 4, 5]) (avs := [iv i, iv mt, iv (5 - da), iv su]) (rest := [iv (i * 7 + da + 1), rv kB]) rfl rfl (nle rfl) ⟨nle rfl, nle rfl⟩ ⟨nle rfl, nle rfl⟩ dX10_foresee_66 (by decide) rfl) (fun z_12 u_10 hp_11 => ?_)
                obtain ⟨hz_13, hu_14⟩ := hp_11
                subst hz_13
                subst hu_14
                refine ⟨rfl, ?_⟩
                refine S_w (ws' := [(oK, ob 9 fK), (kW, ar 6 Kw), (kB, ar 42 Bv), (oW, ob 7 fW), (wD, ar 6 WD), (wK, ar 6 WK), (oS, ob 5 fS), (aB, ar 6 B)]) rfl ?_
                refine S_iast X 2 rfl (by omega) (by omega) (nle rfl) dX10_foresee_69 ?_
                refine S_w (ws' := [(oK, ob 9 fK), (kW, ar 6 Kw), (kB, ar 42 (uZ Bv (i * 7 + da + 1) (drF (WK i) (WD i) (5 - da) su mt))), (oW, ob 7 fW), (wD, ar 6 WD), (wK, ar 6 WK), (oS, ob 5 fS), (aB, ar 6 B)]) rfl ?_
                refine S_iinc X dX10_foresee_70 (nle rfl) hL14_5 ?_
                refine S_goto (tgt := 14) X dX10_foresee_73 (by decide) ?_
                exact ih14 (i + 1) (uZ Bv (i * 7 + da + 1) (drF (WK i) (WD i) (5 - da) su mt)) _ (by omega) (fun x d h0 h1 h2 h3 => by unfold uZ; split; exact hdr9; exact hBv x d h0 h1 h2 h3) (fun x h0 h1 => by unfold uZ; split; exact hdr9; exact hBu x h0 (by omega)) hL14_0 hL14_1 hL14_2 hL14_3 hL14_4 rfl (by omega)
              ·
                refine S_aload_n X dX10_foresee_29 rfl hL14_2 ?_
                refine S_get X fgX10_40_5 6 rfl hf6 dX10_foresee_30 ?_
                refine S_iload X dX10_foresee_33 hL14_5 ?_
                refine S_iald X 7 rfl (by omega) (by omega) (nle rfl) dX10_foresee_35 ?_
                refine S_goto (tgt := 43) X dX10_foresee_36 (by decide) ?_
                refine S_istore X dX10_foresee_43 (nle rfl) ?_
                refine S_aload_n X dX10_foresee_45 rfl hL14_0 ?_
                refine S_get X fgX10_15_9 0 rfl hf1 dX10_foresee_46 ?_
                refine S_iload X dX10_foresee_49 hL14_5 ?_
                refine S_iload X dX10_foresee_51 hL14_4 ?_
                refine S_calli X (kX10_slot l i da (by omega) (by omega)) (is := []) rfl (run_S X lkX10_43 (is := []) (avs := [iv i, iv da]) (rest := [rv kB]) rfl rfl (nle rfl) ⟨nle rfl, nle rfl⟩ ⟨nle rfl, nle rfl⟩ dX10_foresee_53 (by decide) rfl) (fun z_17 u_15 hp_16 => ?_)
                obtain ⟨hz_18, hu_19⟩ := hp_16
                subst hz_18
                subst hu_19
                refine ⟨rfl, ?_⟩
                refine S_w (ws' := [(oK, ob 9 fK), (kW, ar 6 Kw), (kB, ar 42 Bv), (oW, ob 7 fW), (wD, ar 6 WD), (wK, ar 6 WK), (oS, ob 5 fS), (aB, ar 6 B)]) rfl ?_
                refine S_aload_n X dX10_foresee_56 rfl hL14_1 ?_
                refine S_iload X dX10_foresee_57 hL14_5 ?_
                refine S_iload X dX10_foresee_59 rfl ?_
                refine S_iconst X dX10_foresee_61 ?_
                refine S_iload X dX10_foresee_62 hL14_4 ?_
                refine S_isub X dX10_foresee_64 ?_
                refine S_iload_n X dX10_foresee_65 rfl hL14_3 ?_
                have hdr9 := drF_in (WK i) (WD i) (5 - da) su (B i)
                refine S_calli X (kX8_drifted l oW wD wK fW WD WK i (B i) (5 - da) su hf2 hf3 (by omega) (hod.2.2 i (by omega) (by omega)).2 (hod.2.2 i (by omega) (by omega)).1 (by omega) (by omega) (by omega)) (is := [3, 4, 5]) rfl (run_V X lkX10_68 3 rfl rfl (is := [3, 4, 5]) (avs := [iv i, iv (B i), iv (5 - da), iv su]) (rest := [iv (i * 7 + da + 1), rv kB]) rfl rfl (nle rfl) ⟨nle rfl, nle rfl⟩ ⟨nle rfl, nle rfl⟩ dX10_foresee_66 (by decide) rfl) (fun z_22 u_20 hp_21 => ?_)
                obtain ⟨hz_23, hu_24⟩ := hp_21
                subst hz_23
                subst hu_24
                refine ⟨rfl, ?_⟩
                refine S_w (ws' := [(oK, ob 9 fK), (kW, ar 6 Kw), (kB, ar 42 Bv), (oW, ob 7 fW), (wD, ar 6 WD), (wK, ar 6 WK), (oS, ob 5 fS), (aB, ar 6 B)]) rfl ?_
                refine S_iast X 2 rfl (by omega) (by omega) (nle rfl) dX10_foresee_69 ?_
                refine S_w (ws' := [(oK, ob 9 fK), (kW, ar 6 Kw), (kB, ar 42 (uZ Bv (i * 7 + da + 1) (drF (WK i) (WD i) (5 - da) su (B i)))), (oW, ob 7 fW), (wD, ar 6 WD), (wK, ar 6 WK), (oS, ob 5 fS), (aB, ar 6 B)]) rfl ?_
                refine S_iinc X dX10_foresee_70 (nle rfl) hL14_5 ?_
                refine S_goto (tgt := 14) X dX10_foresee_73 (by decide) ?_
                exact ih14 (i + 1) (uZ Bv (i * 7 + da + 1) (drF (WK i) (WD i) (5 - da) su (B i))) _ (by omega) (fun x d h0 h1 h2 h3 => by unfold uZ; split; exact hdr9; exact hBv x d h0 h1 h2 h3) (fun x h0 h1 => by unfold uZ; split; exact hdr9; exact hBu x h0 (by omega)) hL14_0 hL14_1 hL14_2 hL14_3 hL14_4 rfl (by omega)
        exact lp14_3 (Int.toNat (pl + 1 - 0) + 1) 0 Bw _ (by omega) (hBw) (fun x h0 h1 => by omega) hL5_0 hL5_1 hL5_2 hL5_3 hL5_4 rfl (by omega)
  exact lp5_0 (Int.toNat (5 + 3) + 1) 5 0 Bh _ (by omega) (by omega) (fun x d h0 h1 h2 h3 => by omega) rfl rfl rfl rfl rfl (by omega)
set_option maxHeartbeats 4000000 in
set_option maxRecDepth 100000 in
theorem kX10_weigh (l : Launch) (oK : Nat) (fK : Nat → AV) (ro : Int) (le : Int) (fP : Nat → AV) (fS : Nat → AV) (pl : Int) (n : Int) (ec : Int) (mk : Int) (oP : Nat) (oS : Nat) (aA : Nat) (aT : Nat) (aW : Nat) (aS : Nat) (aB : Nat) (aF : Nat) (aH : Nat) (aL : Nat) (Ab : Int → Int) (Tm : Int → Int) (Wq : Int → Int) (Sp : Int → Int) (B : Int → Int) (Fo : Int → Int) (Ho : Int → Int) (Lt : Int → Int) (p0 : Int) (n0 : Int) (k0 : Int) (re : Int) (hf0 : fK 3 = rv oP) (hf1 : fK 4 = rv oS) (hf2 : fP 0 = rv aA) (hf3 : fP 1 = rv aT) (hf4 : fP 2 = rv aW) (hf5 : fP 3 = rv aS) (hf6 : fS 0 = iv pl) (hf7 : fS 1 = iv n) (hf8 : fS 2 = iv ec) (hf9 : fS 3 = iv mk) (hf10 : fS 4 = rv aB) (hf11 : fS 5 = rv aF) (hf12 : fS 6 = rv aH) (hf13 : fS 7 = rv aL) (hok : okS pl n ec Fo Ho B Lt) (hre : 0 ≤ re ∧ re ≤ 999999) (hro : 0 ≤ ro ∧ ro ≤ 1000000000) (hle : 0 ≤ le ∧ le ≤ 1000000000) : AMv l yX10_weigh cX10_weigh 4 3 0 0 [rv oK, iv re] [(oK, ob 9 (uF (uF fK 1 (iv ro)) 2 (iv le))), (oP, ob 4 (uF (uF (uF fP 6 (iv p0)) 7 (iv n0)) 8 (iv k0))), (aA, ar 1206 Ab), (aT, ar 180 Tm), (aW, ar 6 Wq), (aS, ar 30 Sp), (oS, ob 5 fS), (aB, ar 6 B), (aF, ar 6 Fo), (aH, ar 6 Ho), (aL, ar 6 Lt)] (fun u => ∃ r2 : Int, ∃ l2 : Int, ∃ p9 : Int, ∃ n9 : Int, ∃ k9 : Int, ∃ A2 : Int → Int, ∃ T2 : Int → Int, ∃ W2 : Int → Int, ∃ S2 : Int → Int, u = [(oK, ob 9 (uF (uF fK 1 (iv r2)) 2 (iv l2))), (oP, ob 4 (uF (uF (uF fP 6 (iv p9)) 7 (iv n9)) 8 (iv k9))), (aA, ar 1206 A2), (aT, ar 180 T2), (aW, ar 6 W2), (aS, ar 30 S2), (oS, ob 5 fS), (aB, ar 6 B), (aF, ar 6 Fo), (aH, ar 6 Ho), (aL, ar 6 Lt)] ∧ (0 ≤ r2 ∧ r2 ≤ 1000000000) ∧ (0 ≤ l2 ∧ l2 ≤ 1000000000)) := by
  refine AMv.of2 rfl (nle rfl) ?_
  intro D G A p e s m args below meth c Po hPo hnm X
  have hwr := hok.worst (mk := mk)
  refine S_iload_n X dX10_weigh_0 rfl rfl ?_
  refine S_aload_n X dX10_weigh_1 rfl rfl ?_
  refine S_get (v := iv ro) X fgX10_48_9 0 rfl rfl dX10_weigh_2 ?_
  refine S_icmp_ge (tgt := 17) X dX10_weigh_5 (by decide) (by omega) (by omega) (fun c_1 => ?_) (fun c_1 => ?_)
  ·
    refine S_aload_n X dX10_weigh_17 rfl rfl ?_
    refine S_get (v := iv le) X fgX10_51_9 0 rfl rfl dX10_weigh_18 ?_
    refine S_istore_n X dX10_weigh_21 rfl (nle rfl) ?_
    refine S_iload_n X dX10_weigh_22 rfl rfl ?_
    refine S_if_le (tgt := 41) X dX10_weigh_23 (by decide) (by omega) (fun c_2 => ?_) (fun c_2 => ?_)
    ·
      refine S_iload_n X dX10_weigh_41 rfl rfl ?_
      refine S_istore_n X dX10_weigh_42 rfl (nle rfl) ?_
      refine S_iload_n X dX10_weigh_43 rfl rfl ?_
      refine S_iload_n X dX10_weigh_44 rfl rfl ?_
      refine S_icmp_ge (tgt := 58) X dX10_weigh_45 (by decide) (by omega) (by omega) (fun c_3 => ?_) (fun c_3 => ?_)
      ·
        exact S_vret X (nle rfl) (nle rfl) dX10_weigh_58 (hPo _ (⟨_, _, _, _, _, _, _, _, _, rfl, by omega, by omega⟩))
      ·
        refine S_aload_n X dX10_weigh_48 rfl rfl ?_
        refine S_iload_n X dX10_weigh_49 rfl rfl ?_
        refine S_put X fpX10_51_9 0 rfl FT_i dX10_weigh_50 ?_
        refine S_w (ws' := [(oK, ob 9 (uF (uF fK 1 (iv ro)) 2 (iv le))), (oP, ob 4 (uF (uF (uF fP 6 (iv p0)) 7 (iv n0)) 8 (iv k0))), (aA, ar 1206 Ab), (aT, ar 180 Tm), (aW, ar 6 Wq), (aS, ar 30 Sp), (oS, ob 5 fS), (aB, ar 6 B), (aF, ar 6 Fo), (aH, ar 6 Ho), (aL, ar 6 Lt)]) (by simp only [List.set]; rw [uF_same (k := 2)]) ?_
        refine S_aload_n X dX10_weigh_53 rfl rfl ?_
        refine S_iload_n X dX10_weigh_54 rfl rfl ?_
        refine S_put X fpX10_48_9 0 rfl FT_i dX10_weigh_55 ?_
        refine S_w (ws' := [(oK, ob 9 (uF (uF fK 1 (iv re)) 2 (iv le))), (oP, ob 4 (uF (uF (uF fP 6 (iv p0)) 7 (iv n0)) 8 (iv k0))), (aA, ar 1206 Ab), (aT, ar 180 Tm), (aW, ar 6 Wq), (aS, ar 30 Sp), (oS, ob 5 fS), (aB, ar 6 B), (aF, ar 6 Fo), (aH, ar 6 Ho), (aL, ar 6 Lt)]) (by simp only [List.set]; rw [uF_mv (j := 2) (k := 1) (by decide), uF_same (k := 1)]) ?_
        exact S_vret X (nle rfl) (nle rfl) dX10_weigh_58 (hPo _ (⟨_, _, _, _, _, _, _, _, _, rfl, by omega, by omega⟩))
    ·
      refine S_aload_n X dX10_weigh_26 rfl rfl ?_
      refine S_get X fgX10_18_9 0 rfl hf0 dX10_weigh_27 ?_
      refine S_aload_n X dX10_weigh_30 rfl rfl ?_
      refine S_get X fgX10_22_9 0 rfl hf1 dX10_weigh_31 ?_
      refine S_iload_n X dX10_weigh_34 rfl rfl ?_
      refine S_calli X (kX4_perform l fP fS pl n ec mk oP oS aA aT aW aS aB aF aH aL Ab Tm Wq Sp B Fo Ho Lt p0 n0 k0 le hf2 hf3 hf4 hf5 hf6 hf7 hf8 hf9 hf10 hf11 hf12 hf13 hok (by omega)) (is := [1, 2, 3, 4, 5, 6, 7, 8, 9, 10]) rfl (run_V X lkX10_76 1 rfl rfl (is := [1, 2, 3, 4, 5, 6, 7, 8, 9, 10]) (avs := [rv oS, iv le]) (rest := []) rfl rfl (nle rfl) ⟨nle rfl, nle rfl⟩ ⟨nle rfl, nle rfl⟩ dX10_weigh_35 (by decide) rfl) (fun z_6 u_4 hp_5 => ?_)
      rcases hp_5 with ⟨A2_7, T2_8, W2_9, S2_10, hz_11, hu_12, hq_13⟩ | ⟨A2_14, T2_15, W2_16, S2_17, hz_18, hu_19, hq_20, hA2_21, hT2_22, hS2_23⟩
      ·
        replace hz_11 := Eq.symm hz_11
        subst hz_11
        subst hu_12
        refine ⟨rfl, ?_⟩
        refine S_w (ws' := [(oK, ob 9 (uF (uF fK 1 (iv ro)) 2 (iv le))), (oP, ob 4 (uF (uF (uF fP 6 (iv pl)) 7 (iv n)) 8 (iv mk))), (aA, ar 1206 A2_7), (aT, ar 180 T2_8), (aW, ar 6 W2_9), (aS, ar 30 S2_10), (oS, ob 5 fS), (aB, ar 6 B), (aF, ar 6 Fo), (aH, ar 6 Ho), (aL, ar 6 Lt)]) rfl ?_
        refine S_goto (tgt := 42) X dX10_weigh_38 (by decide) ?_
        refine S_istore_n X dX10_weigh_42 rfl (nle rfl) ?_
        refine S_iload_n X dX10_weigh_43 rfl rfl ?_
        refine S_iload_n X dX10_weigh_44 rfl rfl ?_
        refine S_icmp_ge (tgt := 58) X dX10_weigh_45 (by decide) (by omega) (by omega) (fun c_24 => ?_) (fun c_24 => ?_)
        ·
          exact S_vret X (nle rfl) (nle rfl) dX10_weigh_58 (hPo _ (⟨_, _, _, _, _, _, _, _, _, rfl, by omega, by omega⟩))
        ·
          refine S_aload_n X dX10_weigh_48 rfl rfl ?_
          refine S_iload_n X dX10_weigh_49 rfl rfl ?_
          refine S_put X fpX10_51_9 0 rfl FT_i dX10_weigh_50 ?_
          refine S_w (ws' := [(oK, ob 9 (uF (uF fK 1 (iv ro)) 2 (iv le))), (oP, ob 4 (uF (uF (uF fP 6 (iv pl)) 7 (iv n)) 8 (iv mk))), (aA, ar 1206 A2_7), (aT, ar 180 T2_8), (aW, ar 6 W2_9), (aS, ar 30 S2_10), (oS, ob 5 fS), (aB, ar 6 B), (aF, ar 6 Fo), (aH, ar 6 Ho), (aL, ar 6 Lt)]) (by simp only [List.set]; rw [uF_same (k := 2)]) ?_
          refine S_aload_n X dX10_weigh_53 rfl rfl ?_
          refine S_iload_n X dX10_weigh_54 rfl rfl ?_
          refine S_put X fpX10_48_9 0 rfl FT_i dX10_weigh_55 ?_
          refine S_w (ws' := [(oK, ob 9 (uF (uF fK 1 (iv re)) 2 (iv le))), (oP, ob 4 (uF (uF (uF fP 6 (iv pl)) 7 (iv n)) 8 (iv mk))), (aA, ar 1206 A2_7), (aT, ar 180 T2_8), (aW, ar 6 W2_9), (aS, ar 30 S2_10), (oS, ob 5 fS), (aB, ar 6 B), (aF, ar 6 Fo), (aH, ar 6 Ho), (aL, ar 6 Lt)]) (by simp only [List.set]; rw [uF_mv (j := 2) (k := 1) (by decide), uF_same (k := 1)]) ?_
          exact S_vret X (nle rfl) (nle rfl) dX10_weigh_58 (hPo _ (⟨_, _, _, _, _, _, _, _, _, rfl, by omega, by omega⟩))
      ·
        subst hz_18
        subst hu_19
        refine ⟨rfl, ?_⟩
        refine S_w (ws' := [(oK, ob 9 (uF (uF fK 1 (iv ro)) 2 (iv le))), (oP, ob 4 (uF (uF (uF fP 6 (iv pl)) 7 (iv n)) 8 (iv mk))), (aA, ar 1206 A2_14), (aT, ar 180 T2_15), (aW, ar 6 W2_16), (aS, ar 30 S2_17), (oS, ob 5 fS), (aB, ar 6 B), (aF, ar 6 Fo), (aH, ar 6 Ho), (aL, ar 6 Lt)]) rfl ?_
        refine S_goto (tgt := 42) X dX10_weigh_38 (by decide) ?_
        refine S_istore_n X dX10_weigh_42 rfl (nle rfl) ?_
        refine S_iload_n X dX10_weigh_43 rfl rfl ?_
        refine S_iload_n X dX10_weigh_44 rfl rfl ?_
        refine S_icmp_ge (tgt := 58) X dX10_weigh_45 (by decide) (by omega) (by omega) (fun c_25 => ?_) (fun c_25 => ?_)
        ·
          exact S_vret X (nle rfl) (nle rfl) dX10_weigh_58 (hPo _ (⟨_, _, _, _, _, _, _, _, _, rfl, by omega, by omega⟩))
        ·
          refine S_aload_n X dX10_weigh_48 rfl rfl ?_
          refine S_iload_n X dX10_weigh_49 rfl rfl ?_
          refine S_put X fpX10_51_9 0 rfl FT_i dX10_weigh_50 ?_
          refine S_w (ws' := [(oK, ob 9 (uF (uF fK 1 (iv ro)) 2 (iv (WO pl n ec mk Fo Ho B Lt)))), (oP, ob 4 (uF (uF (uF fP 6 (iv pl)) 7 (iv n)) 8 (iv mk))), (aA, ar 1206 A2_14), (aT, ar 180 T2_15), (aW, ar 6 W2_16), (aS, ar 30 S2_17), (oS, ob 5 fS), (aB, ar 6 B), (aF, ar 6 Fo), (aH, ar 6 Ho), (aL, ar 6 Lt)]) (by simp only [List.set]; rw [uF_same (k := 2)]) ?_
          refine S_aload_n X dX10_weigh_53 rfl rfl ?_
          refine S_iload_n X dX10_weigh_54 rfl rfl ?_
          refine S_put X fpX10_48_9 0 rfl FT_i dX10_weigh_55 ?_
          refine S_w (ws' := [(oK, ob 9 (uF (uF fK 1 (iv re)) 2 (iv (WO pl n ec mk Fo Ho B Lt)))), (oP, ob 4 (uF (uF (uF fP 6 (iv pl)) 7 (iv n)) 8 (iv mk))), (aA, ar 1206 A2_14), (aT, ar 180 T2_15), (aW, ar 6 W2_16), (aS, ar 30 S2_17), (oS, ob 5 fS), (aB, ar 6 B), (aF, ar 6 Fo), (aH, ar 6 Ho), (aL, ar 6 Lt)]) (by simp only [List.set]; rw [uF_mv (j := 2) (k := 1) (by decide), uF_same (k := 1)]) ?_
          exact S_vret X (nle rfl) (nle rfl) dX10_weigh_58 (hPo _ (⟨_, _, _, _, _, _, _, _, _, rfl, by omega, by omega⟩))
  ·
    refine S_aload_n X dX10_weigh_8 rfl rfl ?_
    refine S_get (v := iv le) X fgX10_51_9 0 rfl rfl dX10_weigh_9 ?_
    refine S_iconst X dX10_weigh_12 ?_
    refine S_iadd X dX10_weigh_13 ?_
    refine S_goto (tgt := 21) X dX10_weigh_14 (by decide) ?_
    refine S_istore_n X dX10_weigh_21 rfl (nle rfl) ?_
    refine S_iload_n X dX10_weigh_22 rfl rfl ?_
    refine S_if_le (tgt := 41) X dX10_weigh_23 (by decide) (by omega) (fun c_26 => ?_) (fun c_26 => ?_)
    ·
      refine S_iload_n X dX10_weigh_41 rfl rfl ?_
      refine S_istore_n X dX10_weigh_42 rfl (nle rfl) ?_
      refine S_iload_n X dX10_weigh_43 rfl rfl ?_
      refine S_iload_n X dX10_weigh_44 rfl rfl ?_
      refine S_icmp_ge (tgt := 58) X dX10_weigh_45 (by decide) (by omega) (by omega) (fun c_27 => ?_) (fun c_27 => ?_)
      ·
        exact S_vret X (nle rfl) (nle rfl) dX10_weigh_58 (hPo _ (⟨_, _, _, _, _, _, _, _, _, rfl, by omega, by omega⟩))
      ·
        refine S_aload_n X dX10_weigh_48 rfl rfl ?_
        refine S_iload_n X dX10_weigh_49 rfl rfl ?_
        refine S_put X fpX10_51_9 0 rfl FT_i dX10_weigh_50 ?_
        refine S_w (ws' := [(oK, ob 9 (uF (uF fK 1 (iv ro)) 2 (iv (le + 1)))), (oP, ob 4 (uF (uF (uF fP 6 (iv p0)) 7 (iv n0)) 8 (iv k0))), (aA, ar 1206 Ab), (aT, ar 180 Tm), (aW, ar 6 Wq), (aS, ar 30 Sp), (oS, ob 5 fS), (aB, ar 6 B), (aF, ar 6 Fo), (aH, ar 6 Ho), (aL, ar 6 Lt)]) (by simp only [List.set]; rw [uF_same (k := 2)]) ?_
        refine S_aload_n X dX10_weigh_53 rfl rfl ?_
        refine S_iload_n X dX10_weigh_54 rfl rfl ?_
        refine S_put X fpX10_48_9 0 rfl FT_i dX10_weigh_55 ?_
        refine S_w (ws' := [(oK, ob 9 (uF (uF fK 1 (iv re)) 2 (iv (le + 1)))), (oP, ob 4 (uF (uF (uF fP 6 (iv p0)) 7 (iv n0)) 8 (iv k0))), (aA, ar 1206 Ab), (aT, ar 180 Tm), (aW, ar 6 Wq), (aS, ar 30 Sp), (oS, ob 5 fS), (aB, ar 6 B), (aF, ar 6 Fo), (aH, ar 6 Ho), (aL, ar 6 Lt)]) (by simp only [List.set]; rw [uF_mv (j := 2) (k := 1) (by decide), uF_same (k := 1)]) ?_
        exact S_vret X (nle rfl) (nle rfl) dX10_weigh_58 (hPo _ (⟨_, _, _, _, _, _, _, _, _, rfl, by omega, by omega⟩))
    ·
      refine S_aload_n X dX10_weigh_26 rfl rfl ?_
      refine S_get X fgX10_18_9 0 rfl hf0 dX10_weigh_27 ?_
      refine S_aload_n X dX10_weigh_30 rfl rfl ?_
      refine S_get X fgX10_22_9 0 rfl hf1 dX10_weigh_31 ?_
      refine S_iload_n X dX10_weigh_34 rfl rfl ?_
      refine S_calli X (kX4_perform l fP fS pl n ec mk oP oS aA aT aW aS aB aF aH aL Ab Tm Wq Sp B Fo Ho Lt p0 n0 k0 (le + 1) hf2 hf3 hf4 hf5 hf6 hf7 hf8 hf9 hf10 hf11 hf12 hf13 hok (by omega)) (is := [1, 2, 3, 4, 5, 6, 7, 8, 9, 10]) rfl (run_V X lkX10_76 1 rfl rfl (is := [1, 2, 3, 4, 5, 6, 7, 8, 9, 10]) (avs := [rv oS, iv (le + 1)]) (rest := []) rfl rfl (nle rfl) ⟨nle rfl, nle rfl⟩ ⟨nle rfl, nle rfl⟩ dX10_weigh_35 (by decide) rfl) (fun z_30 u_28 hp_29 => ?_)
      rcases hp_29 with ⟨A2_31, T2_32, W2_33, S2_34, hz_35, hu_36, hq_37⟩ | ⟨A2_38, T2_39, W2_40, S2_41, hz_42, hu_43, hq_44, hA2_45, hT2_46, hS2_47⟩
      ·
        subst hz_35
        subst hu_36
        refine ⟨rfl, ?_⟩
        refine S_w (ws' := [(oK, ob 9 (uF (uF fK 1 (iv ro)) 2 (iv le))), (oP, ob 4 (uF (uF (uF fP 6 (iv pl)) 7 (iv n)) 8 (iv mk))), (aA, ar 1206 A2_31), (aT, ar 180 T2_32), (aW, ar 6 W2_33), (aS, ar 30 S2_34), (oS, ob 5 fS), (aB, ar 6 B), (aF, ar 6 Fo), (aH, ar 6 Ho), (aL, ar 6 Lt)]) rfl ?_
        refine S_goto (tgt := 42) X dX10_weigh_38 (by decide) ?_
        refine S_istore_n X dX10_weigh_42 rfl (nle rfl) ?_
        refine S_iload_n X dX10_weigh_43 rfl rfl ?_
        refine S_iload_n X dX10_weigh_44 rfl rfl ?_
        refine S_icmp_ge (tgt := 58) X dX10_weigh_45 (by decide) (by omega) (by omega) (fun c_48 => ?_) (fun c_48 => ?_)
        ·
          exact S_vret X (nle rfl) (nle rfl) dX10_weigh_58 (hPo _ (⟨_, _, _, _, _, _, _, _, _, rfl, by omega, by omega⟩))
        ·
          refine S_aload_n X dX10_weigh_48 rfl rfl ?_
          refine S_iload_n X dX10_weigh_49 rfl rfl ?_
          refine S_put X fpX10_51_9 0 rfl FT_i dX10_weigh_50 ?_
          refine S_w (ws' := [(oK, ob 9 (uF (uF fK 1 (iv ro)) 2 (iv (le + 1)))), (oP, ob 4 (uF (uF (uF fP 6 (iv pl)) 7 (iv n)) 8 (iv mk))), (aA, ar 1206 A2_31), (aT, ar 180 T2_32), (aW, ar 6 W2_33), (aS, ar 30 S2_34), (oS, ob 5 fS), (aB, ar 6 B), (aF, ar 6 Fo), (aH, ar 6 Ho), (aL, ar 6 Lt)]) (by simp only [List.set]; rw [uF_same (k := 2)]) ?_
          refine S_aload_n X dX10_weigh_53 rfl rfl ?_
          refine S_iload_n X dX10_weigh_54 rfl rfl ?_
          refine S_put X fpX10_48_9 0 rfl FT_i dX10_weigh_55 ?_
          refine S_w (ws' := [(oK, ob 9 (uF (uF fK 1 (iv re)) 2 (iv (le + 1)))), (oP, ob 4 (uF (uF (uF fP 6 (iv pl)) 7 (iv n)) 8 (iv mk))), (aA, ar 1206 A2_31), (aT, ar 180 T2_32), (aW, ar 6 W2_33), (aS, ar 30 S2_34), (oS, ob 5 fS), (aB, ar 6 B), (aF, ar 6 Fo), (aH, ar 6 Ho), (aL, ar 6 Lt)]) (by simp only [List.set]; rw [uF_mv (j := 2) (k := 1) (by decide), uF_same (k := 1)]) ?_
          exact S_vret X (nle rfl) (nle rfl) dX10_weigh_58 (hPo _ (⟨_, _, _, _, _, _, _, _, _, rfl, by omega, by omega⟩))
      ·
        subst hz_42
        subst hu_43
        refine ⟨rfl, ?_⟩
        refine S_w (ws' := [(oK, ob 9 (uF (uF fK 1 (iv ro)) 2 (iv le))), (oP, ob 4 (uF (uF (uF fP 6 (iv pl)) 7 (iv n)) 8 (iv mk))), (aA, ar 1206 A2_38), (aT, ar 180 T2_39), (aW, ar 6 W2_40), (aS, ar 30 S2_41), (oS, ob 5 fS), (aB, ar 6 B), (aF, ar 6 Fo), (aH, ar 6 Ho), (aL, ar 6 Lt)]) rfl ?_
        refine S_goto (tgt := 42) X dX10_weigh_38 (by decide) ?_
        refine S_istore_n X dX10_weigh_42 rfl (nle rfl) ?_
        refine S_iload_n X dX10_weigh_43 rfl rfl ?_
        refine S_iload_n X dX10_weigh_44 rfl rfl ?_
        refine S_icmp_ge (tgt := 58) X dX10_weigh_45 (by decide) (by omega) (by omega) (fun c_49 => ?_) (fun c_49 => ?_)
        ·
          exact S_vret X (nle rfl) (nle rfl) dX10_weigh_58 (hPo _ (⟨_, _, _, _, _, _, _, _, _, rfl, by omega, by omega⟩))
        ·
          refine S_aload_n X dX10_weigh_48 rfl rfl ?_
          refine S_iload_n X dX10_weigh_49 rfl rfl ?_
          refine S_put X fpX10_51_9 0 rfl FT_i dX10_weigh_50 ?_
          refine S_w (ws' := [(oK, ob 9 (uF (uF fK 1 (iv ro)) 2 (iv (WO pl n ec mk Fo Ho B Lt)))), (oP, ob 4 (uF (uF (uF fP 6 (iv pl)) 7 (iv n)) 8 (iv mk))), (aA, ar 1206 A2_38), (aT, ar 180 T2_39), (aW, ar 6 W2_40), (aS, ar 30 S2_41), (oS, ob 5 fS), (aB, ar 6 B), (aF, ar 6 Fo), (aH, ar 6 Ho), (aL, ar 6 Lt)]) (by simp only [List.set]; rw [uF_same (k := 2)]) ?_
          refine S_aload_n X dX10_weigh_53 rfl rfl ?_
          refine S_iload_n X dX10_weigh_54 rfl rfl ?_
          refine S_put X fpX10_48_9 0 rfl FT_i dX10_weigh_55 ?_
          refine S_w (ws' := [(oK, ob 9 (uF (uF fK 1 (iv re)) 2 (iv (WO pl n ec mk Fo Ho B Lt)))), (oP, ob 4 (uF (uF (uF fP 6 (iv pl)) 7 (iv n)) 8 (iv mk))), (aA, ar 1206 A2_38), (aT, ar 180 T2_39), (aW, ar 6 W2_40), (aS, ar 30 S2_41), (oS, ob 5 fS), (aB, ar 6 B), (aF, ar 6 Fo), (aH, ar 6 Ho), (aL, ar 6 Lt)]) (by simp only [List.set]; rw [uF_mv (j := 2) (k := 1) (by decide), uF_same (k := 1)]) ?_
          exact S_vret X (nle rfl) (nle rfl) dX10_weigh_58 (hPo _ (⟨_, _, _, _, _, _, _, _, _, rfl, by omega, by omega⟩))
def C_X10_choose (l : Launch) (K : Nat) (d : Nat) : Prop := ∀ (oK : Nat) (fK : Nat → AV) (ro : Int) (le : Int) (kB : Nat) (Bh : Int → Int) (fP : Nat → AV) (fS : Nat → AV) (pl : Int) (n : Int) (ec : Int) (mk : Int) (oP : Nat) (oS : Nat) (aA : Nat) (aT : Nat) (aW : Nat) (aS : Nat) (aB : Nat) (aF : Nat) (aH : Nat) (aL : Nat) (Ab : Int → Int) (Tm : Int → Int) (Wq : Int → Int) (Sp : Int → Int) (B : Int → Int) (Fo : Int → Int) (Ho : Int → Int) (Lt : Int → Int) (p0 : Int) (n0 : Int) (k0 : Int) (da : Int) (vi : Int) (re : Int) (di : Int), (fK 3 = rv oP) → (fK 4 = rv oS) → (fK 6 = rv kB) → (fP 0 = rv aA) → (fP 1 = rv aT) → (fP 2 = rv aW) → (fP 3 = rv aS) → (fS 0 = iv pl) → (fS 1 = iv n) → (fS 2 = iv ec) → (fS 3 = iv mk) → (fS 4 = rv aB) → (fS 5 = rv aF) → (fS 6 = rv aH) → (fS 7 = rv aL) → (okS pl n ec Fo Ho B Lt) → (da + 1 = (K : Int) ∧ K ≤ 6) → (inR vi) → (0 ≤ re ∧ re ≤ mxd K) → (di = mxd K + 1) → (∀ x d, 0 ≤ x → x < pl → -1 ≤ d → d ≤ 5 → 1 ≤ Bh (x * 7 + d + 1) ∧ Bh (x * 7 + d + 1) ≤ 199) → (0 ≤ ro ∧ ro ≤ 1000000000) → (0 ≤ le ∧ le ≤ 1000000000) → AMv l yX10_choose cX10_choose 9 d 0 0 [rv oK, iv da, iv vi, iv re, iv di] [(oK, ob 9 (uF (uF fK 1 (iv ro)) 2 (iv le))), (oP, ob 4 (uF (uF (uF fP 6 (iv p0)) 7 (iv n0)) 8 (iv k0))), (aA, ar 1206 Ab), (aT, ar 180 Tm), (aW, ar 6 Wq), (aS, ar 30 Sp), (oS, ob 5 fS), (aB, ar 6 B), (aF, ar 6 Fo), (aH, ar 6 Ho), (aL, ar 6 Lt), (kB, ar 42 Bh)] (fun u => ∃ r2 : Int, ∃ l2 : Int, ∃ p9 : Int, ∃ n9 : Int, ∃ k9 : Int, ∃ A2 : Int → Int, ∃ T2 : Int → Int, ∃ W2 : Int → Int, ∃ S2 : Int → Int, ∃ B2 : Int → Int, u = [(oK, ob 9 (uF (uF fK 1 (iv r2)) 2 (iv l2))), (oP, ob 4 (uF (uF (uF fP 6 (iv p9)) 7 (iv n9)) 8 (iv k9))), (aA, ar 1206 A2), (aT, ar 180 T2), (aW, ar 6 W2), (aS, ar 30 S2), (oS, ob 5 fS), (aB, ar 6 B2), (aF, ar 6 Fo), (aH, ar 6 Ho), (aL, ar 6 Lt), (kB, ar 42 Bh)] ∧ (0 ≤ r2 ∧ r2 ≤ 1000000000) ∧ (0 ≤ l2 ∧ l2 ≤ 1000000000) ∧ (∀ x, 0 ≤ x → x < pl → 1 ≤ B2 x ∧ B2 x ≤ 199))
set_option maxHeartbeats 4000000 in
set_option maxRecDepth 100000 in
theorem kX10_choose (l : Launch) (K : Nat) (d : Nat) (hnx : ∀ K2 : Nat, K = K2 + 1 → C_X10_choose l K2 (d + 3)) : C_X10_choose l K (d + 4) := by
  intro oK fK ro le kB Bh fP fS pl n ec mk oP oS aA aT aW aS aB aF aH aL Ab Tm Wq Sp B Fo Ho Lt p0 n0 k0 da vi re di hf0 hf1 hf2 hf3 hf4 hf5 hf6 hf7 hf8 hf9 hf10 hf11 hf12 hf13 hf14 hok hda hvi hre hdi hbh hro hle
  refine AMv.of2 rfl (nle rfl) ?_
  intro D G A p e s m args below meth c Po hPo hnm X
  have hpl := hok.2.1
  have hpl1 := hok.1
  have hn1 := hok.2.2.1
  have hn2 := hok.2.2.2.1
  have hec := hok.2.2.2.2
  have hmx := mxd_le K
  refine S_iload_n X dX10_choose_0 rfl rfl ?_
  refine S_if_ge (tgt := 10) X dX10_choose_1 (by decide) (by omega) (fun c_1 => ?_) (fun c_1 => ?_)
  ·
    obtain ⟨K2, hK2⟩ : ∃ K2, K = K2 + 1 := ⟨K - 1, by omega⟩
    have hmq := mxd_q (K := K2) (by omega)
    rw [← hK2] at hmq
    refine S_aload_n X dX10_choose_10 rfl rfl ?_
    refine S_get X fgX10_22_9 0 rfl hf1 dX10_choose_11 ?_
    refine S_get X fgX10_40_5 6 rfl hf11 dX10_choose_14 ?_
    refine S_astore X dX10_choose_17 (nle rfl) ?_
    refine S_iload_n X dX10_choose_19 rfl rfl ?_
    refine S_iload_n X dX10_choose_20 rfl rfl ?_
    refine S_ineg X dX10_choose_21 ?_
    refine S_iand X dX10_choose_22 ?_
    refine S_istore X dX10_choose_23 (nle rfl) ?_
    refine S_iconst X dX10_choose_25 ?_
    refine S_istore X dX10_choose_26 (nle rfl) ?_
    have lp28_1 : ∀ (N : Nat) (i : Int) (r1 : Int) (l1 : Int) (Bv : Int → Int) (Aw : Int → Int) (Tw : Int → Int) (Ww : Int → Int) (Sw : Int → Int) (pw : Int) (nw : Int) (kw : Int) (L : Nat → Option AV), 0 ≤ i ∧ i ≤ pl → 0 ≤ r1 ∧ r1 ≤ 1000000000 → 0 ≤ l1 ∧ l1 ≤ 1000000000 → (∀ x, 0 ≤ x → x < pl → 1 ≤ Bv x ∧ Bv x ≤ 199) → L 0 = some (rv oK) → L 1 = some (iv da) → L 2 = some (iv vi) → L 3 = some (iv re) → L 4 = some (iv di) → L 5 = some (rv aB) → L 6 = some (iv (zAnd vi (-vi))) → L 7 = some (iv i) → pl + 1 - i < (N : Int) → S_ p l e (rmD (d + 4) 0 0) s m args below meth c (MQ below (QcV D G A Po) args s 0 0 A) D G A 9 0 0 28 L [] [(oK, ob 9 (uF (uF fK 1 (iv r1)) 2 (iv l1))), (oP, ob 4 (uF (uF (uF fP 6 (iv pw)) 7 (iv nw)) 8 (iv kw))), (aA, ar 1206 Aw), (aT, ar 180 Tw), (aW, ar 6 Ww), (aS, ar 30 Sw), (oS, ob 5 fS), (aB, ar 6 Bv), (aF, ar 6 Fo), (aH, ar 6 Ho), (aL, ar 6 Lt), (kB, ar 42 Bh)] := by
      intro N
      induction N with
      | zero =>
        intro i r1 l1 Bv Aw Tw Ww Sw pw nw kw L28 hi hr1 hr2 hBv hL28_0 hL28_1 hL28_2 hL28_3 hL28_4 hL28_5 hL28_6 hL28_7 hN28
        exfalso; omega
      | succ N ih28 =>
        intro i r1 l1 Bv Aw Tw Ww Sw pw nw kw L28 hi hr1 hr2 hBv hL28_0 hL28_1 hL28_2 hL28_3 hL28_4 hL28_5 hL28_6 hL28_7 hN28
        refine S_iload X dX10_choose_28 hL28_7 ?_
        refine S_aload_n X dX10_choose_30 rfl hL28_0 ?_
        refine S_get X fgX10_22_9 0 rfl hf1 dX10_choose_31 ?_
        refine S_get X fgX10_36_5 6 rfl hf7 dX10_choose_34 ?_
        refine S_icmp_ge (tgt := 144) X dX10_choose_37 (by decide) (by omega) (by omega) (fun c_2 => ?_) (fun c_2 => ?_)
        ·
          exact S_vret X (nle rfl) (nle rfl) dX10_choose_144 (hPo _ (⟨_, _, _, _, _, _, _, _, _, _, rfl, hr1, hr2, hBv⟩))
        ·
          have hz1 := zShl_r 1 i
          have hz2 := zAnd_r vi (-vi)
          have hz3 := zAnd_r vi (zShl 1 i)
          have hd5 : i * di ≤ 5 * di := Int.mul_le_mul_of_nonneg_right (by omega) (by omega)
          have hd0 : 0 ≤ i * di := Int.mul_nonneg (by omega) (by omega)
          have hmd : 0 ≤ re + i * di ∧ re + i * di ≤ mxd K2 := by omega
          have hmd2 : di * 10 = mxd K2 + 1 := by omega
          refine S_iconst X dX10_choose_40 ?_
          refine S_iload X dX10_choose_41 hL28_7 ?_
          refine S_ishl X dX10_choose_43 ?_
          refine S_istore X dX10_choose_44 (nle rfl) ?_
          refine S_iload X dX10_choose_46 rfl ?_
          refine S_iload X dX10_choose_48 hL28_6 ?_
          refine S_icmp_ne (tgt := 76) X dX10_choose_50 (by decide) (by omega) (by omega) (fun c_3 => ?_) (fun c_3 => ?_)
          ·
            refine S_iload_n X dX10_choose_76 rfl hL28_2 ?_
            refine S_iload X dX10_choose_77 rfl ?_
            refine S_iand X dX10_choose_79 ?_
            refine S_if_ne (tgt := 138) X dX10_choose_80 (by decide) (by omega) (fun c_4 => ?_) (fun c_4 => ?_)
            ·
              refine S_iinc X dX10_choose_138 (nle rfl) hL28_7 ?_
              refine S_goto (tgt := 28) X dX10_choose_141 (by decide) ?_
              exact ih28 (i + 1) r1 l1 Bv Aw Tw Ww Sw pw nw kw _ (by omega) (by first | exact h91 | exact hr1) (by first | exact h92 | exact hr2) (by first | exact hBv | exact h93 | exact (fun x h0 h1 => by unfold uZ; split; exact hb8; exact h93 x h0 h1)) hL28_0 hL28_1 hL28_2 hL28_3 hL28_4 hL28_5 hL28_6 rfl (by omega)
            ·
              refine S_aload X dX10_choose_83 hL28_5 ?_
              refine S_iload X dX10_choose_85 hL28_7 ?_
              refine S_aload_n X dX10_choose_87 rfl hL28_0 ?_
              refine S_get X fgX10_15_9 0 rfl hf2 dX10_choose_88 ?_
              refine S_iload X dX10_choose_91 hL28_7 ?_
              refine S_iload_n X dX10_choose_93 rfl hL28_1 ?_
              have hb9 := hbh i da (by omega) (by omega) (by omega) (by omega)
              refine S_calli X (kX10_slot l i da (by omega) (by omega)) (is := []) rfl (run_S X lkX10_43 (is := []) (avs := [iv i, iv da]) (rest := [rv kB, iv i, rv aB]) rfl rfl (nle rfl) ⟨by simp only [rmD]; omega, by simp only [rmD]; omega⟩ ⟨nle rfl, nle rfl⟩ dX10_choose_94 (by decide) rfl) (fun z_7 u_5 hp_6 => ?_)
              obtain ⟨hz_8, hu_9⟩ := hp_6
              subst hz_8
              subst hu_9
              refine ⟨rfl, ?_⟩
              refine S_w (ws' := [(oK, ob 9 (uF (uF fK 1 (iv r1)) 2 (iv l1))), (oP, ob 4 (uF (uF (uF fP 6 (iv pw)) 7 (iv nw)) 8 (iv kw))), (aA, ar 1206 Aw), (aT, ar 180 Tw), (aW, ar 6 Ww), (aS, ar 30 Sw), (oS, ob 5 fS), (aB, ar 6 Bv), (aF, ar 6 Fo), (aH, ar 6 Ho), (aL, ar 6 Lt), (kB, ar 42 Bh)]) rfl ?_
              refine S_iald X 11 rfl (by omega) (by omega) (nle rfl) dX10_choose_97 ?_
              refine S_iast X 7 rfl (by omega) (by omega) (nle rfl) dX10_choose_98 ?_
              refine S_w (ws' := [(oK, ob 9 (uF (uF fK 1 (iv r1)) 2 (iv l1))), (oP, ob 4 (uF (uF (uF fP 6 (iv pw)) 7 (iv nw)) 8 (iv kw))), (aA, ar 1206 Aw), (aT, ar 180 Tw), (aW, ar 6 Ww), (aS, ar 30 Sw), (oS, ob 5 fS), (aB, ar 6 (uZ Bv i (Bh (i * 7 + da + 1)))), (aF, ar 6 Fo), (aH, ar 6 Ho), (aL, ar 6 Lt), (kB, ar 42 Bh)]) rfl ?_
              refine S_aload_n X dX10_choose_99 rfl hL28_0 ?_
              refine S_iload_n X dX10_choose_100 rfl hL28_1 ?_
              refine S_iconst X dX10_choose_101 ?_
              refine S_isub X dX10_choose_102 ?_
              refine S_iload_n X dX10_choose_103 rfl hL28_2 ?_
              refine S_iload X dX10_choose_104 rfl ?_
              refine S_ior X dX10_choose_106 ?_
              refine S_iload_n X dX10_choose_107 rfl hL28_3 ?_
              refine S_iload X dX10_choose_108 hL28_7 ?_
              refine S_iload X dX10_choose_110 hL28_4 ?_
              refine S_imul X dX10_choose_112 ?_
              refine S_iadd X dX10_choose_113 ?_
              refine S_iload X dX10_choose_114 hL28_4 ?_
              refine S_bipush X dX10_choose_116 rfl ?_
              refine S_imul X dX10_choose_118 ?_
              refine S_callv X ((hnx K2 hK2) oK fK r1 l1 kB Bh fP fS pl n ec mk oP oS aA aT aW aS aB aF aH aL Aw Tw Ww Sw (uZ Bv i (Bh (i * 7 + da + 1))) Fo Ho Lt pw nw kw (da - 1) (zOr vi (zShl 1 i)) (re + (i * di)) (di * 10) hf0 hf1 hf2 hf3 hf4 hf5 hf6 hf7 hf8 hf9 hf10 hf11 hf12 hf13 hf14 (hok.b2 (fun x h0 h1 => by unfold uZ; split; exact hb9; exact hBv x h0 h1)) (by omega) (zOr_r _ _) hmd hmd2 hbh (by omega) (by omega)) (is := [0, 1, 2, 3, 4, 5, 6, 7, 8, 9, 10, 11]) rfl (run_S X lkX10_54 (is := [0, 1, 2, 3, 4, 5, 6, 7, 8, 9, 10, 11]) (avs := [rv oK, iv (da - 1), iv (zOr vi (zShl 1 i)), iv (re + (i * di)), iv (di * 10)]) (rest := []) rfl rfl (nle rfl) ⟨by simp only [rmD]; omega, by simp only [rmD]; omega⟩ ⟨nle rfl, nle rfl⟩ dX10_choose_119 (by decide) rfl) (fun u_10 hp_11 => ?_)
              obtain ⟨r2_13, l2_14, p9_15, n9_16, k9_17, A2_18, T2_19, W2_20, S2_21, B2_22, hu_24, h1_25, h2_26, hB2_27⟩ := hp_11
              subst hu_24
              refine ⟨rfl, ?_⟩
              refine S_w (ws' := [(oK, ob 9 (uF (uF fK 1 (iv r2_13)) 2 (iv l2_14))), (oP, ob 4 (uF (uF (uF fP 6 (iv p9_15)) 7 (iv n9_16)) 8 (iv k9_17))), (aA, ar 1206 A2_18), (aT, ar 180 T2_19), (aW, ar 6 W2_20), (aS, ar 30 S2_21), (oS, ob 5 fS), (aB, ar 6 B2_22), (aF, ar 6 Fo), (aH, ar 6 Ho), (aL, ar 6 Lt), (kB, ar 42 Bh)]) rfl ?_
              have h91 := h1_25
              have h92 := h2_26
              have h93 := hB2_27
              refine S_aload X dX10_choose_122 hL28_5 ?_
              refine S_iload X dX10_choose_124 hL28_7 ?_
              refine S_aload_n X dX10_choose_126 rfl hL28_0 ?_
              refine S_get X fgX10_15_9 0 rfl hf2 dX10_choose_127 ?_
              refine S_iload X dX10_choose_130 hL28_7 ?_
              refine S_iconst X dX10_choose_132 ?_
              have hb8 := hbh i (-1) (by omega) (by omega) (by omega) (by omega)
              refine S_calli X (kX10_slot l i (-1) (by omega) (by omega)) (is := []) rfl (run_S X lkX10_43 (is := []) (avs := [iv i, iv (-1)]) (rest := [rv kB, iv i, rv aB]) rfl rfl (nle rfl) ⟨by simp only [rmD]; omega, by simp only [rmD]; omega⟩ ⟨nle rfl, nle rfl⟩ dX10_choose_133 (by decide) rfl) (fun z_30 u_28 hp_29 => ?_)
              obtain ⟨hz_31, hu_32⟩ := hp_29
              subst hz_31
              subst hu_32
              refine ⟨rfl, ?_⟩
              refine S_w (ws' := [(oK, ob 9 (uF (uF fK 1 (iv r2_13)) 2 (iv l2_14))), (oP, ob 4 (uF (uF (uF fP 6 (iv p9_15)) 7 (iv n9_16)) 8 (iv k9_17))), (aA, ar 1206 A2_18), (aT, ar 180 T2_19), (aW, ar 6 W2_20), (aS, ar 30 S2_21), (oS, ob 5 fS), (aB, ar 6 B2_22), (aF, ar 6 Fo), (aH, ar 6 Ho), (aL, ar 6 Lt), (kB, ar 42 Bh)]) rfl ?_
              refine S_iald X 11 rfl (by omega) (by omega) (nle rfl) dX10_choose_136 ?_
              refine S_iast X 7 rfl (by omega) (by omega) (nle rfl) dX10_choose_137 ?_
              refine S_w (ws' := [(oK, ob 9 (uF (uF fK 1 (iv r2_13)) 2 (iv l2_14))), (oP, ob 4 (uF (uF (uF fP 6 (iv p9_15)) 7 (iv n9_16)) 8 (iv k9_17))), (aA, ar 1206 A2_18), (aT, ar 180 T2_19), (aW, ar 6 W2_20), (aS, ar 30 S2_21), (oS, ob 5 fS), (aB, ar 6 (uZ B2_22 i (Bh (i * 7 + (-1) + 1)))), (aF, ar 6 Fo), (aH, ar 6 Ho), (aL, ar 6 Lt), (kB, ar 42 Bh)]) rfl ?_
              refine S_iinc X dX10_choose_138 (nle rfl) hL28_7 ?_
              refine S_goto (tgt := 28) X dX10_choose_141 (by decide) ?_
              exact ih28 (i + 1) r2_13 l2_14 (uZ B2_22 i (Bh (i * 7 + (-1) + 1))) A2_18 T2_19 W2_20 S2_21 p9_15 n9_16 k9_17 _ (by omega) (by first | exact h91 | exact hr1) (by first | exact h92 | exact hr2) (by first | exact hBv | exact h93 | exact (fun x h0 h1 => by unfold uZ; split; exact hb8; exact h93 x h0 h1)) hL28_0 hL28_1 hL28_2 hL28_3 hL28_4 hL28_5 hL28_6 rfl (by omega)
          ·
            refine S_aload_n X dX10_choose_53 rfl hL28_0 ?_
            refine S_iload_n X dX10_choose_54 rfl hL28_1 ?_
            refine S_iconst X dX10_choose_55 ?_
            refine S_isub X dX10_choose_56 ?_
            refine S_iload_n X dX10_choose_57 rfl hL28_2 ?_
            refine S_iload_n X dX10_choose_58 rfl hL28_3 ?_
            refine S_iload X dX10_choose_59 hL28_7 ?_
            refine S_iload X dX10_choose_61 hL28_4 ?_
            refine S_imul X dX10_choose_63 ?_
            refine S_iadd X dX10_choose_64 ?_
            refine S_iload X dX10_choose_65 hL28_4 ?_
            refine S_bipush X dX10_choose_67 rfl ?_
            refine S_imul X dX10_choose_69 ?_
            refine S_callv X ((hnx K2 hK2) oK fK r1 l1 kB Bh fP fS pl n ec mk oP oS aA aT aW aS aB aF aH aL Aw Tw Ww Sw Bv Fo Ho Lt pw nw kw (da - 1) vi (re + (i * di)) (di * 10) hf0 hf1 hf2 hf3 hf4 hf5 hf6 hf7 hf8 hf9 hf10 hf11 hf12 hf13 hf14 (hok.b2 hBv) (by omega) hvi hmd hmd2 hbh (by omega) (by omega)) (is := [0, 1, 2, 3, 4, 5, 6, 7, 8, 9, 10, 11]) rfl (run_S X lkX10_54 (is := [0, 1, 2, 3, 4, 5, 6, 7, 8, 9, 10, 11]) (avs := [rv oK, iv (da - 1), iv vi, iv (re + (i * di)), iv (di * 10)]) (rest := []) rfl rfl (nle rfl) ⟨by simp only [rmD]; omega, by simp only [rmD]; omega⟩ ⟨nle rfl, nle rfl⟩ dX10_choose_70 (by decide) rfl) (fun u_33 hp_34 => ?_)
            obtain ⟨r2_36, l2_37, p9_38, n9_39, k9_40, A2_41, T2_42, W2_43, S2_44, B2_45, hu_47, h1_48, h2_49, hB2_50⟩ := hp_34
            subst hu_47
            refine ⟨rfl, ?_⟩
            refine S_w (ws' := [(oK, ob 9 (uF (uF fK 1 (iv r2_36)) 2 (iv l2_37))), (oP, ob 4 (uF (uF (uF fP 6 (iv p9_38)) 7 (iv n9_39)) 8 (iv k9_40))), (aA, ar 1206 A2_41), (aT, ar 180 T2_42), (aW, ar 6 W2_43), (aS, ar 30 S2_44), (oS, ob 5 fS), (aB, ar 6 B2_45), (aF, ar 6 Fo), (aH, ar 6 Ho), (aL, ar 6 Lt), (kB, ar 42 Bh)]) rfl ?_
            have h91 := h1_48
            have h92 := h2_49
            have h93 := hB2_50
            refine S_goto (tgt := 138) X dX10_choose_73 (by decide) ?_
            refine S_iinc X dX10_choose_138 (nle rfl) hL28_7 ?_
            refine S_goto (tgt := 28) X dX10_choose_141 (by decide) ?_
            exact ih28 (i + 1) r2_36 l2_37 B2_45 A2_41 T2_42 W2_43 S2_44 p9_38 n9_39 k9_40 _ (by omega) (by first | exact h91 | exact hr1) (by first | exact h92 | exact hr2) (by first | exact hBv | exact h93 | exact (fun x h0 h1 => by unfold uZ; split; exact hb8; exact h93 x h0 h1)) hL28_0 hL28_1 hL28_2 hL28_3 hL28_4 hL28_5 hL28_6 rfl (by omega)
    exact lp28_1 (Int.toNat (pl + 1 - 0) + 1) 0 ro le B Ab Tm Wq Sp p0 n0 k0 _ (by omega) (hro) (hle) (fun x h0 h1 => (hok.2.2.2.2.2.2 x h0 h1).2.2.1) rfl rfl rfl rfl rfl rfl rfl rfl (by omega)
  ·
    refine S_aload_n X dX10_choose_4 rfl rfl ?_
    refine S_iload_n X dX10_choose_5 rfl rfl ?_
    refine S_callv X (kX10_weigh l oK fK ro le fP fS pl n ec mk oP oS aA aT aW aS aB aF aH aL Ab Tm Wq Sp B Fo Ho Lt p0 n0 k0 re hf0 hf1 hf3 hf4 hf5 hf6 hf7 hf8 hf9 hf10 hf11 hf12 hf13 hf14 hok (by omega) (by omega) (by omega)) (is := [0, 1, 2, 3, 4, 5, 6, 7, 8, 9, 10]) rfl (run_V X lkX10_72 0 rfl rfl (is := [0, 1, 2, 3, 4, 5, 6, 7, 8, 9, 10]) (avs := [iv re]) (rest := []) rfl rfl (nle rfl) ⟨by simp only [rmD]; omega, by simp only [rmD]; omega⟩ ⟨nle rfl, nle rfl⟩ dX10_choose_6 (by decide) rfl) (fun u_51 hp_52 => ?_)
    obtain ⟨r2_54, l2_55, p9_56, n9_57, k9_58, A2_59, T2_60, W2_61, S2_62, hu_64, h1_65, h2_66⟩ := hp_52
    subst hu_64
    refine ⟨rfl, ?_⟩
    refine S_w (ws' := [(oK, ob 9 (uF (uF fK 1 (iv r2_54)) 2 (iv l2_55))), (oP, ob 4 (uF (uF (uF fP 6 (iv p9_56)) 7 (iv n9_57)) 8 (iv k9_58))), (aA, ar 1206 A2_59), (aT, ar 180 T2_60), (aW, ar 6 W2_61), (aS, ar 30 S2_62), (oS, ob 5 fS), (aB, ar 6 B), (aF, ar 6 Fo), (aH, ar 6 Ho), (aL, ar 6 Lt), (kB, ar 42 Bh)]) rfl ?_
    have h91 := h1_65
    have h92 := h2_66
    exact S_vret X (nle rfl) (nle rfl) dX10_choose_9 (hPo _ (⟨_, _, _, _, _, _, _, _, _, _, rfl, h91, h92, fun x h0 h1 => (hok.2.2.2.2.2.2 x h0 h1).2.2.1⟩))
theorem cho_all (l : Launch) : ∀ K : Nat, C_X10_choose l K (4 + K) := by
  intro K
  induction K with
  | zero => exact kX10_choose l 0 0 (fun K2 h => by omega)
  | succ K ih =>
    rw [show 4 + (K + 1) = (K + 1) + 4 by omega]
    refine kX10_choose l (K + 1) (K + 1) (fun K2 h => ?_)
    cases h
    rw [show K + 1 + 3 = 4 + K by omega]
    exact ih
end pt_71cf5
/- 72.tail2.lean.txt -/
section pt_72tail2
/-! THE LAWS' CELLS -/
def LwS : Type := (Nat × Nat × Nat × Nat) × (Nat → AV) × (Nat × Nat) × (Int → Int) × List (List Int × List Int)
def LwY : Type := (Int → Int) × (Int → Int) × Int × Int
def LwS.o (x : LwS) : Nat := (show (Nat × Nat × Nat × Nat) × (Nat → AV) × (Nat × Nat) × (Int → Int) × List (List Int × List Int) from x).1.1
def LwS.c (x : LwS) : Nat := (show (Nat × Nat × Nat × Nat) × (Nat → AV) × (Nat × Nat) × (Int → Int) × List (List Int × List Int) from x).1.2.1
def LwS.s (x : LwS) : Nat := (show (Nat × Nat × Nat × Nat) × (Nat → AV) × (Nat × Nat) × (Int → Int) × List (List Int × List Int) from x).1.2.2.1
def LwS.k (x : LwS) : Nat := (show (Nat × Nat × Nat × Nat) × (Nat → AV) × (Nat × Nat) × (Int → Int) × List (List Int × List Int) from x).1.2.2.2
def LwS.f (x : LwS) : Nat → AV := (show (Nat × Nat × Nat × Nat) × (Nat → AV) × (Nat × Nat) × (Int → Int) × List (List Int × List Int) from x).2.1
def LwS.nc (x : LwS) : Nat := (show (Nat × Nat × Nat × Nat) × (Nat → AV) × (Nat × Nat) × (Int → Int) × List (List Int × List Int) from x).2.2.1.1
def LwS.nk (x : LwS) : Nat := (show (Nat × Nat × Nat × Nat) × (Nat → AV) × (Nat × Nat) × (Int → Int) × List (List Int × List Int) from x).2.2.1.2
def LwS.CC (x : LwS) : Int → Int := (show (Nat × Nat × Nat × Nat) × (Nat → AV) × (Nat × Nat) × (Int → Int) × List (List Int × List Int) from x).2.2.2.1
def LwS.cs (x : LwS) : List (List Int × List Int) := (show (Nat × Nat × Nat × Nat) × (Nat → AV) × (Nat × Nat) × (Int → Int) × List (List Int × List Int) from x).2.2.2.2
def LwY.S (y : LwY) : Int → Int := (show (Int → Int) × (Int → Int) × Int × Int from y).1
def LwY.K (y : LwY) : Int → Int := (show (Int → Int) × (Int → Int) × Int × Int from y).2.1
def LwY.tp (y : LwY) : Int := (show (Int → Int) × (Int → Int) × Int × Int from y).2.2.1
def LwY.kn (y : LwY) : Int := (show (Int → Int) × (Int → Int) × Int × Int from y).2.2.2
def lwS0 (o c s k : Nat) (f : Nat → AV) (nc nk : Nat) (CC : Int → Int) (cs : List (List Int × List Int)) : LwS := ((o, c, s, k), f, (nc, nk), CC, cs)
def lwY0 (S K : Int → Int) (tp kn : Int) : LwY := (S, K, tp, kn)
def lwC (x : LwS) (y : LwY) : EW := [(x.o, ob 1 (uF (uF x.f 3 (iv y.tp)) 4 (iv y.kn))), (x.c, ar x.nc x.CC), (x.s, ar x.nc y.S), (x.k, ar x.nk y.K)]
def lwT : List LwS → (Nat → LwY) → EW
  | [], _ => []
  | x :: r, y => lwC x (y 0) ++ lwT r (fun j => y (j + 1))
def lwSok (x : LwS) : Prop := (x.f 0 = rv x.c ∧ x.f 1 = rv x.s ∧ x.f 2 = rv x.k) ∧ (x.nc ≤ 160 ∧ (x.nc : Int) = ((flatLaw x.cs).length : Int)) ∧ (∀ (j : Nat) (u : Int), (flatLaw x.cs)[j]? = some u → x.CC (0 + j) = u) ∧ (∀ j, 0 ≤ j → j < (x.nc : Int) → -200 ≤ x.CC j ∧ x.CC j ≤ 9999) ∧ okLaw x.cs ∧ (x.nk = 1000 ∨ (x.nk = 0 ∧ noO (flatLaw x.cs)))
def lwYok (mt pl : Int) (x : LwS) (y : LwY) : Prop := (0 ≤ y.kn ∧ y.kn ≤ (x.nk : Int)) ∧ ∀ j, 0 ≤ j → j < y.kn → y.K j = dyI x.cs mt pl j
def okW (ds : List LwS) (y : Nat → LwY) (mt pl : Int) : Prop := ∀ i x, ds[i]? = some x → lwSok x ∧ lwYok mt pl x (y i)
def uN {α : Type} (y : Nat → α) (i : Nat) (v : α) : Nat → α := fun j => if j = i then v else y j
theorem uN_at {α : Type} {y : Nat → α} {i : Nat} {v : α} : uN y i v i = v := if_pos rfl
theorem uN_self {α : Type} {y : Nat → α} {i : Nat} : uN y i (y i) = y := by
  funext j
  unfold uN
  split
  · rename_i h; rw [h]
  · rfl
theorem lwT_key : ∀ (ds : List LwS) (y z : Nat → LwY), (lwT ds y).map (fun q => q.1) = (lwT ds z).map (fun q => q.1)
  | [], _, _ => rfl
  | x :: r, y, z => by
    show (lwC x (y 0) ++ lwT r _).map _ = (lwC x (z 0) ++ lwT r _).map _
    rw [List.map_append, List.map_append, lwT_key r _ (fun j => z (j + 1))]
    rfl
theorem lwT_at : ∀ (ds : List LwS) (y : Nat → LwY) (i : Nat) (x : LwS), ds[i]? = some x → ∃ rest : EW, ∀ v : LwY, (lwT ds (uN y i v)).Perm (lwC x v ++ rest)
  | [], _, _, _, h => by cases h
  | x :: r, y, 0, x0, h => by
    cases h
    exact ⟨lwT r (fun j => y (j + 1)), fun v => List.Perm.refl _⟩
  | x :: r, y, i + 1, x0, h => by
    obtain ⟨rest, hr⟩ := lwT_at r (fun j => y (j + 1)) i x0 h
    refine ⟨lwC x (y 0) ++ rest, fun v => ?_⟩
    have e : (fun j => uN y (i + 1) v (j + 1)) = uN (fun j => y (j + 1)) i v := by
      funext j
      unfold uN
      by_cases hj : j = i
      · rw [if_pos hj, if_pos (by omega)]
      · rw [if_neg hj, if_neg (by omega)]
    show (lwC x (uN y (i + 1) v 0) ++ lwT r (fun j => uN y (i + 1) v (j + 1))).Perm _
    rw [e, show uN y (i + 1) v 0 = y 0 from if_neg (by omega)]
    refine ((hr v).append_left _).trans ?_
    rw [← List.append_assoc, ← List.append_assoc]
    exact (List.perm_append_comm).append_right _
/-- a world with the law i in front of the others -/
theorem lw_front {ds : List LwS} {y : Nat → LwY} {i : Nat} {x : LwS} (h : ds[i]? = some x) : ∃ rest : EW, (∀ w : EW, (w ++ lwT ds y).Perm (w ++ lwC x (y i) ++ rest)) ∧ ∀ (w : EW) (v : LwY), (w ++ lwC x v ++ rest).Perm (w ++ lwT ds (uN y i v)) := by
  obtain ⟨rest, hr⟩ := lwT_at ds y i x h
  refine ⟨rest, fun w => ?_, fun w v => ?_⟩
  · have := hr (y i)
    rw [uN_self] at this
    rw [List.append_assoc]
    exact this.append_left w
  · rw [List.append_assoc]
    exact ((hr v).append_left w).symm
theorem okW.set {ds : List LwS} {y : Nat → LwY} {mt pl : Int} {i : Nat} {x : LwS} {v : LwY} (h : okW ds y mt pl) (hx : ds[i]? = some x) (hv : lwYok mt pl x v) : okW ds (uN y i v) mt pl := fun j z hz => by
  unfold uN
  split
  · rename_i e
    subst e
    rw [hx] at hz
    cases hz
    exact ⟨(h _ _ hx).1, hv⟩
  · exact h j z hz
def csA (ds : List LwS) (ho : Int) : List (List Int × List Int) := match ds[ho.toNat]? with
  | some x => x.cs
  | none => []
theorem csA_at {ds : List LwS} {ho : Int} {i : Nat} {x : LwS} (h : ds[i]? = some x) (e : ho.toNat = i) : csA ds ho = x.cs := by
  unfold csA
  rw [e, h]
/-- the field laws -/
def lwR (ds : List LwS) (j : Int) : Option Nat := if 0 ≤ j then (ds[j.toNat]?).map (fun x => x.o) else none
theorem lwR_at {ds : List LwS} {j : Int} (h0 : 0 ≤ j) (h1 : j < (ds.length : Int)) : ∃ x, ds[j.toNat]? = some x ∧ lwR ds j = some x.o := by
  have hl : j.toNat < ds.length := by omega
  refine ⟨ds[j.toNat], List.getElem?_eq_getElem hl, ?_⟩
  unfold lwR
  rw [if_pos h0, List.getElem?_eq_getElem hl]
  rfl
theorem lwR_no {ds : List LwS} {j : Int} (h : (ds.length : Int) ≤ j) : lwR ds j = none := by
  unfold lwR
  split
  · rw [List.getElem?_eq_none (by omega)]; rfl
  · rfl
section AN
variable {p : Program} {l : Launch} {e : Env} {R : Room} {s : State} {m : MethodId} {args : Array Value} {below : List Frame} {meth : Method} {c : Code} {H : Heap} {locs : List Loc} {Q : State → Prop} {D : va_G} {G : GG} {A : Nat → Prop} {cc : ByteArray} {nL cells slots pc : Nat} {rt : Option FieldType} {own : String} {L : Nat → Option AV} {st : List AV} {ws : EW}
theorem lv_anull {ls : Array Slot} {rest : List Value} (hexec : p.tables.exec = Jvm.exec) (hb : c.code = cc) (hdg : decode cc pc = .ok (.aconst_null, 1)) (k : W p l e R s m args below meth c H locs cells slots Q (F0 m (pc + 1) ls (.null :: rest))) : W p l e R s m args below meth c H locs cells slots Q (F0 m pc ls (rest)) := by
  intro T hT X
  obtain ⟨t, a, b⟩ := k T hT X
  refine ⟨t, ?_, b⟩
  jvm_step X.here [X.here.top, hexec, hb, hdg]
  exact a
theorem S_anull (X : Cx p s m args meth c D G A cc nL rt own) (hdg : decode cc pc = .ok (.aconst_null, 1)) (k : S_ p l e R s m args below meth c Q D G A nL cells slots (pc + 1) L (.inr none :: st) ws) : S_ p l e R s m args below meth c Q D G A nL cells slots pc L st ws :=
  fun H locs ls hP hD hS hl => lv_anull X.1 X.2.1 hdg (k H locs ls hP hD hS hl)
theorem S_astore_nN (X : Cx p s m args meth c D G A cc nL rt own) {k : Fin 4} {i : Nat} (hdg : decode cc pc = .ok (.astore_n k, 1)) (hi : (k : Nat) = i) (hn : i < nL) (kk : S_ p l e R s m args below meth c Q D G A nL cells slots (pc + 1) (uF L i (some nv)) st ws) : S_ p l e R s m args below meth c Q D G A nL cells slots pc L (nv :: st) ws :=
  fun H locs ls hP hD hS hl => lv_astore_nN X.1 X.2.1 hdg hi hl.has hn rfl (fun ls' hl' => kk H locs ls' hP hD hS (LH.st (v := nv) (fun j w hw => hl.lt hw) hl'))
end AN
end pt_72tail2
/- 73.ctail.lean.txt -/
section pt_73ctail

set_option maxHeartbeats 4000000 in
set_option maxRecDepth 100000 in
theorem kX11_wetness (l : Launch) (h0 : Nat) (f : Nat → AV) (oW : Nat) (fW : Nat → AV) (pl : Int) (ds : List LwS) (ys : Nat → LwY) (mt : Int) (lw : Int) (oA : Nat) (ho : Int) (dd : Int) (hf0 : f 3 = rv oW) (hf1 : fW 0 = iv pl) (hf2 : f 4 = rv oA) (hf3 : f 14 = iv ho) (hf4 : fW 1 = iv mt) (hpl : 1 ≤ pl ∧ pl ≤ 6) (hmt : 1 ≤ mt ∧ mt ≤ 99) (hds : (ds.length : Int) = lw ∧ 0 ≤ lw ∧ lw ≤ 4) (hdy : okW ds ys mt pl) (hho : -1 ≤ ho ∧ ho < lw) (hdd : 0 ≤ dd ∧ dd ≤ 999) : AMi l yX11_wetness cX11_wetness 3 .int 5 0 0 [rv h0, iv dd] ([(h0, ob 10 f), (oW, ob 7 fW), (oA, aq 4 (lwR ds))] ++ (lwT ds ys)) (fun z u => ∃ y2 : Nat → LwY, z = aDy ho (csA ds ho) mt pl dd ∧ u = ([(h0, ob 10 f), (oW, ob 7 fW), (oA, aq 4 (lwR ds))] ++ (lwT ds y2)) ∧ okW ds y2 mt pl) := by
  refine AMi.of2 rfl (nle rfl) ?_
  intro D G A p e s m args below meth c Po hPo X
  refine S_aload_n X dX11_wetness_0 rfl rfl ?_
  refine S_get X fgX11_93_10 0 rfl hf3 dX11_wetness_1 ?_
  refine S_if_lt (tgt := 27) X dX11_wetness_4 (by decide) (by omega) (fun c_1 => ?_) (fun c_1 => ?_)
  ·
    refine S_anull X dX11_wetness_27 ?_
    refine S_astore_nN X dX11_wetness_28 rfl (nle rfl) ?_
    refine S_aload_nN X dX11_wetness_29 rfl rfl ?_
    refine S_ifnonnull (tgt := 37) X dX11_wetness_30 (by decide) (fun a9 h9 => by cases h9) (fun _ => ?_)
    refine S_iconst X dX11_wetness_33 ?_
    refine S_goto (tgt := 46) X dX11_wetness_34 (by decide) ?_
    exact S_iret X (nle rfl) (nle rfl) dX11_wetness_46 (hPo _ _ (⟨ys, by unfold aDy; rw [if_pos (by omega)], rfl, hdy⟩))
  ·
    refine S_aload_n X dX11_wetness_7 rfl rfl ?_
    refine S_get X fgX11_93_10 0 rfl hf3 dX11_wetness_8 ?_
    refine S_iconst X dX11_wetness_11 ?_
    refine S_icmp_ge (tgt := 27) X dX11_wetness_12 (by decide) (by omega) (by decide) (fun c_2 => ?_) (fun c_2 => ?_)
    ·
      refine S_anull X dX11_wetness_27 ?_
      refine S_astore_nN X dX11_wetness_28 rfl (nle rfl) ?_
      refine S_aload_nN X dX11_wetness_29 rfl rfl ?_
      refine S_ifnonnull (tgt := 37) X dX11_wetness_30 (by decide) (fun a9 h9 => by cases h9) (fun _ => ?_)
      refine S_iconst X dX11_wetness_33 ?_
      refine S_goto (tgt := 46) X dX11_wetness_34 (by decide) ?_
      exact S_iret X (nle rfl) (nle rfl) dX11_wetness_46 (hPo _ _ (⟨ys, by unfold aDy; rw [if_pos (by omega)], rfl, hdy⟩))
    ·
      refine S_aload_n X dX11_wetness_15 rfl rfl ?_
      refine S_get X fgX11_41_10 0 rfl hf2 dX11_wetness_16 ?_
      refine S_aload_n X dX11_wetness_19 rfl rfl ?_
      refine S_get X fgX11_93_10 0 rfl hf3 dX11_wetness_20 ?_
      obtain ⟨x9, hx9, hr9⟩ := lwR_at (ds := ds) (j := ho) (by omega) (by omega)
      obtain ⟨rs9, hp9, hb9⟩ := lw_front (y := ys) hx9
      obtain ⟨⟨⟨hg0, hg1, hg2⟩, hg3, hg4, hg5, hg6, hg7⟩, hg8, hg9⟩ := hdy _ _ hx9
      refine S_aald X 2 rfl (by omega) (by omega) (nle rfl) dX11_wetness_23 ?_
      rw [hr9]
      refine S_perm (hp9 _) ?_
      refine S_w (ws' := ([(h0, ob 10 f), (oW, ob 7 fW), (oA, aq 4 (lwR ds)), (x9.o, ob 1 (uF (uF x9.f 3 (iv ((ys ho.toNat).tp))) 4 (iv ((ys ho.toNat).kn)))), (x9.c, ar x9.nc x9.CC), (x9.s, ar x9.nc ((ys ho.toNat).S)), (x9.k, ar x9.nk ((ys ho.toNat).K))] ++ rs9)) rfl ?_
      refine S_goto (tgt := 28) X dX11_wetness_24 (by decide) ?_
      refine S_astore_n X dX11_wetness_28 rfl (nle rfl) ?_
      refine S_aload_n X dX11_wetness_29 rfl rfl ?_
      refine S_ifnonnull (tgt := 37) X dX11_wetness_30 (by decide) (fun _ _ => ?_) (fun h9 => by cases h9)
      refine S_aload_n X dX11_wetness_37 rfl rfl ?_
      refine S_iload_n X dX11_wetness_38 rfl rfl ?_
      refine S_aload_n X dX11_wetness_39 rfl rfl ?_
      refine S_get X fgX11_35_10 0 rfl hf0 dX11_wetness_40 ?_
      refine S_calli X (kX1_wetness l x9.o x9.f x9.c x9.s x9.k x9.nc x9.nk x9.CC ((ys ho.toNat).S) ((ys ho.toNat).K) ((ys ho.toNat).tp) ((ys ho.toNat).kn) oW fW pl mt dd x9.cs hg0 hg1 hg2 hf1 hf4 hg3 hg4 hg5 hg6 hg7 hg8 hg9 (by omega) (by omega)) (is := [3, 4, 5, 6, 1]) rfl (run_V X lkX11_202 3 rfl rfl (is := [3, 4, 5, 6, 1]) (avs := [iv dd, rv oW]) (rest := []) rfl rfl (nle rfl) ⟨nle rfl, nle rfl⟩ ⟨nle rfl, nle rfl⟩ dX11_wetness_43 (by decide) rfl) (fun z_5 u_3 hp_4 => ?_)
      obtain ⟨S2_6, t2_7, K2_8, k2_9, hz_10, hu_11, hk2_12, hkk2_13⟩ := hp_4
      subst hz_10
      subst hu_11
      refine ⟨rfl, ?_⟩
      refine S_w (ws' := ([(h0, ob 10 f), (oW, ob 7 fW), (oA, aq 4 (lwR ds)), (x9.o, ob 1 (uF (uF x9.f 3 (iv t2_7)) 4 (iv k2_9))), (x9.c, ar x9.nc x9.CC), (x9.s, ar x9.nc S2_6), (x9.k, ar x9.nk K2_8)] ++ rs9)) (by simp only [putC, List.set, List.append_nil, List.cons_append, List.nil_append]) ?_
      have hk8 := hk2_12
      have hk9 := hkk2_13
      refine S_perm (hb9 [(h0, ob 10 f), (oW, ob 7 fW), (oA, aq 4 (lwR ds))] (lwY0 S2_6 K2_8 t2_7 k2_9)) ?_
      obtain ⟨z9, hz9⟩ : ∃ z9, z9 = aDy ho (csA ds ho) mt pl dd := ⟨_, rfl⟩
      have hcs9 : dyI x9.cs mt pl dd = z9 := by rw [hz9]; unfold aDy; rw [if_neg (by omega), csA_at hx9 rfl]
      rw [hcs9]
      exact S_iret X (nle rfl) (nle rfl) dX11_wetness_46 (hPo _ _ (⟨_, hz9, rfl, hdy.set hx9 ⟨hk8, hk9⟩⟩))
set_option maxHeartbeats 4000000 in
set_option maxRecDepth 100000 in
theorem kX11_damp (l : Launch) (h0 : Nat) (f : Nat → AV) (oW : Nat) (fW : Nat → AV) (pl : Int) (ds : List LwS) (ys : Nat → LwY) (mt : Int) (lw : Int) (oA : Nat) (ho : Int) (dd : Int) (hf0 : f 3 = rv oW) (hf1 : fW 0 = iv pl) (hf2 : f 4 = rv oA) (hf3 : f 14 = iv ho) (hf4 : fW 1 = iv mt) (hpl : 0 ≤ pl ∧ pl ≤ 6) (hmt0 : 1 ≤ pl → 1 ≤ mt ∧ mt ≤ 99) (hds : (ds.length : Int) = lw ∧ 0 ≤ lw ∧ lw ≤ 4) (hdy : okW ds ys mt pl) (hho : -1 ≤ ho ∧ ho < lw) (hx_dd : inR dd) : AMi l yX11_damp cX11_damp 2 .int 6 0 0 [rv h0, iv dd] ([(h0, ob 10 f), (oW, ob 7 fW), (oA, aq 4 (lwR ds))] ++ (lwT ds ys)) (fun z u => ∃ y2 : Nat → LwY, z = aDamp ho (csA ds ho) mt pl dd ∧ u = ([(h0, ob 10 f), (oW, ob 7 fW), (oA, aq 4 (lwR ds))] ++ (lwT ds y2)) ∧ okW ds y2 mt pl) := by
  refine AMi.of2 rfl (nle rfl) ?_
  intro D G A p e s m args below meth c Po hPo X
  refine S_aload_n X dX11_damp_0 rfl rfl ?_
  refine S_get X fgX11_35_10 0 rfl hf0 dX11_damp_1 ?_
  refine S_get X fgX11_115_7 1 rfl hf1 dX11_damp_4 ?_
  refine S_if_eq (tgt := 21) X dX11_damp_7 (by decide) (by omega) (fun c_1 => ?_) (fun c_1 => ?_)
  ·
    refine S_iconst X dX11_damp_21 ?_
    exact S_iret X (nle rfl) (nle rfl) dX11_damp_22 (hPo _ _ (⟨ys, by unfold aDamp; rw [if_neg (by omega)], rfl, hdy⟩))
  ·
    refine S_iload_n X dX11_damp_10 rfl rfl ?_
    refine S_if_lt (tgt := 21) X dX11_damp_11 (by decide) (by omega) (fun c_2 => ?_) (fun c_2 => ?_)
    ·
      refine S_iconst X dX11_damp_21 ?_
      exact S_iret X (nle rfl) (nle rfl) dX11_damp_22 (hPo _ _ (⟨ys, by unfold aDamp; rw [if_neg (by omega)], rfl, hdy⟩))
    ·
      refine S_iload_n X dX11_damp_14 rfl rfl ?_
      refine S_sipush X dX11_damp_15 rfl ?_
      refine S_icmp_le (tgt := 23) X dX11_damp_18 (by decide) (by omega) (by decide) (fun c_3 => ?_) (fun c_3 => ?_)
      ·
        refine S_aload_n X dX11_damp_23 rfl rfl ?_
        refine S_iload_n X dX11_damp_24 rfl rfl ?_
        refine S_calliT X (kX11_wetness l h0 f oW fW pl ds ys mt lw oA ho dd hf0 hf1 hf2 hf3 hf4 (by omega) (by omega) hds hdy hho (by omega)) (is := [0, 1, 2]) rfl (run_V X lkX11_199 0 rfl rfl (is := isT [0, 1, 2] 3 (List.length (lwT ds ys))) (avs := [iv dd]) (rest := []) rfl rfl (nle rfl) ⟨nle rfl, nle rfl⟩ ⟨nle rfl, nle rfl⟩ dX11_damp_25 (isT_nd rfl (by decide)) (isT_map rfl)) (fun z_6 u_4 hp_5 => ?_)
        obtain ⟨y2_7, hz_8, hu_9, hy2_10⟩ := hp_5
        subst hz_8
        subst hu_9
        refine ⟨_, _, rfl, rfl, lwT_key _ _ _, ?_⟩
        refine S_w (ws' := ([(h0, ob 10 f), (oW, ob 7 fW), (oA, aq 4 (lwR ds))] ++ (lwT ds y2_7))) (by simp only [putC, List.set, List.append_nil, List.cons_append, List.nil_append]) ?_
        have h91 := hy2_10
        exact S_iret X (nle rfl) (nle rfl) dX11_damp_28 (hPo _ _ (⟨_, by unfold aDamp; rw [if_pos (by omega)], rfl, h91⟩))
      ·
        refine S_iconst X dX11_damp_21 ?_
        exact S_iret X (nle rfl) (nle rfl) dX11_damp_22 (hPo _ _ (⟨ys, by unfold aDamp; rw [if_neg (by omega)], rfl, hdy⟩))
set_option maxHeartbeats 4000000 in
set_option maxRecDepth 100000 in
theorem kX11_day (l : Launch) (h0 : Nat) (f : Nat → AV) (oW : Nat) (fW : Nat → AV) (fS : Nat → AV) (pl : Int) (oS : Nat) (aB : Nat) (B : Int → Int) (oK : Nat) (fK : Nat → AV) (kk : Int) (oD : Nat) (fD : Nat → AV) (dR : Nat) (DR : Int → Int) (td : Int) (un : Int) (hi : Int) (im : Int) (nx : Int) (wD : Nat) (wK : Nat) (WD : Int → Int) (WK : Int → Int) (ds : List LwS) (ys : Nat → LwY) (mt : Int) (lw : Int) (oA : Nat) (ho : Int) (q : Int) (hf0 : f 3 = rv oW) (hf1 : f 7 = rv oS) (hf2 : f 5 = rv oD) (hf3 : f 11 = rv oK) (hf4 : fW 0 = iv pl) (hf5 : fD 6 = rv dR) (hf6 : fS 4 = rv aB) (hf7 : fW 3 = rv wD) (hf8 : fW 4 = rv wK) (hf9 : f 4 = rv oA) (hf10 : f 14 = iv ho) (hf11 : fW 1 = iv mt) (hpl : 0 ≤ pl ∧ pl ≤ 6) (hod0 : 1 ≤ pl → okDy pl mt WK WD) (hB : ∀ p, 0 ≤ p → p < pl → 1 ≤ B p ∧ B p ≤ 199) (hds : (ds.length : Int) = lw ∧ 0 ≤ lw ∧ lw ≤ 4) (hdy : okW ds ys mt pl) (hho : -1 ≤ ho ∧ ho < lw) (hnx : 0 ≤ nx ∧ nx ≤ 59) (hun : 0 ≤ un ∧ un ≤ 60) (htd : 0 ≤ td ∧ td ≤ 1000) (hx_q : inR q) : AMi l yX11_day cX11_day 3 .int 6 0 0 [rv h0, iv q] ([(h0, ob 10 f), (oW, ob 7 fW), (oA, aq 4 (lwR ds)), (wD, ar 6 WD), (wK, ar 6 WK), (oD, ob 0 (uF (uF (uF (uF (uF fD 0 (iv td)) 1 (iv un)) 2 (iv hi)) 3 (iv im)) 4 (iv nx))), (dR, ar 360 DR), (oS, ob 5 fS), (aB, ar 6 B), (oK, ob 9 (uF fK 0 (iv kk)))] ++ (lwT ds ys)) (fun z u => (z = -1 ∧ u = ([(h0, ob 10 f), (oW, ob 7 fW), (oA, aq 4 (lwR ds)), (wD, ar 6 WD), (wK, ar 6 WK), (oD, ob 0 (uF (uF (uF (uF (uF fD 0 (iv td)) 1 (iv un)) 2 (iv hi)) 3 (iv im)) 4 (iv nx))), (dR, ar 360 DR), (oS, ob 5 fS), (aB, ar 6 B), (oK, ob 9 (uF fK 0 (iv kk)))] ++ (lwT ds ys)) ∧ (¬ (1 ≤ pl ∧ (q = -1 ∨ (0 ≤ q ∧ q < pl)) ∧ td ≤ 999))) ∨ (∃ y2 : Nat → LwY, z = td + 1 ∧ u = ([(h0, ob 10 f), (oW, ob 7 fW), (oA, aq 4 (lwR ds)), (wD, ar 6 WD), (wK, ar 6 WK), (oD, ob 0 (uF (uF (uF (uF (uF fD 0 (iv (td + 1))) 1 (iv (min (un + 1) 60))) 2 (iv hi)) 3 (iv im)) 4 (iv ((nx + 1).tmod 60)))), (dR, ar 360 (cpZ B DR 0 (nx * 6) 6)), (oS, ob 5 fS), (aB, ar 6 (paF WK WD mt q (aDy ho (csA ds ho) mt pl td) pl B)), (oK, ob 9 (uF fK 0 (iv 0)))] ++ (lwT ds y2)) ∧ okW ds y2 mt pl ∧ (1 ≤ pl ∧ (q = -1 ∨ (0 ≤ q ∧ q < pl)) ∧ td ≤ 999))) := by
  refine AMi.of2 rfl (nle rfl) ?_
  intro D G A p e s m args below meth c Po hPo X
  refine S_aload_n X dX11_day_0 rfl rfl ?_
  refine S_get X fgX11_35_10 0 rfl hf0 dX11_day_1 ?_
  refine S_get X fgX11_115_7 1 rfl hf4 dX11_day_4 ?_
  refine S_if_eq (tgt := 36) X dX11_day_7 (by decide) (by omega) (fun c_1 => ?_) (fun c_1 => ?_)
  ·
    refine S_iconst X dX11_day_36 ?_
    exact S_iret X (nle rfl) (nle rfl) dX11_day_37 (hPo _ _ (Or.inl ⟨rfl, rfl, by omega⟩))
  ·
    refine S_iload_n X dX11_day_10 rfl rfl ?_
    refine S_iconst X dX11_day_11 ?_
    refine S_icmp_eq (tgt := 23) X dX11_day_12 (by decide) (by omega) (by decide) (fun c_2 => ?_) (fun c_2 => ?_)
    ·
      refine S_aload_n X dX11_day_23 rfl rfl ?_
      refine S_get X fgX11_48_10 0 rfl hf2 dX11_day_24 ?_
      refine S_get (v := iv td) X fgX11_205_0 5 rfl rfl dX11_day_27 ?_
      refine S_sipush X dX11_day_30 rfl ?_
      refine S_icmp_le (tgt := 38) X dX11_day_33 (by decide) (by omega) (by decide) (fun c_3 => ?_) (fun c_3 => ?_)
      ·
        have hod := hod0 (by omega)
        have hod1 := hod.1
        have hod2 := hod.2.1
        refine S_aload_n X dX11_day_38 rfl rfl ?_
        refine S_aload_n X dX11_day_39 rfl rfl ?_
        refine S_get X fgX11_48_10 0 rfl hf2 dX11_day_40 ?_
        refine S_get (v := iv td) X fgX11_205_0 5 rfl rfl dX11_day_43 ?_
        refine S_calliT X (kX11_wetness l h0 f oW fW pl ds ys mt lw oA ho td hf0 hf4 hf9 hf10 hf11 (by omega) (by omega) hds hdy hho (by omega)) (is := [0, 1, 2]) rfl (run_V X lkX11_199 0 rfl rfl (is := isT [0, 1, 2] 10 (List.length (lwT ds ys))) (avs := [iv td]) (rest := []) rfl rfl (nle rfl) ⟨nle rfl, nle rfl⟩ ⟨nle rfl, nle rfl⟩ dX11_day_46 (isT_nd rfl (by decide)) (isT_map rfl)) (fun z_6 u_4 hp_5 => ?_)
        obtain ⟨y2_7, hz_8, hu_9, hy2_10⟩ := hp_5
        subst hz_8
        subst hu_9
        refine ⟨_, _, rfl, rfl, lwT_key _ _ _, ?_⟩
        refine S_w (ws' := ([(h0, ob 10 f), (oW, ob 7 fW), (oA, aq 4 (lwR ds)), (wD, ar 6 WD), (wK, ar 6 WK), (oD, ob 0 (uF (uF (uF (uF (uF fD 0 (iv td)) 1 (iv un)) 2 (iv hi)) 3 (iv im)) 4 (iv nx))), (dR, ar 360 DR), (oS, ob 5 fS), (aB, ar 6 B), (oK, ob 9 (uF fK 0 (iv kk)))] ++ (lwT ds y2_7))) (by simp only [putC, List.set, List.append_nil, List.cons_append, List.nil_append]) ?_
        have h91 := hy2_10
        obtain ⟨w9, hw9⟩ : ∃ z9, z9 = aDy ho (csA ds ho) mt pl td := ⟨_, rfl⟩
        rw [← hw9]
        have hwr := aDy_in (ho := ho) (cs := csA ds ho) (mt := mt) (pl := pl) (d := td) (by omega)
        rw [← hw9] at hwr
        refine S_istore_n X dX11_day_49 rfl (nle rfl) ?_
        refine S_aload_n X dX11_day_50 rfl rfl ?_
        refine S_get X fgX11_48_10 0 rfl hf2 dX11_day_51 ?_
        refine S_aload_n X dX11_day_54 rfl rfl ?_
        refine S_get X fgX11_59_10 0 rfl hf1 dX11_day_55 ?_
        refine S_get X fgX11_158_5 7 rfl hf6 dX11_day_58 ?_
        refine S_callv X (kX0_keep l oD fD dR DR td un hi im nx aB B hf5 (by omega) (by omega)) (is := [5, 6, 8]) rfl (run_V X lkX11_208 5 rfl rfl (is := [5, 6, 8]) (avs := [rv aB]) (rest := []) rfl rfl (nle rfl) ⟨nle rfl, nle rfl⟩ ⟨nle rfl, nle rfl⟩ dX11_day_61 (by decide) rfl) (fun u_11 hp_12 => ?_)
        have hu_15 := hp_12
        subst hu_15
        refine ⟨rfl, ?_⟩
        refine S_w (ws' := ([(h0, ob 10 f), (oW, ob 7 fW), (oA, aq 4 (lwR ds)), (wD, ar 6 WD), (wK, ar 6 WK), (oD, ob 0 (uF (uF (uF (uF (uF fD 0 (iv td)) 1 (iv (min (un + 1) 60))) 2 (iv hi)) 3 (iv im)) 4 (iv ((nx + 1).tmod 60)))), (dR, ar 360 (cpZ B DR 0 (nx * 6) 6)), (oS, ob 5 fS), (aB, ar 6 B), (oK, ob 9 (uF fK 0 (iv kk)))] ++ (lwT ds y2_7))) (by simp only [putC, List.set, List.append_nil, List.cons_append, List.nil_append]) ?_
        refine S_aload_n X dX11_day_64 rfl rfl ?_
        refine S_get X fgX11_35_10 0 rfl hf0 dX11_day_65 ?_
        refine S_aload_n X dX11_day_68 rfl rfl ?_
        refine S_get X fgX11_59_10 0 rfl hf1 dX11_day_69 ?_
        refine S_get X fgX11_158_5 7 rfl hf6 dX11_day_72 ?_
        refine S_iload_n X dX11_day_75 rfl rfl ?_
        refine S_iload_n X dX11_day_76 rfl rfl ?_
        refine S_callv X (kX8_goThroughDay l oW wD wK fW WD WK pl mt aB B q w9 hf7 hf8 hf4 hf11 (by omega) hod hB (by omega) (by omega)) (is := [1, 3, 4, 8]) rfl (run_V X lkX11_212 1 rfl rfl (is := [1, 3, 4, 8]) (avs := [rv aB, iv q, iv w9]) (rest := []) rfl rfl (nle rfl) ⟨nle rfl, nle rfl⟩ ⟨nle rfl, nle rfl⟩ dX11_day_77 (by decide) rfl) (fun u_16 hp_17 => ?_)
        obtain ⟨N2_19, hu_21, hN2_22⟩ := hp_17
        subst hu_21
        refine ⟨rfl, ?_⟩
        refine S_w (ws' := ([(h0, ob 10 f), (oW, ob 7 fW), (oA, aq 4 (lwR ds)), (wD, ar 6 WD), (wK, ar 6 WK), (oD, ob 0 (uF (uF (uF (uF (uF fD 0 (iv td)) 1 (iv (min (un + 1) 60))) 2 (iv hi)) 3 (iv im)) 4 (iv ((nx + 1).tmod 60)))), (dR, ar 360 (cpZ B DR 0 (nx * 6) 6)), (oS, ob 5 fS), (aB, ar 6 N2_19), (oK, ob 9 (uF fK 0 (iv kk)))] ++ (lwT ds y2_7))) (by simp only [putC, List.set, List.append_nil, List.cons_append, List.nil_append]) ?_
        have hN9 := hN2_22
        rw [hw9] at hN9
        refine S_aload_n X dX11_day_80 rfl rfl ?_
        refine S_get X fgX11_48_10 0 rfl hf2 dX11_day_81 ?_
        refine S_dup X dX11_day_84 ?_
        refine S_get (v := iv td) X fgX11_205_0 5 rfl rfl dX11_day_85 ?_
        refine S_iconst X dX11_day_88 ?_
        refine S_iadd X dX11_day_89 ?_
        refine S_put X fpX11_205_0 5 rfl FT_i dX11_day_90 ?_
        refine S_w (ws' := ([(h0, ob 10 f), (oW, ob 7 fW), (oA, aq 4 (lwR ds)), (wD, ar 6 WD), (wK, ar 6 WK), (oD, ob 0 (uF (uF (uF (uF (uF fD 0 (iv (td + 1))) 1 (iv (min (un + 1) 60))) 2 (iv hi)) 3 (iv im)) 4 (iv ((nx + 1).tmod 60)))), (dR, ar 360 (cpZ B DR 0 (nx * 6) 6)), (oS, ob 5 fS), (aB, ar 6 N2_19), (oK, ob 9 (uF fK 0 (iv kk)))] ++ (lwT ds y2_7))) (by simp only [List.set, List.cons_append, List.nil_append]; rw [uF_mv (j := 4) (k := 0) (by decide), uF_mv (j := 3) (k := 0) (by decide), uF_mv (j := 2) (k := 0) (by decide), uF_mv (j := 1) (k := 0) (by decide), uF_same (k := 0)]) ?_
        refine S_aload_n X dX11_day_93 rfl rfl ?_
        refine S_get X fgX11_85_10 0 rfl hf3 dX11_day_94 ?_
        refine S_iconst X dX11_day_97 ?_
        refine S_put X fpX11_143_9 9 rfl (FT_b (Or.inl rfl)) dX11_day_98 ?_
        refine S_w (ws' := ([(h0, ob 10 f), (oW, ob 7 fW), (oA, aq 4 (lwR ds)), (wD, ar 6 WD), (wK, ar 6 WK), (oD, ob 0 (uF (uF (uF (uF (uF fD 0 (iv (td + 1))) 1 (iv (min (un + 1) 60))) 2 (iv hi)) 3 (iv im)) 4 (iv ((nx + 1).tmod 60)))), (dR, ar 360 (cpZ B DR 0 (nx * 6) 6)), (oS, ob 5 fS), (aB, ar 6 N2_19), (oK, ob 9 (uF fK 0 (iv 0)))] ++ (lwT ds y2_7))) (by simp only [List.set, List.cons_append, List.nil_append]; rw [uF_same (k := 0)]) ?_
        refine S_aload_n X dX11_day_101 rfl rfl ?_
        refine S_get X fgX11_48_10 0 rfl hf2 dX11_day_102 ?_
        refine S_get (v := iv (td + 1)) X fgX11_205_0 5 rfl rfl dX11_day_105 ?_
        exact S_iret X (nle rfl) (nle rfl) dX11_day_108 (hPo _ _ (Or.inr ⟨_, rfl, by rw [hN9], h91, by omega⟩))
      ·
        refine S_iconst X dX11_day_36 ?_
        exact S_iret X (nle rfl) (nle rfl) dX11_day_37 (hPo _ _ (Or.inl ⟨rfl, rfl, by omega⟩))
    ·
      refine S_aload_n X dX11_day_15 rfl rfl ?_
      refine S_iload_n X dX11_day_16 rfl rfl ?_
      refine S_calli X (kX11_isPlayer l h0 f oW fW pl q hf0 hf4 (by omega) (by omega)) (is := [0, 1]) rfl (run_V X lkX11_147 0 rfl rfl (is := [0, 1]) (avs := [iv q]) (rest := []) rfl rfl (nle rfl) ⟨nle rfl, nle rfl⟩ ⟨nle rfl, nle rfl⟩ dX11_day_17 (by decide) rfl) (fun z_25 u_23 hp_24 => ?_)
      rcases hp_24 with ⟨hz_26, hu_27, hp_28⟩ | ⟨hz_29, hu_30, hp_31⟩
      ·
        subst hz_26
        subst hu_27
        refine ⟨rfl, ?_⟩
        refine S_w (ws' := ([(h0, ob 10 f), (oW, ob 7 fW), (oA, aq 4 (lwR ds)), (wD, ar 6 WD), (wK, ar 6 WK), (oD, ob 0 (uF (uF (uF (uF (uF fD 0 (iv td)) 1 (iv un)) 2 (iv hi)) 3 (iv im)) 4 (iv nx))), (dR, ar 360 DR), (oS, ob 5 fS), (aB, ar 6 B), (oK, ob 9 (uF fK 0 (iv kk)))] ++ (lwT ds ys))) (by simp only [putC, List.set, List.append_nil, List.cons_append, List.nil_append]) ?_
        refine S_if_eq (tgt := 36) X dX11_day_20 (by decide) (by decide) (fun _ => ?_) (fun h9 => absurd h9 (by decide))
        refine S_iconst X dX11_day_36 ?_
        exact S_iret X (nle rfl) (nle rfl) dX11_day_37 (hPo _ _ (Or.inl ⟨rfl, rfl, by omega⟩))
      ·
        subst hz_29
        subst hu_30
        refine ⟨rfl, ?_⟩
        refine S_w (ws' := ([(h0, ob 10 f), (oW, ob 7 fW), (oA, aq 4 (lwR ds)), (wD, ar 6 WD), (wK, ar 6 WK), (oD, ob 0 (uF (uF (uF (uF (uF fD 0 (iv td)) 1 (iv un)) 2 (iv hi)) 3 (iv im)) 4 (iv nx))), (dR, ar 360 DR), (oS, ob 5 fS), (aB, ar 6 B), (oK, ob 9 (uF fK 0 (iv kk)))] ++ (lwT ds ys))) (by simp only [putC, List.set, List.append_nil, List.cons_append, List.nil_append]) ?_
        refine S_if_eq (tgt := 36) X dX11_day_20 (by decide) (by decide) (fun h9 => absurd h9 (by decide)) (fun _ => ?_)
        refine S_aload_n X dX11_day_23 rfl rfl ?_
        refine S_get X fgX11_48_10 0 rfl hf2 dX11_day_24 ?_
        refine S_get (v := iv td) X fgX11_205_0 5 rfl rfl dX11_day_27 ?_
        refine S_sipush X dX11_day_30 rfl ?_
        refine S_icmp_le (tgt := 38) X dX11_day_33 (by decide) (by omega) (by decide) (fun c_34 => ?_) (fun c_34 => ?_)
        ·
          have hod := hod0 (by omega)
          have hod1 := hod.1
          have hod2 := hod.2.1
          refine S_aload_n X dX11_day_38 rfl rfl ?_
          refine S_aload_n X dX11_day_39 rfl rfl ?_
          refine S_get X fgX11_48_10 0 rfl hf2 dX11_day_40 ?_
          refine S_get (v := iv td) X fgX11_205_0 5 rfl rfl dX11_day_43 ?_
          refine S_calliT X (kX11_wetness l h0 f oW fW pl ds ys mt lw oA ho td hf0 hf4 hf9 hf10 hf11 (by omega) (by omega) hds hdy hho (by omega)) (is := [0, 1, 2]) rfl (run_V X lkX11_199 0 rfl rfl (is := isT [0, 1, 2] 10 (List.length (lwT ds ys))) (avs := [iv td]) (rest := []) rfl rfl (nle rfl) ⟨nle rfl, nle rfl⟩ ⟨nle rfl, nle rfl⟩ dX11_day_46 (isT_nd rfl (by decide)) (isT_map rfl)) (fun z_37 u_35 hp_36 => ?_)
          obtain ⟨y2_38, hz_39, hu_40, hy2_41⟩ := hp_36
          subst hz_39
          subst hu_40
          refine ⟨_, _, rfl, rfl, lwT_key _ _ _, ?_⟩
          refine S_w (ws' := ([(h0, ob 10 f), (oW, ob 7 fW), (oA, aq 4 (lwR ds)), (wD, ar 6 WD), (wK, ar 6 WK), (oD, ob 0 (uF (uF (uF (uF (uF fD 0 (iv td)) 1 (iv un)) 2 (iv hi)) 3 (iv im)) 4 (iv nx))), (dR, ar 360 DR), (oS, ob 5 fS), (aB, ar 6 B), (oK, ob 9 (uF fK 0 (iv kk)))] ++ (lwT ds y2_38))) (by simp only [putC, List.set, List.append_nil, List.cons_append, List.nil_append]) ?_
          have h91 := hy2_41
          obtain ⟨w9, hw9⟩ : ∃ z9, z9 = aDy ho (csA ds ho) mt pl td := ⟨_, rfl⟩
          rw [← hw9]
          have hwr := aDy_in (ho := ho) (cs := csA ds ho) (mt := mt) (pl := pl) (d := td) (by omega)
          rw [← hw9] at hwr
          refine S_istore_n X dX11_day_49 rfl (nle rfl) ?_
          refine S_aload_n X dX11_day_50 rfl rfl ?_
          refine S_get X fgX11_48_10 0 rfl hf2 dX11_day_51 ?_
          refine S_aload_n X dX11_day_54 rfl rfl ?_
          refine S_get X fgX11_59_10 0 rfl hf1 dX11_day_55 ?_
          refine S_get X fgX11_158_5 7 rfl hf6 dX11_day_58 ?_
          refine S_callv X (kX0_keep l oD fD dR DR td un hi im nx aB B hf5 (by omega) (by omega)) (is := [5, 6, 8]) rfl (run_V X lkX11_208 5 rfl rfl (is := [5, 6, 8]) (avs := [rv aB]) (rest := []) rfl rfl (nle rfl) ⟨nle rfl, nle rfl⟩ ⟨nle rfl, nle rfl⟩ dX11_day_61 (by decide) rfl) (fun u_42 hp_43 => ?_)
          have hu_46 := hp_43
          subst hu_46
          refine ⟨rfl, ?_⟩
          refine S_w (ws' := ([(h0, ob 10 f), (oW, ob 7 fW), (oA, aq 4 (lwR ds)), (wD, ar 6 WD), (wK, ar 6 WK), (oD, ob 0 (uF (uF (uF (uF (uF fD 0 (iv td)) 1 (iv (min (un + 1) 60))) 2 (iv hi)) 3 (iv im)) 4 (iv ((nx + 1).tmod 60)))), (dR, ar 360 (cpZ B DR 0 (nx * 6) 6)), (oS, ob 5 fS), (aB, ar 6 B), (oK, ob 9 (uF fK 0 (iv kk)))] ++ (lwT ds y2_38))) (by simp only [putC, List.set, List.append_nil, List.cons_append, List.nil_append]) ?_
          refine S_aload_n X dX11_day_64 rfl rfl ?_
          refine S_get X fgX11_35_10 0 rfl hf0 dX11_day_65 ?_
          refine S_aload_n X dX11_day_68 rfl rfl ?_
          refine S_get X fgX11_59_10 0 rfl hf1 dX11_day_69 ?_
          refine S_get X fgX11_158_5 7 rfl hf6 dX11_day_72 ?_
          refine S_iload_n X dX11_day_75 rfl rfl ?_
          refine S_iload_n X dX11_day_76 rfl rfl ?_
          refine S_callv X (kX8_goThroughDay l oW wD wK fW WD WK pl mt aB B q w9 hf7 hf8 hf4 hf11 (by omega) hod hB (by omega) (by omega)) (is := [1, 3, 4, 8]) rfl (run_V X lkX11_212 1 rfl rfl (is := [1, 3, 4, 8]) (avs := [rv aB, iv q, iv w9]) (rest := []) rfl rfl (nle rfl) ⟨nle rfl, nle rfl⟩ ⟨nle rfl, nle rfl⟩ dX11_day_77 (by decide) rfl) (fun u_47 hp_48 => ?_)
          obtain ⟨N2_50, hu_52, hN2_53⟩ := hp_48
          subst hu_52
          refine ⟨rfl, ?_⟩
          refine S_w (ws' := ([(h0, ob 10 f), (oW, ob 7 fW), (oA, aq 4 (lwR ds)), (wD, ar 6 WD), (wK, ar 6 WK), (oD, ob 0 (uF (uF (uF (uF (uF fD 0 (iv td)) 1 (iv (min (un + 1) 60))) 2 (iv hi)) 3 (iv im)) 4 (iv ((nx + 1).tmod 60)))), (dR, ar 360 (cpZ B DR 0 (nx * 6) 6)), (oS, ob 5 fS), (aB, ar 6 N2_50), (oK, ob 9 (uF fK 0 (iv kk)))] ++ (lwT ds y2_38))) (by simp only [putC, List.set, List.append_nil, List.cons_append, List.nil_append]) ?_
          have hN9 := hN2_53
          rw [hw9] at hN9
          refine S_aload_n X dX11_day_80 rfl rfl ?_
          refine S_get X fgX11_48_10 0 rfl hf2 dX11_day_81 ?_
          refine S_dup X dX11_day_84 ?_
          refine S_get (v := iv td) X fgX11_205_0 5 rfl rfl dX11_day_85 ?_
          refine S_iconst X dX11_day_88 ?_
          refine S_iadd X dX11_day_89 ?_
          refine S_put X fpX11_205_0 5 rfl FT_i dX11_day_90 ?_
          refine S_w (ws' := ([(h0, ob 10 f), (oW, ob 7 fW), (oA, aq 4 (lwR ds)), (wD, ar 6 WD), (wK, ar 6 WK), (oD, ob 0 (uF (uF (uF (uF (uF fD 0 (iv (td + 1))) 1 (iv (min (un + 1) 60))) 2 (iv hi)) 3 (iv im)) 4 (iv ((nx + 1).tmod 60)))), (dR, ar 360 (cpZ B DR 0 (nx * 6) 6)), (oS, ob 5 fS), (aB, ar 6 N2_50), (oK, ob 9 (uF fK 0 (iv kk)))] ++ (lwT ds y2_38))) (by simp only [List.set, List.cons_append, List.nil_append]; rw [uF_mv (j := 4) (k := 0) (by decide), uF_mv (j := 3) (k := 0) (by decide), uF_mv (j := 2) (k := 0) (by decide), uF_mv (j := 1) (k := 0) (by decide), uF_same (k := 0)]) ?_
          refine S_aload_n X dX11_day_93 rfl rfl ?_
          refine S_get X fgX11_85_10 0 rfl hf3 dX11_day_94 ?_
          refine S_iconst X dX11_day_97 ?_
          refine S_put X fpX11_143_9 9 rfl (FT_b (Or.inl rfl)) dX11_day_98 ?_
          refine S_w (ws' := ([(h0, ob 10 f), (oW, ob 7 fW), (oA, aq 4 (lwR ds)), (wD, ar 6 WD), (wK, ar 6 WK), (oD, ob 0 (uF (uF (uF (uF (uF fD 0 (iv (td + 1))) 1 (iv (min (un + 1) 60))) 2 (iv hi)) 3 (iv im)) 4 (iv ((nx + 1).tmod 60)))), (dR, ar 360 (cpZ B DR 0 (nx * 6) 6)), (oS, ob 5 fS), (aB, ar 6 N2_50), (oK, ob 9 (uF fK 0 (iv 0)))] ++ (lwT ds y2_38))) (by simp only [List.set, List.cons_append, List.nil_append]; rw [uF_same (k := 0)]) ?_
          refine S_aload_n X dX11_day_101 rfl rfl ?_
          refine S_get X fgX11_48_10 0 rfl hf2 dX11_day_102 ?_
          refine S_get (v := iv (td + 1)) X fgX11_205_0 5 rfl rfl dX11_day_105 ?_
          exact S_iret X (nle rfl) (nle rfl) dX11_day_108 (hPo _ _ (Or.inr ⟨_, rfl, by rw [hN9], h91, by omega⟩))
        ·
          refine S_iconst X dX11_day_36 ?_
          exact S_iret X (nle rfl) (nle rfl) dX11_day_37 (hPo _ _ (Or.inl ⟨rfl, rfl, by omega⟩))
set_option maxHeartbeats 4000000 in
set_option maxRecDepth 100000 in
theorem kX11_gift (l : Launch) (h0 : Nat) (f : Nat → AV) (oW : Nat) (fW : Nat → AV) (fP : Nat → AV) (fS : Nat → AV) (pl : Int) (n : Int) (ec : Int) (mk : Int) (oP : Nat) (oS : Nat) (aA : Nat) (aT : Nat) (aW : Nat) (aS : Nat) (aB : Nat) (aF : Nat) (aH : Nat) (aL : Nat) (Ab : Int → Int) (Tm : Int → Int) (Wq : Int → Int) (Sp : Int → Int) (B : Int → Int) (Fo : Int → Int) (Ho : Int → Int) (Lt : Int → Int) (p0 : Int) (n0 : Int) (k0 : Int) (v : Int) (oT : Nat) (tB : Nat) (tF : Nat) (tH : Nat) (tL : Nat) (fT : Nat → AV) (TB : Int → Int) (TF : Int → Int) (TH : Int → Int) (TL : Int → Int) (t0 : Int) (t1 : Int) (t2 : Int) (t3 : Int) (wD : Nat) (wK : Nat) (WD : Int → Int) (WK : Int → Int) (ds : List LwS) (ys : Nat → LwY) (mt : Int) (lw : Int) (oA : Nat) (ho : Int) (oD : Nat) (fD : Nat → AV) (td : Int) (hf0 : f 3 = rv oW) (hf1 : f 7 = rv oS) (hf2 : f 9 = rv oP) (hf3 : f 8 = rv oT) (hf4 : fW 0 = iv pl) (hf5 : fP 0 = rv aA) (hf6 : fP 1 = rv aT) (hf7 : fP 2 = rv aW) (hf8 : fP 3 = rv aS) (hf9 : fS 0 = iv pl) (hf10 : fS 1 = iv n) (hf11 : fS 2 = iv ec) (hf12 : fS 3 = iv mk) (hf13 : fS 4 = rv aB) (hf14 : fS 5 = rv aF) (hf15 : fS 6 = rv aH) (hf16 : fS 7 = rv aL) (hf17 : fT 4 = rv tB) (hf18 : fT 5 = rv tF) (hf19 : fT 6 = rv tH) (hf20 : fT 7 = rv tL) (hf21 : fW 3 = rv wD) (hf22 : fW 4 = rv wK) (hf23 : f 4 = rv oA) (hf24 : f 14 = iv ho) (hf25 : fW 1 = iv mt) (hf26 : f 5 = rv oD) (hf27 : fD 0 = iv td) (hz : okZ pl n ec Fo Ho B Lt) (hx_v : inR v) (hod0 : 1 ≤ pl → okDy pl mt WK WD) (hds : (ds.length : Int) = lw ∧ 0 ≤ lw ∧ lw ≤ 4) (hdy : okW ds ys mt pl) (hho : -1 ≤ ho ∧ ho < lw) (htd : 0 ≤ td ∧ td ≤ 1000) : AMi l yX11_gift cX11_gift 7 .int 8 0 0 [rv h0, iv v] ([(h0, ob 10 f), (oW, ob 7 fW), (oP, ob 4 (uF (uF (uF fP 6 (iv p0)) 7 (iv n0)) 8 (iv k0))), (aA, ar 1206 Ab), (aT, ar 180 Tm), (aW, ar 6 Wq), (aS, ar 30 Sp), (oS, ob 5 fS), (aB, ar 6 B), (aF, ar 6 Fo), (aH, ar 6 Ho), (aL, ar 6 Lt), (oT, ob 5 (uF (uF (uF (uF fT 0 (iv t0)) 1 (iv t1)) 2 (iv t2)) 3 (iv t3))), (tB, ar 6 TB), (tF, ar 6 TF), (tH, ar 6 TH), (tL, ar 6 TL), (wD, ar 6 WD), (wK, ar 6 WK), (oA, aq 4 (lwR ds)), (oD, ob 0 fD)] ++ (lwT ds ys)) (fun z u => ∃ z9 : Int, ∃ p9 : Int, ∃ n9 : Int, ∃ k9 : Int, ∃ A2 : Int → Int, ∃ T2 : Int → Int, ∃ W2 : Int → Int, ∃ S2 : Int → Int, ∃ t4 : Int, ∃ t5 : Int, ∃ t6 : Int, ∃ t7 : Int, ∃ B3 : Int → Int, ∃ F3 : Int → Int, ∃ H3 : Int → Int, ∃ L3 : Int → Int, ∃ y2 : Nat → LwY, z = z9 ∧ u = ([(h0, ob 10 f), (oW, ob 7 fW), (oP, ob 4 (uF (uF (uF fP 6 (iv p9)) 7 (iv n9)) 8 (iv k9))), (aA, ar 1206 A2), (aT, ar 180 T2), (aW, ar 6 W2), (aS, ar 30 S2), (oS, ob 5 fS), (aB, ar 6 B), (aF, ar 6 Fo), (aH, ar 6 Ho), (aL, ar 6 Lt), (oT, ob 5 (uF (uF (uF (uF fT 0 (iv t4)) 1 (iv t5)) 2 (iv t6)) 3 (iv t7))), (tB, ar 6 B3), (tF, ar 6 F3), (tH, ar 6 H3), (tL, ar 6 L3), (wD, ar 6 WD), (wK, ar 6 WK), (oA, aq 4 (lwR ds)), (oD, ob 0 fD)] ++ (lwT ds y2)) ∧ okW ds y2 mt pl) := by
  refine AMi.of2 rfl (nle rfl) ?_
  intro D G A p e s m args below meth c Po hPo X
  have hz6 := hz.2.1
  have hz0 := hz.1
  have hzn := hz.2.2.1
  have hzm := hz.2.2.2.1
  have hze := hz.2.2.2.2
  refine S_aload_n X dX11_gift_0 rfl rfl ?_
  refine S_iload_n X dX11_gift_1 rfl rfl ?_
  refine S_calli X (kX11_isOneOfTwo l h0 f oW fW pl v hf0 hf4 (by omega) (by omega)) (is := [0, 1]) rfl (run_V X lkX11_252 0 rfl rfl (is := [0, 1]) (avs := [iv v]) (rest := []) rfl rfl (nle rfl) ⟨nle rfl, nle rfl⟩ ⟨nle rfl, nle rfl⟩ dX11_gift_2 (by decide) rfl) (fun z_3 u_1 hp_2 => ?_)
  rcases hp_2 with ⟨hz_4, hu_5, hp_6⟩ | ⟨hz_7, hu_8, hp_9⟩
  ·
    subst hz_4
    subst hu_5
    refine ⟨rfl, ?_⟩
    refine S_w (ws' := ([(h0, ob 10 f), (oW, ob 7 fW), (oP, ob 4 (uF (uF (uF fP 6 (iv p0)) 7 (iv n0)) 8 (iv k0))), (aA, ar 1206 Ab), (aT, ar 180 Tm), (aW, ar 6 Wq), (aS, ar 30 Sp), (oS, ob 5 fS), (aB, ar 6 B), (aF, ar 6 Fo), (aH, ar 6 Ho), (aL, ar 6 Lt), (oT, ob 5 (uF (uF (uF (uF fT 0 (iv t0)) 1 (iv t1)) 2 (iv t2)) 3 (iv t3))), (tB, ar 6 TB), (tF, ar 6 TF), (tH, ar 6 TH), (tL, ar 6 TL), (wD, ar 6 WD), (wK, ar 6 WK), (oA, aq 4 (lwR ds)), (oD, ob 0 fD)] ++ (lwT ds ys))) (by simp only [putC, List.set, List.append_nil, List.cons_append, List.nil_append]) ?_
    refine S_if_eq (tgt := 21) X dX11_gift_5 (by decide) (by decide) (fun _ => ?_) (fun h9 => absurd h9 (by decide))
    refine S_iconst X dX11_gift_21 ?_
    exact S_iret X (nle rfl) (nle rfl) dX11_gift_22 (hPo _ _ (⟨_, _, _, _, _, _, _, _, _, _, _, _, _, _, _, _, ys, rfl, rfl, hdy⟩))
  ·
    subst hz_7
    subst hu_8
    refine ⟨rfl, ?_⟩
    refine S_w (ws' := ([(h0, ob 10 f), (oW, ob 7 fW), (oP, ob 4 (uF (uF (uF fP 6 (iv p0)) 7 (iv n0)) 8 (iv k0))), (aA, ar 1206 Ab), (aT, ar 180 Tm), (aW, ar 6 Wq), (aS, ar 30 Sp), (oS, ob 5 fS), (aB, ar 6 B), (aF, ar 6 Fo), (aH, ar 6 Ho), (aL, ar 6 Lt), (oT, ob 5 (uF (uF (uF (uF fT 0 (iv t0)) 1 (iv t1)) 2 (iv t2)) 3 (iv t3))), (tB, ar 6 TB), (tF, ar 6 TF), (tH, ar 6 TH), (tL, ar 6 TL), (wD, ar 6 WD), (wK, ar 6 WK), (oA, aq 4 (lwR ds)), (oD, ob 0 fD)] ++ (lwT ds ys))) (by simp only [putC, List.set, List.append_nil, List.cons_append, List.nil_append]) ?_
    refine S_if_eq (tgt := 21) X dX11_gift_5 (by decide) (by decide) (fun h9 => absurd h9 (by decide)) (fun _ => ?_)
    refine S_aload_n X dX11_gift_8 rfl rfl ?_
    refine S_get X fgX11_48_10 0 rfl hf26 dX11_gift_9 ?_
    refine S_get X fgX11_205_0 20 rfl hf27 dX11_gift_12 ?_
    refine S_sipush X dX11_gift_15 rfl ?_
    refine S_icmp_le (tgt := 23) X dX11_gift_18 (by decide) (by omega) (by decide) (fun c_12 => ?_) (fun c_12 => ?_)
    ·
      have hok := hz.s (by omega)
      have hpl := hok.2.1
      have hpl1 := hok.1
      have hn1 := hok.2.2.1
      have hn2 := hok.2.2.2.1
      have hec := hok.2.2.2.2
      have hod := hod0 (by omega)
      have hod1 := hod.1
      have hod2 := hod.2.1
      refine S_aload_n X dX11_gift_23 rfl rfl ?_
      refine S_aload_n X dX11_gift_24 rfl rfl ?_
      refine S_get X fgX11_48_10 0 rfl hf26 dX11_gift_25 ?_
      refine S_get X fgX11_205_0 20 rfl hf27 dX11_gift_28 ?_
      refine S_calliT X (kX11_wetness l h0 f oW fW pl ds ys mt lw oA ho td hf0 hf4 hf23 hf24 hf25 (by omega) (by omega) hds hdy hho (by omega)) (is := [0, 1, 19]) rfl (run_V X lkX11_199 0 rfl rfl (is := isT [0, 1, 19] 21 (List.length (lwT ds ys))) (avs := [iv td]) (rest := []) rfl rfl (nle rfl) ⟨nle rfl, nle rfl⟩ ⟨nle rfl, nle rfl⟩ dX11_gift_31 (isT_nd rfl (by decide)) (isT_map rfl)) (fun z_15 u_13 hp_14 => ?_)
      obtain ⟨y2_16, hz_17, hu_18, hy2_19⟩ := hp_14
      subst hz_17
      subst hu_18
      refine ⟨_, _, rfl, rfl, lwT_key _ _ _, ?_⟩
      refine S_w (ws' := ([(h0, ob 10 f), (oW, ob 7 fW), (oP, ob 4 (uF (uF (uF fP 6 (iv p0)) 7 (iv n0)) 8 (iv k0))), (aA, ar 1206 Ab), (aT, ar 180 Tm), (aW, ar 6 Wq), (aS, ar 30 Sp), (oS, ob 5 fS), (aB, ar 6 B), (aF, ar 6 Fo), (aH, ar 6 Ho), (aL, ar 6 Lt), (oT, ob 5 (uF (uF (uF (uF fT 0 (iv t0)) 1 (iv t1)) 2 (iv t2)) 3 (iv t3))), (tB, ar 6 TB), (tF, ar 6 TF), (tH, ar 6 TH), (tL, ar 6 TL), (wD, ar 6 WD), (wK, ar 6 WK), (oA, aq 4 (lwR ds)), (oD, ob 0 fD)] ++ (lwT ds y2_16))) (by simp only [putC, List.set, List.append_nil, List.cons_append, List.nil_append]) ?_
      have h91 := hy2_19
      obtain ⟨w9, hw9⟩ : ∃ z9, z9 = aDy ho (csA ds ho) mt pl td := ⟨_, rfl⟩
      rw [← hw9]
      have hwr := aDy_in (ho := ho) (cs := csA ds ho) (mt := mt) (pl := pl) (d := td) (by omega)
      rw [← hw9] at hwr
      refine S_istore_n X dX11_gift_34 rfl (nle rfl) ?_
      refine S_aload_n X dX11_gift_35 rfl rfl ?_
      refine S_get X fgX11_63_10 0 rfl hf3 dX11_gift_36 ?_
      refine S_aload_n X dX11_gift_39 rfl rfl ?_
      refine S_get X fgX11_59_10 0 rfl hf1 dX11_gift_40 ?_
      refine S_callv X (kX6_copyFrom l fS pl n ec mk oS aB aF aH aL B Fo Ho Lt oT tB tF tH tL fT TB TF TH TL t0 t1 t2 t3 hf9 hf10 hf11 hf12 hf13 hf14 hf15 hf16 hf17 hf18 hf19 hf20) (is := [12, 13, 14, 15, 16, 7, 8, 9, 10, 11]) rfl (run_V X lkX11_289 12 rfl rfl (is := [12, 13, 14, 15, 16, 7, 8, 9, 10, 11]) (avs := [rv oS]) (rest := []) rfl rfl (nle rfl) ⟨nle rfl, nle rfl⟩ ⟨nle rfl, nle rfl⟩ dX11_gift_43 (by decide) rfl) (fun u_20 hp_21 => ?_)
      obtain ⟨B2_23, F2_24, H2_25, L2_26, hu_28, hB2_29, hF2_30, hH2_31, hL2_32⟩ := hp_21
      subst hu_28
      refine ⟨rfl, ?_⟩
      refine S_w (ws' := ([(h0, ob 10 f), (oW, ob 7 fW), (oP, ob 4 (uF (uF (uF fP 6 (iv p0)) 7 (iv n0)) 8 (iv k0))), (aA, ar 1206 Ab), (aT, ar 180 Tm), (aW, ar 6 Wq), (aS, ar 30 Sp), (oS, ob 5 fS), (aB, ar 6 B), (aF, ar 6 Fo), (aH, ar 6 Ho), (aL, ar 6 Lt), (oT, ob 5 (uF (uF (uF (uF fT 0 (iv pl)) 1 (iv n)) 2 (iv ec)) 3 (iv mk))), (tB, ar 6 B2_23), (tF, ar 6 F2_24), (tH, ar 6 H2_25), (tL, ar 6 L2_26), (wD, ar 6 WD), (wK, ar 6 WK), (oA, aq 4 (lwR ds)), (oD, ob 0 fD)] ++ (lwT ds y2_16))) (by simp only [putC, List.set, List.append_nil, List.cons_append, List.nil_append]) ?_
      have hB9 := hB2_29
      have hF9 := hF2_30
      have hH9 := hH2_31
      have hL9 := hL2_32
      have hte := te_0 (pl := pl) (by omega) hB9 hF9 hH9 hL9
      refine S_ldc (n := 1000000000) X m813 dX11_gift_46 ?_
      refine S_istore_n X dX11_gift_48 rfl (nle rfl) ?_
      refine S_iconst X dX11_gift_49 ?_
      refine S_istore X dX11_gift_50 (nle rfl) ?_
      refine S_iconst X dX11_gift_52 ?_
      refine S_istore X dX11_gift_53 (nle rfl) ?_
      have lp55_2 : ∀ (N : Nat) (i : Int) (be : Int) (who : Int) (Bz : Int → Int) (Aw : Int → Int) (Tw : Int → Int) (Ww : Int → Int) (Sw : Int → Int) (pw : Int) (nw : Int) (kw : Int) (L : Nat → Option AV), 0 ≤ i ∧ i ≤ pl → 0 ≤ be ∧ be ≤ 1000000000 → L 0 = some (rv h0) → L 1 = some (iv v) → L 2 = some (iv w9) → L 3 = some (iv be) → L 4 = some (iv who) → L 5 = some (iv i) → pl + 1 - i < (N : Int) → S_ p l e (rmD 8 0 0) s m args below meth c (MQ below (QcI D G A Po) args s 0 0 A) D G A 7 0 0 55 L [] ([(h0, ob 10 f), (oW, ob 7 fW), (oP, ob 4 (uF (uF (uF fP 6 (iv pw)) 7 (iv nw)) 8 (iv kw))), (aA, ar 1206 Aw), (aT, ar 180 Tw), (aW, ar 6 Ww), (aS, ar 30 Sw), (oS, ob 5 fS), (aB, ar 6 B), (aF, ar 6 Fo), (aH, ar 6 Ho), (aL, ar 6 Lt), (oT, ob 5 (uF (uF (uF (uF fT 0 (iv pl)) 1 (iv n)) 2 (iv ec)) 3 (iv mk))), (tB, ar 6 Bz), (tF, ar 6 F2_24), (tH, ar 6 H2_25), (tL, ar 6 L2_26), (wD, ar 6 WD), (wK, ar 6 WK), (oA, aq 4 (lwR ds)), (oD, ob 0 fD)] ++ (lwT ds y2_16)) := by
        intro N
        induction N with
        | zero =>
          intro i be who Bz Aw Tw Ww Sw pw nw kw L55 hi hbe hL55_0 hL55_1 hL55_2 hL55_3 hL55_4 hL55_5 hN55
          exfalso; omega
        | succ N ih55 =>
          intro i be who Bz Aw Tw Ww Sw pw nw kw L55 hi hbe hL55_0 hL55_1 hL55_2 hL55_3 hL55_4 hL55_5 hN55
          refine S_iload X dX11_gift_55 hL55_5 ?_
          refine S_aload_n X dX11_gift_57 rfl hL55_0 ?_
          refine S_get X fgX11_35_10 0 rfl hf0 dX11_gift_58 ?_
          refine S_get X fgX11_115_7 1 rfl hf4 dX11_gift_61 ?_
          refine S_icmp_ge (tgt := 138) X dX11_gift_64 (by decide) (by omega) (by omega) (fun c_33 => ?_) (fun c_33 => ?_)
          ·
            refine S_iload_n X dX11_gift_138 rfl hL55_1 ?_
            refine S_if_ne (tgt := 147) X dX11_gift_139 (by decide) (by omega) (fun c_34 => ?_) (fun c_34 => ?_)
            ·
              refine S_iload_n X dX11_gift_147 rfl hL55_3 ?_
              exact S_iret X (nle rfl) (nle rfl) dX11_gift_148 (hPo _ _ (⟨_, _, _, _, _, _, _, _, _, _, _, _, _, _, _, _, _, rfl, rfl, h91⟩))
            ·
              refine S_iload X dX11_gift_142 hL55_4 ?_
              refine S_goto (tgt := 148) X dX11_gift_144 (by decide) ?_
              exact S_iret X (nle rfl) (nle rfl) dX11_gift_148 (hPo _ _ (⟨_, _, _, _, _, _, _, _, _, _, _, _, _, _, _, _, _, rfl, rfl, h91⟩))
          ·
            refine S_aload_n X dX11_gift_67 rfl hL55_0 ?_
            refine S_get X fgX11_59_10 0 rfl hf1 dX11_gift_68 ?_
            refine S_get X fgX11_158_5 7 rfl hf13 dX11_gift_71 ?_
            refine S_iconst X dX11_gift_74 ?_
            refine S_aload_n X dX11_gift_75 rfl hL55_0 ?_
            refine S_get X fgX11_63_10 0 rfl hf3 dX11_gift_76 ?_
            refine S_get X fgX11_158_5 12 rfl hf17 dX11_gift_79 ?_
            refine S_iconst X dX11_gift_82 ?_
            refine S_bipush X dX11_gift_83 rfl ?_
            refine S_copy (sp := 0) (dp := 0) (n := 6) X m1062 m632 m631 m97 8 13 rfl rfl (by decide) (by decide) (by decide) (by omega) (by omega) (nle rfl) (nle rfl) (nle rfl) (nle rfl) dX11_gift_85 ?_
            refine S_w (ws' := ([(h0, ob 10 f), (oW, ob 7 fW), (oP, ob 4 (uF (uF (uF fP 6 (iv pw)) 7 (iv nw)) 8 (iv kw))), (aA, ar 1206 Aw), (aT, ar 180 Tw), (aW, ar 6 Ww), (aS, ar 30 Sw), (oS, ob 5 fS), (aB, ar 6 B), (aF, ar 6 Fo), (aH, ar 6 Ho), (aL, ar 6 Lt), (oT, ob 5 (uF (uF (uF (uF fT 0 (iv pl)) 1 (iv n)) 2 (iv ec)) 3 (iv mk))), (tB, ar 6 (cpZ B Bz 0 0 6)), (tF, ar 6 F2_24), (tH, ar 6 H2_25), (tL, ar 6 L2_26), (wD, ar 6 WD), (wK, ar 6 WK), (oA, aq 4 (lwR ds)), (oD, ob 0 fD)] ++ (lwT ds y2_16))) rfl ?_
            refine S_aload_n X dX11_gift_88 rfl hL55_0 ?_
            refine S_get X fgX11_35_10 0 rfl hf0 dX11_gift_89 ?_
            refine S_aload_n X dX11_gift_92 rfl hL55_0 ?_
            refine S_get X fgX11_63_10 0 rfl hf3 dX11_gift_93 ?_
            refine S_get X fgX11_158_5 12 rfl hf17 dX11_gift_96 ?_
            refine S_iload X dX11_gift_99 hL55_5 ?_
            refine S_iload_n X dX11_gift_101 rfl hL55_2 ?_
            refine S_callv X (kX8_goThroughDay l oW wD wK fW WD WK pl mt tB (cpZ B Bz 0 0 6) i w9 hf21 hf22 hf4 hf25 (by omega) hod (fun x h0 h1 => by rw [cpZ_in ⟨by omega, by omega⟩]; exact (hok.2.2.2.2.2.2 _ (by omega) (by omega)).2.2.1) (by omega) (by omega)) (is := [1, 17, 18, 13]) rfl (run_V X lkX11_212 1 rfl rfl (is := [1, 17, 18, 13]) (avs := [rv tB, iv i, iv w9]) (rest := []) rfl rfl (nle rfl) ⟨nle rfl, nle rfl⟩ ⟨nle rfl, nle rfl⟩ dX11_gift_102 (by decide) rfl) (fun u_35 hp_36 => ?_)
            obtain ⟨N2_38, hu_40, hN2_41⟩ := hp_36
            subst hu_40
            refine ⟨rfl, ?_⟩
            refine S_w (ws' := ([(h0, ob 10 f), (oW, ob 7 fW), (oP, ob 4 (uF (uF (uF fP 6 (iv pw)) 7 (iv nw)) 8 (iv kw))), (aA, ar 1206 Aw), (aT, ar 180 Tw), (aW, ar 6 Ww), (aS, ar 30 Sw), (oS, ob 5 fS), (aB, ar 6 B), (aF, ar 6 Fo), (aH, ar 6 Ho), (aL, ar 6 Lt), (oT, ob 5 (uF (uF (uF (uF fT 0 (iv pl)) 1 (iv n)) 2 (iv ec)) 3 (iv mk))), (tB, ar 6 N2_38), (tF, ar 6 F2_24), (tH, ar 6 H2_25), (tL, ar 6 L2_26), (wD, ar 6 WD), (wK, ar 6 WK), (oA, aq 4 (lwR ds)), (oD, ob 0 fD)] ++ (lwT ds y2_16))) (by simp only [putC, List.set, List.append_nil, List.cons_append, List.nil_append]) ?_
            have hN9 := hN2_41
            have hok9 := hok.bt hte (Bv := N2_38) (fun x h0 h1 => by rw [hN9]; exact paF_in ⟨hod1, hod2⟩ h0 h1)
            have hwr9 := hok9.worst (mk := mk)
            refine S_aload_n X dX11_gift_105 rfl hL55_0 ?_
            refine S_get X fgX11_69_10 0 rfl hf2 dX11_gift_106 ?_
            refine S_aload_n X dX11_gift_109 rfl hL55_0 ?_
            refine S_get X fgX11_63_10 0 rfl hf3 dX11_gift_110 ?_
            refine S_iload_n X dX11_gift_113 rfl hL55_3 ?_
            refine S_calli X (kX4_perform l fP (uF (uF (uF (uF fT 0 (iv pl)) 1 (iv n)) 2 (iv ec)) 3 (iv mk)) pl n ec mk oP oT aA aT aW aS tB tF tH tL Aw Tw Ww Sw N2_38 F2_24 H2_25 L2_26 pw nw kw be hf5 hf6 hf7 hf8 rfl rfl rfl rfl hf17 hf18 hf19 hf20 hok9 (by omega)) (is := [2, 3, 4, 5, 6, 12, 13, 14, 15, 16]) rfl (run_V X lkX11_235 2 rfl rfl (is := [2, 3, 4, 5, 6, 12, 13, 14, 15, 16]) (avs := [rv oT, iv be]) (rest := []) rfl rfl (nle rfl) ⟨nle rfl, nle rfl⟩ ⟨nle rfl, nle rfl⟩ dX11_gift_114 (by decide) rfl) (fun z_44 u_42 hp_43 => ?_)
            rcases hp_43 with ⟨A2_45, T2_46, W2_47, S2_48, hz_49, hu_50, hq_51⟩ | ⟨A2_52, T2_53, W2_54, S2_55, hz_56, hu_57, hq_58, hA2_59, hT2_60, hS2_61⟩
            ·
              replace hz_49 := Eq.symm hz_49
              subst hz_49
              subst hu_50
              refine ⟨rfl, ?_⟩
              refine S_w (ws' := ([(h0, ob 10 f), (oW, ob 7 fW), (oP, ob 4 (uF (uF (uF fP 6 (iv pl)) 7 (iv n)) 8 (iv mk))), (aA, ar 1206 A2_45), (aT, ar 180 T2_46), (aW, ar 6 W2_47), (aS, ar 30 S2_48), (oS, ob 5 fS), (aB, ar 6 B), (aF, ar 6 Fo), (aH, ar 6 Ho), (aL, ar 6 Lt), (oT, ob 5 (uF (uF (uF (uF fT 0 (iv pl)) 1 (iv n)) 2 (iv ec)) 3 (iv mk))), (tB, ar 6 N2_38), (tF, ar 6 F2_24), (tH, ar 6 H2_25), (tL, ar 6 L2_26), (wD, ar 6 WD), (wK, ar 6 WK), (oA, aq 4 (lwR ds)), (oD, ob 0 fD)] ++ (lwT ds y2_16))) (by simp only [putC, List.set, List.append_nil, List.cons_append, List.nil_append]) ?_
              refine S_istore X dX11_gift_117 (nle rfl) ?_
              refine S_iload X dX11_gift_119 rfl ?_
              refine S_iload_n X dX11_gift_121 rfl hL55_3 ?_
              refine S_icmp_ge (tgt := 132) X dX11_gift_122 (by decide) (by omega) (by omega) (fun c_62 => ?_) (fun c_62 => ?_)
              ·
                refine S_iinc X dX11_gift_132 (nle rfl) hL55_5 ?_
                refine S_goto (tgt := 55) X dX11_gift_135 (by decide) ?_
                exact ih55 (i + 1) be who N2_38 A2_45 T2_46 W2_47 S2_48 pl n mk _ (by omega) (by omega) hL55_0 hL55_1 hL55_2 hL55_3 hL55_4 rfl (by omega)
              ·
                refine S_iload X dX11_gift_125 rfl ?_
                refine S_istore_n X dX11_gift_127 rfl (nle rfl) ?_
                refine S_iload X dX11_gift_128 hL55_5 ?_
                refine S_istore X dX11_gift_130 (nle rfl) ?_
                refine S_iinc X dX11_gift_132 (nle rfl) hL55_5 ?_
                refine S_goto (tgt := 55) X dX11_gift_135 (by decide) ?_
                exact ih55 (i + 1) be i N2_38 A2_45 T2_46 W2_47 S2_48 pl n mk _ (by omega) (by omega) hL55_0 hL55_1 hL55_2 rfl rfl rfl (by omega)
            ·
              subst hz_56
              subst hu_57
              refine ⟨rfl, ?_⟩
              refine S_w (ws' := ([(h0, ob 10 f), (oW, ob 7 fW), (oP, ob 4 (uF (uF (uF fP 6 (iv pl)) 7 (iv n)) 8 (iv mk))), (aA, ar 1206 A2_52), (aT, ar 180 T2_53), (aW, ar 6 W2_54), (aS, ar 30 S2_55), (oS, ob 5 fS), (aB, ar 6 B), (aF, ar 6 Fo), (aH, ar 6 Ho), (aL, ar 6 Lt), (oT, ob 5 (uF (uF (uF (uF fT 0 (iv pl)) 1 (iv n)) 2 (iv ec)) 3 (iv mk))), (tB, ar 6 N2_38), (tF, ar 6 F2_24), (tH, ar 6 H2_25), (tL, ar 6 L2_26), (wD, ar 6 WD), (wK, ar 6 WK), (oA, aq 4 (lwR ds)), (oD, ob 0 fD)] ++ (lwT ds y2_16))) (by simp only [putC, List.set, List.append_nil, List.cons_append, List.nil_append]) ?_
              refine S_istore X dX11_gift_117 (nle rfl) ?_
              refine S_iload X dX11_gift_119 rfl ?_
              refine S_iload_n X dX11_gift_121 rfl hL55_3 ?_
              refine S_icmp_ge (tgt := 132) X dX11_gift_122 (by decide) (by omega) (by omega) (fun c_63 => ?_) (fun c_63 => ?_)
              ·
                refine S_iinc X dX11_gift_132 (nle rfl) hL55_5 ?_
                refine S_goto (tgt := 55) X dX11_gift_135 (by decide) ?_
                exact ih55 (i + 1) be who N2_38 A2_52 T2_53 W2_54 S2_55 pl n mk _ (by omega) (by omega) hL55_0 hL55_1 hL55_2 hL55_3 hL55_4 rfl (by omega)
              ·
                refine S_iload X dX11_gift_125 rfl ?_
                refine S_istore_n X dX11_gift_127 rfl (nle rfl) ?_
                refine S_iload X dX11_gift_128 hL55_5 ?_
                refine S_istore X dX11_gift_130 (nle rfl) ?_
                refine S_iinc X dX11_gift_132 (nle rfl) hL55_5 ?_
                refine S_goto (tgt := 55) X dX11_gift_135 (by decide) ?_
                exact ih55 (i + 1) (WO pl n ec mk F2_24 H2_25 N2_38 L2_26) i N2_38 A2_52 T2_53 W2_54 S2_55 pl n mk _ (by omega) (by omega) hL55_0 hL55_1 hL55_2 rfl rfl rfl (by omega)
      exact lp55_2 (Int.toNat (pl + 1 - 0) + 1) 0 1000000000 0 B2_23 Ab Tm Wq Sp p0 n0 k0 _ (by omega) (by omega) rfl rfl rfl rfl rfl rfl (by omega)
    ·
      refine S_iconst X dX11_gift_21 ?_
      exact S_iret X (nle rfl) (nle rfl) dX11_gift_22 (hPo _ _ (⟨_, _, _, _, _, _, _, _, _, _, _, _, _, _, _, _, ys, rfl, rfl, hdy⟩))
set_option maxHeartbeats 4000000 in
set_option maxRecDepth 100000 in
theorem kX10_find (l : Launch) (oK : Nat) (fK : Nat → AV) (kk : Int) (ro : Int) (le : Int) (kW : Nat) (kB : Nat) (Kw : Int → Int) (Bh : Int → Int) (fP : Nat → AV) (fS : Nat → AV) (pl : Int) (n : Int) (ec : Int) (mk : Int) (oP : Nat) (oS : Nat) (aA : Nat) (aT : Nat) (aW : Nat) (aS : Nat) (aB : Nat) (aF : Nat) (aH : Nat) (aL : Nat) (Ab : Int → Int) (Tm : Int → Int) (Wq : Int → Int) (Sp : Int → Int) (B : Int → Int) (Fo : Int → Int) (Ho : Int → Int) (Lt : Int → Int) (oW : Nat) (wD : Nat) (wK : Nat) (fW : Nat → AV) (WD : Int → Int) (WK : Int → Int) (mt : Int) (oT : Nat) (tB : Nat) (tF : Nat) (tH : Nat) (tL : Nat) (fT : Nat → AV) (TB : Int → Int) (TF : Int → Int) (TH : Int → Int) (TL : Int → Int) (t0 : Int) (t1 : Int) (t2 : Int) (t3 : Int) (p0 : Int) (n0 : Int) (k0 : Int) (hf0 : fK 3 = rv oP) (hf1 : fK 4 = rv oT) (hf2 : fK 5 = rv kW) (hf3 : fK 6 = rv kB) (hf4 : fW 3 = rv wD) (hf5 : fW 4 = rv wK) (hf6 : fW 0 = iv pl) (hf7 : fW 1 = iv mt) (hf8 : fP 0 = rv aA) (hf9 : fP 1 = rv aT) (hf10 : fP 2 = rv aW) (hf11 : fP 3 = rv aS) (hf12 : fS 0 = iv pl) (hf13 : fS 1 = iv n) (hf14 : fS 2 = iv ec) (hf15 : fS 3 = iv mk) (hf16 : fS 4 = rv aB) (hf17 : fS 5 = rv aF) (hf18 : fS 6 = rv aH) (hf19 : fS 7 = rv aL) (hf20 : fT 4 = rv tB) (hf21 : fT 5 = rv tF) (hf22 : fT 6 = rv tH) (hf23 : fT 7 = rv tL) (hok : okS pl n ec Fo Ho B Lt) (hod : okDy pl mt WK WD) (hkw : ∀ x, 0 ≤ x → x < 6 → 0 ≤ Kw x ∧ Kw x ≤ 9) : AMv l yX10_find cX10_find 4 12 0 0 [rv oK, rv oW, rv oS] [(oK, ob 9 (uF (uF (uF fK 0 (iv kk)) 1 (iv ro)) 2 (iv le))), (kW, ar 6 Kw), (kB, ar 42 Bh), (oW, ob 7 fW), (wD, ar 6 WD), (wK, ar 6 WK), (oP, ob 4 (uF (uF (uF fP 6 (iv p0)) 7 (iv n0)) 8 (iv k0))), (aA, ar 1206 Ab), (aT, ar 180 Tm), (aW, ar 6 Wq), (aS, ar 30 Sp), (oS, ob 5 fS), (aB, ar 6 B), (aF, ar 6 Fo), (aH, ar 6 Ho), (aL, ar 6 Lt), (oT, ob 5 (uF (uF (uF (uF fT 0 (iv t0)) 1 (iv t1)) 2 (iv t2)) 3 (iv t3))), (tB, ar 6 TB), (tF, ar 6 TF), (tH, ar 6 TH), (tL, ar 6 TL)] (fun u => ∃ r2 : Int, ∃ l2 : Int, ∃ p9 : Int, ∃ n9 : Int, ∃ k9 : Int, ∃ A2 : Int → Int, ∃ T2 : Int → Int, ∃ W2 : Int → Int, ∃ S2 : Int → Int, ∃ B4 : Int → Int, ∃ B3 : Int → Int, ∃ F3 : Int → Int, ∃ H3 : Int → Int, ∃ L3 : Int → Int, u = [(oK, ob 9 (uF (uF (uF fK 0 (iv 1)) 1 (iv r2)) 2 (iv l2))), (kW, ar 6 Kw), (kB, ar 42 B4), (oW, ob 7 fW), (wD, ar 6 WD), (wK, ar 6 WK), (oP, ob 4 (uF (uF (uF fP 6 (iv p9)) 7 (iv n9)) 8 (iv k9))), (aA, ar 1206 A2), (aT, ar 180 T2), (aW, ar 6 W2), (aS, ar 30 S2), (oS, ob 5 fS), (aB, ar 6 B), (aF, ar 6 Fo), (aH, ar 6 Ho), (aL, ar 6 Lt), (oT, ob 5 (uF (uF (uF (uF fT 0 (iv pl)) 1 (iv n)) 2 (iv ec)) 3 (iv mk))), (tB, ar 6 B3), (tF, ar 6 F3), (tH, ar 6 H3), (tL, ar 6 L3)] ∧ (0 ≤ r2 ∧ r2 ≤ 1000000000) ∧ (0 ≤ l2 ∧ l2 ≤ 1000000000)) := by
  refine AMv.of2 rfl (nle rfl) ?_
  intro D G A p e s m args below meth c Po hPo hnm X
  have hpl := hok.2.1
  have hpl1 := hok.1
  have hn1 := hok.2.2.1
  have hn2 := hok.2.2.2.1
  have hec := hok.2.2.2.2
  refine S_aload_n X dX10_find_0 rfl rfl ?_
  refine S_get X fgX10_22_9 0 rfl hf1 dX10_find_1 ?_
  refine S_aload_n X dX10_find_4 rfl rfl ?_
  refine S_callv X (kX6_copyFrom l fS pl n ec mk oS aB aF aH aL B Fo Ho Lt oT tB tF tH tL fT TB TF TH TL t0 t1 t2 t3 hf12 hf13 hf14 hf15 hf16 hf17 hf18 hf19 hf20 hf21 hf22 hf23) (is := [16, 17, 18, 19, 20, 11, 12, 13, 14, 15]) rfl (run_V X lkX10_26 16 rfl rfl (is := [16, 17, 18, 19, 20, 11, 12, 13, 14, 15]) (avs := [rv oS]) (rest := []) rfl rfl (nle rfl) ⟨nle rfl, nle rfl⟩ ⟨nle rfl, nle rfl⟩ dX10_find_5 (by decide) rfl) (fun u_1 hp_2 => ?_)
  obtain ⟨B2_4, F2_5, H2_6, L2_7, hu_9, hB2_10, hF2_11, hH2_12, hL2_13⟩ := hp_2
  subst hu_9
  refine ⟨rfl, ?_⟩
  refine S_w (ws' := [(oK, ob 9 (uF (uF (uF fK 0 (iv kk)) 1 (iv ro)) 2 (iv le))), (kW, ar 6 Kw), (kB, ar 42 Bh), (oW, ob 7 fW), (wD, ar 6 WD), (wK, ar 6 WK), (oP, ob 4 (uF (uF (uF fP 6 (iv p0)) 7 (iv n0)) 8 (iv k0))), (aA, ar 1206 Ab), (aT, ar 180 Tm), (aW, ar 6 Wq), (aS, ar 30 Sp), (oS, ob 5 fS), (aB, ar 6 B), (aF, ar 6 Fo), (aH, ar 6 Ho), (aL, ar 6 Lt), (oT, ob 5 (uF (uF (uF (uF fT 0 (iv pl)) 1 (iv n)) 2 (iv ec)) 3 (iv mk))), (tB, ar 6 B2_4), (tF, ar 6 F2_5), (tH, ar 6 H2_6), (tL, ar 6 L2_7)]) rfl ?_
  have hB9 := hB2_10
  have hF9 := hF2_11
  have hH9 := hH2_12
  have hL9 := hL2_13
  have hte := te_0 (pl := pl) (by omega) hB9 hF9 hH9 hL9
  refine S_aload_n X dX10_find_8 rfl rfl ?_
  refine S_aload_n X dX10_find_9 rfl rfl ?_
  refine S_aload_n X dX10_find_10 rfl rfl ?_
  refine S_callv X (kX10_foresee l oK (uF (uF (uF fK 0 (iv kk)) 1 (iv ro)) 2 (iv le)) kW kB Kw Bh oW wD wK fW WD WK pl mt fS pl n ec oS aB B Fo Ho Lt hf2 hf3 hf4 hf5 hf6 hf7 hf16 hok hod hkw) (is := [0, 1, 2, 3, 4, 5, 11, 12]) rfl (run_V X lkX10_32 0 rfl rfl (is := [0, 1, 2, 3, 4, 5, 11, 12]) (avs := [rv oW, rv oS]) (rest := []) rfl rfl (nle rfl) ⟨nle rfl, nle rfl⟩ ⟨nle rfl, nle rfl⟩ dX10_find_11 (by decide) rfl) (fun u_14 hp_15 => ?_)
  obtain ⟨B2_17, hu_19, hB2_20⟩ := hp_15
  subst hu_19
  refine ⟨rfl, ?_⟩
  refine S_w (ws' := [(oK, ob 9 (uF (uF (uF fK 0 (iv kk)) 1 (iv ro)) 2 (iv le))), (kW, ar 6 Kw), (kB, ar 42 B2_17), (oW, ob 7 fW), (wD, ar 6 WD), (wK, ar 6 WK), (oP, ob 4 (uF (uF (uF fP 6 (iv p0)) 7 (iv n0)) 8 (iv k0))), (aA, ar 1206 Ab), (aT, ar 180 Tm), (aW, ar 6 Wq), (aS, ar 30 Sp), (oS, ob 5 fS), (aB, ar 6 B), (aF, ar 6 Fo), (aH, ar 6 Ho), (aL, ar 6 Lt), (oT, ob 5 (uF (uF (uF (uF fT 0 (iv pl)) 1 (iv n)) 2 (iv ec)) 3 (iv mk))), (tB, ar 6 B2_4), (tF, ar 6 F2_5), (tH, ar 6 H2_6), (tL, ar 6 L2_7)]) rfl ?_
  have hbh9 := hB2_20
  refine S_iconst X dX10_find_14 ?_
  refine S_istore_n X dX10_find_15 rfl (nle rfl) ?_
  have lp16_0 : ∀ (N : Nat) (i : Int) (Bv : Int → Int) (L : Nat → Option AV), 0 ≤ i ∧ i ≤ pl → (∀ x, 0 ≤ x → x < i → 1 ≤ Bv x ∧ Bv x ≤ 199) → L 0 = some (rv oK) → L 1 = some (rv oW) → L 2 = some (rv oS) → L 3 = some (iv i) → pl + 1 - i < (N : Int) → S_ p l e (rmD 12 0 0) s m args below meth c (MQ below (QcV D G A Po) args s 0 0 A) D G A 4 0 0 16 L [] [(oK, ob 9 (uF (uF (uF fK 0 (iv kk)) 1 (iv ro)) 2 (iv le))), (kW, ar 6 Kw), (kB, ar 42 B2_17), (oW, ob 7 fW), (wD, ar 6 WD), (wK, ar 6 WK), (oP, ob 4 (uF (uF (uF fP 6 (iv p0)) 7 (iv n0)) 8 (iv k0))), (aA, ar 1206 Ab), (aT, ar 180 Tm), (aW, ar 6 Wq), (aS, ar 30 Sp), (oS, ob 5 fS), (aB, ar 6 B), (aF, ar 6 Fo), (aH, ar 6 Ho), (aL, ar 6 Lt), (oT, ob 5 (uF (uF (uF (uF fT 0 (iv pl)) 1 (iv n)) 2 (iv ec)) 3 (iv mk))), (tB, ar 6 Bv), (tF, ar 6 F2_5), (tH, ar 6 H2_6), (tL, ar 6 L2_7)] := by
    intro N
    induction N with
    | zero =>
      intro i Bv L16 hi hBv hL16_0 hL16_1 hL16_2 hL16_3 hN16
      exfalso; omega
    | succ N ih16 =>
      intro i Bv L16 hi hBv hL16_0 hL16_1 hL16_2 hL16_3 hN16
      refine S_iload_n X dX10_find_16 rfl hL16_3 ?_
      refine S_aload_n X dX10_find_17 rfl hL16_0 ?_
      refine S_get X fgX10_22_9 0 rfl hf1 dX10_find_18 ?_
      refine S_get (v := iv pl) X fgX10_36_5 16 rfl rfl dX10_find_21 ?_
      refine S_icmp_ge (tgt := 52) X dX10_find_24 (by decide) (by omega) (by omega) (fun c_21 => ?_) (fun c_21 => ?_)
      ·
        refine S_aload_n X dX10_find_52 rfl hL16_0 ?_
        refine S_ldc (n := 1000000000) X m1049 dX10_find_53 ?_
        refine S_put X fpX10_48_9 0 rfl FT_i dX10_find_55 ?_
        refine S_w (ws' := [(oK, ob 9 (uF (uF (uF fK 0 (iv kk)) 1 (iv 1000000000)) 2 (iv le))), (kW, ar 6 Kw), (kB, ar 42 B2_17), (oW, ob 7 fW), (wD, ar 6 WD), (wK, ar 6 WK), (oP, ob 4 (uF (uF (uF fP 6 (iv p0)) 7 (iv n0)) 8 (iv k0))), (aA, ar 1206 Ab), (aT, ar 180 Tm), (aW, ar 6 Wq), (aS, ar 30 Sp), (oS, ob 5 fS), (aB, ar 6 B), (aF, ar 6 Fo), (aH, ar 6 Ho), (aL, ar 6 Lt), (oT, ob 5 (uF (uF (uF (uF fT 0 (iv pl)) 1 (iv n)) 2 (iv ec)) 3 (iv mk))), (tB, ar 6 Bv), (tF, ar 6 F2_5), (tH, ar 6 H2_6), (tL, ar 6 L2_7)]) (by simp only [List.set]; rw [uF_mv (j := 2) (k := 1) (by decide), uF_same (k := 1)]) ?_
        refine S_aload_n X dX10_find_58 rfl hL16_0 ?_
        refine S_ldc (n := 1000000000) X m1049 dX10_find_59 ?_
        refine S_put X fpX10_51_9 0 rfl FT_i dX10_find_61 ?_
        refine S_w (ws' := [(oK, ob 9 (uF (uF (uF fK 0 (iv kk)) 1 (iv 1000000000)) 2 (iv 1000000000))), (kW, ar 6 Kw), (kB, ar 42 B2_17), (oW, ob 7 fW), (wD, ar 6 WD), (wK, ar 6 WK), (oP, ob 4 (uF (uF (uF fP 6 (iv p0)) 7 (iv n0)) 8 (iv k0))), (aA, ar 1206 Ab), (aT, ar 180 Tm), (aW, ar 6 Wq), (aS, ar 30 Sp), (oS, ob 5 fS), (aB, ar 6 B), (aF, ar 6 Fo), (aH, ar 6 Ho), (aL, ar 6 Lt), (oT, ob 5 (uF (uF (uF (uF fT 0 (iv pl)) 1 (iv n)) 2 (iv ec)) 3 (iv mk))), (tB, ar 6 Bv), (tF, ar 6 F2_5), (tH, ar 6 H2_6), (tL, ar 6 L2_7)]) (by simp only [List.set]; rw [uF_same (k := 2)]) ?_
        refine S_aload_n X dX10_find_64 rfl hL16_0 ?_
        refine S_iconst X dX10_find_65 ?_
        refine S_iconst X dX10_find_66 ?_
        refine S_iconst X dX10_find_67 ?_
        refine S_iconst X dX10_find_68 ?_
        refine S_callv X ((cho_all l 6) oK (uF fK 0 (iv kk)) 1000000000 1000000000 kB B2_17 fP (uF (uF (uF (uF fT 0 (iv pl)) 1 (iv n)) 2 (iv ec)) 3 (iv mk)) pl n ec mk oP oT aA aT aW aS tB tF tH tL Ab Tm Wq Sp Bv F2_5 H2_6 L2_7 p0 n0 k0 5 0 0 1 hf0 hf1 hf3 hf8 hf9 hf10 hf11 rfl rfl rfl rfl hf20 hf21 hf22 hf23 (hok.bt hte (fun x h0 h1 => hBv x h0 (by omega))) ⟨by decide, by decide⟩ (by decide) ⟨by decide, by decide⟩ (by decide) hbh9 (by omega) (by omega)) (is := [0, 6, 7, 8, 9, 10, 16, 17, 18, 19, 20, 2]) rfl (run_S X lkX10_54 (is := [0, 6, 7, 8, 9, 10, 16, 17, 18, 19, 20, 2]) (avs := [rv oK, iv 5, iv 0, iv 0, iv 1]) (rest := []) rfl rfl (nle rfl) ⟨nle rfl, nle rfl⟩ ⟨nle rfl, nle rfl⟩ dX10_find_69 (by decide) rfl) (fun u_22 hp_23 => ?_)
        obtain ⟨r2_25, l2_26, p9_27, n9_28, k9_29, A2_30, T2_31, W2_32, S2_33, B2_34, hu_36, h1_37, h2_38, hB2_39⟩ := hp_23
        subst hu_36
        refine ⟨rfl, ?_⟩
        refine S_w (ws' := [(oK, ob 9 (uF (uF (uF fK 0 (iv kk)) 1 (iv r2_25)) 2 (iv l2_26))), (kW, ar 6 Kw), (kB, ar 42 B2_17), (oW, ob 7 fW), (wD, ar 6 WD), (wK, ar 6 WK), (oP, ob 4 (uF (uF (uF fP 6 (iv p9_27)) 7 (iv n9_28)) 8 (iv k9_29))), (aA, ar 1206 A2_30), (aT, ar 180 T2_31), (aW, ar 6 W2_32), (aS, ar 30 S2_33), (oS, ob 5 fS), (aB, ar 6 B), (aF, ar 6 Fo), (aH, ar 6 Ho), (aL, ar 6 Lt), (oT, ob 5 (uF (uF (uF (uF fT 0 (iv pl)) 1 (iv n)) 2 (iv ec)) 3 (iv mk))), (tB, ar 6 B2_34), (tF, ar 6 F2_5), (tH, ar 6 H2_6), (tL, ar 6 L2_7)]) rfl ?_
        have h91 := h1_37
        have h92 := h2_38
        refine S_aload_n X dX10_find_72 rfl hL16_0 ?_
        refine S_iconst X dX10_find_73 ?_
        refine S_put X fpX10_58_9 0 rfl (FT_b (Or.inr rfl)) dX10_find_74 ?_
        refine S_w (ws' := [(oK, ob 9 (uF (uF (uF fK 0 (iv 1)) 1 (iv r2_25)) 2 (iv l2_26))), (kW, ar 6 Kw), (kB, ar 42 B2_17), (oW, ob 7 fW), (wD, ar 6 WD), (wK, ar 6 WK), (oP, ob 4 (uF (uF (uF fP 6 (iv p9_27)) 7 (iv n9_28)) 8 (iv k9_29))), (aA, ar 1206 A2_30), (aT, ar 180 T2_31), (aW, ar 6 W2_32), (aS, ar 30 S2_33), (oS, ob 5 fS), (aB, ar 6 B), (aF, ar 6 Fo), (aH, ar 6 Ho), (aL, ar 6 Lt), (oT, ob 5 (uF (uF (uF (uF fT 0 (iv pl)) 1 (iv n)) 2 (iv ec)) 3 (iv mk))), (tB, ar 6 B2_34), (tF, ar 6 F2_5), (tH, ar 6 H2_6), (tL, ar 6 L2_7)]) (by simp only [List.set]; rw [uF_mv (j := 2) (k := 0) (by decide), uF_mv (j := 1) (k := 0) (by decide), uF_same (k := 0)]) ?_
        exact S_vret X (nle rfl) (nle rfl) dX10_find_77 (hPo _ (⟨_, _, _, _, _, _, _, _, _, _, _, _, _, _, rfl, h91, h92⟩))
      ·
        have hb9 := hbh9 i (-1) (by omega) (by omega) (by omega) (by omega)
        refine S_aload_n X dX10_find_27 rfl hL16_0 ?_
        refine S_get X fgX10_22_9 0 rfl hf1 dX10_find_28 ?_
        refine S_get X fgX10_40_5 16 rfl hf20 dX10_find_31 ?_
        refine S_iload_n X dX10_find_34 rfl hL16_3 ?_
        refine S_aload_n X dX10_find_35 rfl hL16_0 ?_
        refine S_get X fgX10_15_9 0 rfl hf3 dX10_find_36 ?_
        refine S_iload_n X dX10_find_39 rfl hL16_3 ?_
        refine S_iconst X dX10_find_40 ?_
        refine S_calli X (kX10_slot l i (-1) (by omega) (by omega)) (is := []) rfl (run_S X lkX10_43 (is := []) (avs := [iv i, iv (-1)]) (rest := [rv kB, iv i, rv tB]) rfl rfl (nle rfl) ⟨nle rfl, nle rfl⟩ ⟨nle rfl, nle rfl⟩ dX10_find_41 (by decide) rfl) (fun z_42 u_40 hp_41 => ?_)
        obtain ⟨hz_43, hu_44⟩ := hp_41
        subst hz_43
        subst hu_44
        refine ⟨rfl, ?_⟩
        refine S_w (ws' := [(oK, ob 9 (uF (uF (uF fK 0 (iv kk)) 1 (iv ro)) 2 (iv le))), (kW, ar 6 Kw), (kB, ar 42 B2_17), (oW, ob 7 fW), (wD, ar 6 WD), (wK, ar 6 WK), (oP, ob 4 (uF (uF (uF fP 6 (iv p0)) 7 (iv n0)) 8 (iv k0))), (aA, ar 1206 Ab), (aT, ar 180 Tm), (aW, ar 6 Wq), (aS, ar 30 Sp), (oS, ob 5 fS), (aB, ar 6 B), (aF, ar 6 Fo), (aH, ar 6 Ho), (aL, ar 6 Lt), (oT, ob 5 (uF (uF (uF (uF fT 0 (iv pl)) 1 (iv n)) 2 (iv ec)) 3 (iv mk))), (tB, ar 6 Bv), (tF, ar 6 F2_5), (tH, ar 6 H2_6), (tL, ar 6 L2_7)]) rfl ?_
        refine S_iald X 2 rfl (by omega) (by omega) (nle rfl) dX10_find_44 ?_
        refine S_iast X 17 rfl (by omega) (by omega) (nle rfl) dX10_find_45 ?_
        refine S_w (ws' := [(oK, ob 9 (uF (uF (uF fK 0 (iv kk)) 1 (iv ro)) 2 (iv le))), (kW, ar 6 Kw), (kB, ar 42 B2_17), (oW, ob 7 fW), (wD, ar 6 WD), (wK, ar 6 WK), (oP, ob 4 (uF (uF (uF fP 6 (iv p0)) 7 (iv n0)) 8 (iv k0))), (aA, ar 1206 Ab), (aT, ar 180 Tm), (aW, ar 6 Wq), (aS, ar 30 Sp), (oS, ob 5 fS), (aB, ar 6 B), (aF, ar 6 Fo), (aH, ar 6 Ho), (aL, ar 6 Lt), (oT, ob 5 (uF (uF (uF (uF fT 0 (iv pl)) 1 (iv n)) 2 (iv ec)) 3 (iv mk))), (tB, ar 6 (uZ Bv i (B2_17 (i * 7 + (-1) + 1)))), (tF, ar 6 F2_5), (tH, ar 6 H2_6), (tL, ar 6 L2_7)]) rfl ?_
        refine S_iinc X dX10_find_46 (nle rfl) hL16_3 ?_
        refine S_goto (tgt := 16) X dX10_find_49 (by decide) ?_
        exact ih16 (i + 1) (uZ Bv i (B2_17 (i * 7 + (-1) + 1))) _ (by omega) (fun x h0 h1 => by unfold uZ; split; exact hb9; exact hBv x h0 (by omega)) hL16_0 hL16_1 hL16_2 rfl (by omega)
  exact lp16_0 (Int.toNat (pl + 1 - 0) + 1) 0 B2_4 _ (by omega) (fun x h0 h1 => by omega) rfl rfl rfl rfl (by omega)
set_option maxHeartbeats 4000000 in
set_option maxRecDepth 100000 in
theorem kX11_week (l : Launch) (h0 : Nat) (f : Nat → AV) (oW : Nat) (fW : Nat → AV) (fP : Nat → AV) (fS : Nat → AV) (pl : Int) (n : Int) (ec : Int) (mk : Int) (oP : Nat) (oS : Nat) (aA : Nat) (aT : Nat) (aW : Nat) (aS : Nat) (aB : Nat) (aF : Nat) (aH : Nat) (aL : Nat) (Ab : Int → Int) (Tm : Int → Int) (Wq : Int → Int) (Sp : Int → Int) (B : Int → Int) (Fo : Int → Int) (Ho : Int → Int) (Lt : Int → Int) (p0 : Int) (n0 : Int) (k0 : Int) (v : Int) (oK : Nat) (fK : Nat → AV) (kk : Int) (ro : Int) (le : Int) (kW : Nat) (kB : Nat) (Kw : Int → Int) (Bh : Int → Int) (wD : Nat) (wK : Nat) (WD : Int → Int) (WK : Int → Int) (oT : Nat) (tB : Nat) (tF : Nat) (tH : Nat) (tL : Nat) (fT : Nat → AV) (TB : Int → Int) (TF : Int → Int) (TH : Int → Int) (TL : Int → Int) (t0 : Int) (t1 : Int) (t2 : Int) (t3 : Int) (oD : Nat) (fD : Nat → AV) (td : Int) (ds : List LwS) (ys : Nat → LwY) (mt : Int) (lw : Int) (oA : Nat) (ho : Int) (hf0 : f 3 = rv oW) (hf1 : f 7 = rv oS) (hf2 : f 9 = rv oP) (hf3 : fW 0 = iv pl) (hf4 : fP 0 = rv aA) (hf5 : fP 1 = rv aT) (hf6 : fP 2 = rv aW) (hf7 : fP 3 = rv aS) (hf8 : fS 0 = iv pl) (hf9 : fS 1 = iv n) (hf10 : fS 2 = iv ec) (hf11 : fS 3 = iv mk) (hf12 : fS 4 = rv aB) (hf13 : fS 5 = rv aF) (hf14 : fS 6 = rv aH) (hf15 : fS 7 = rv aL) (hf16 : fK 3 = rv oP) (hf17 : fK 4 = rv oT) (hf18 : fK 5 = rv kW) (hf19 : fK 6 = rv kB) (hf20 : fW 3 = rv wD) (hf21 : fW 4 = rv wK) (hf22 : f 4 = rv oA) (hf23 : f 14 = iv ho) (hf24 : fW 1 = iv mt) (hf25 : fT 4 = rv tB) (hf26 : fT 5 = rv tF) (hf27 : fT 6 = rv tH) (hf28 : fT 7 = rv tL) (hf29 : f 5 = rv oD) (hf30 : fD 0 = iv td) (hf31 : f 11 = rv oK) (hf32 : f 8 = rv oT) (hz : okZ pl n ec Fo Ho B Lt) (hx_v : inR v) (hod0 : 1 ≤ pl → okDy pl mt WK WD) (hds : (ds.length : Int) = lw ∧ 0 ≤ lw ∧ lw ≤ 4) (hdy : okW ds ys mt pl) (hho : -1 ≤ ho ∧ ho < lw) (htd : 0 ≤ td ∧ td ≤ 1000) (hkw : ∀ x, 0 ≤ x → x < 6 → 0 ≤ Kw x ∧ Kw x ≤ 9) (hkk : kk = 0 ∨ kk = 1) (hrl : 0 ≤ ro ∧ ro ≤ 1000000000 ∧ 0 ≤ le ∧ le ≤ 1000000000) : AMi l yX11_week cX11_week 3 .int 13 0 0 [rv h0, iv v] ([(h0, ob 10 f), (oW, ob 7 fW), (oK, ob 9 (uF (uF (uF fK 0 (iv kk)) 1 (iv ro)) 2 (iv le))), (kW, ar 6 Kw), (kB, ar 42 Bh), (wD, ar 6 WD), (wK, ar 6 WK), (oP, ob 4 (uF (uF (uF fP 6 (iv p0)) 7 (iv n0)) 8 (iv k0))), (aA, ar 1206 Ab), (aT, ar 180 Tm), (aW, ar 6 Wq), (aS, ar 30 Sp), (oS, ob 5 fS), (aB, ar 6 B), (aF, ar 6 Fo), (aH, ar 6 Ho), (aL, ar 6 Lt), (oT, ob 5 (uF (uF (uF (uF fT 0 (iv t0)) 1 (iv t1)) 2 (iv t2)) 3 (iv t3))), (tB, ar 6 TB), (tF, ar 6 TF), (tH, ar 6 TH), (tL, ar 6 TL), (oD, ob 0 fD), (oA, aq 4 (lwR ds))] ++ (lwT ds ys)) (fun z u => ∃ z9 : Int, ∃ r2 : Int, ∃ l2 : Int, ∃ p9 : Int, ∃ n9 : Int, ∃ k9 : Int, ∃ A2 : Int → Int, ∃ T2 : Int → Int, ∃ W2 : Int → Int, ∃ S2 : Int → Int, ∃ B4 : Int → Int, ∃ B3 : Int → Int, ∃ F3 : Int → Int, ∃ H3 : Int → Int, ∃ L3 : Int → Int, ∃ Kw2 : Int → Int, ∃ t4 : Int, ∃ t5 : Int, ∃ t6 : Int, ∃ t7 : Int, ∃ k2 : Int, ∃ y2 : Nat → LwY, z = z9 ∧ u = ([(h0, ob 10 f), (oW, ob 7 fW), (oK, ob 9 (uF (uF (uF fK 0 (iv k2)) 1 (iv r2)) 2 (iv l2))), (kW, ar 6 Kw2), (kB, ar 42 B4), (wD, ar 6 WD), (wK, ar 6 WK), (oP, ob 4 (uF (uF (uF fP 6 (iv p9)) 7 (iv n9)) 8 (iv k9))), (aA, ar 1206 A2), (aT, ar 180 T2), (aW, ar 6 W2), (aS, ar 30 S2), (oS, ob 5 fS), (aB, ar 6 B), (aF, ar 6 Fo), (aH, ar 6 Ho), (aL, ar 6 Lt), (oT, ob 5 (uF (uF (uF (uF fT 0 (iv t4)) 1 (iv t5)) 2 (iv t6)) 3 (iv t7))), (tB, ar 6 B3), (tF, ar 6 F3), (tH, ar 6 H3), (tL, ar 6 L3), (oD, ob 0 fD), (oA, aq 4 (lwR ds))] ++ (lwT ds y2)) ∧ okW ds y2 mt pl ∧ (∀ x, 0 ≤ x → x < 6 → 0 ≤ Kw2 x ∧ Kw2 x ≤ 9) ∧ (k2 = 0 ∨ k2 = 1) ∧ (0 ≤ r2 ∧ r2 ≤ 1000000000 ∧ 0 ≤ l2 ∧ l2 ≤ 1000000000)) := by
  refine AMi.of2 rfl (nle rfl) ?_
  intro D G A p e s m args below meth c Po hPo X
  have hz6 := hz.2.1
  have hz0 := hz.1
  have hzn := hz.2.2.1
  have hzm := hz.2.2.2.1
  have hze := hz.2.2.2.2
  refine S_aload_n X dX11_week_0 rfl rfl ?_
  refine S_iload_n X dX11_week_1 rfl rfl ?_
  refine S_calli X (kX11_isOneOfTwo l h0 f oW fW pl v hf0 hf3 (by omega) (by omega)) (is := [0, 1]) rfl (run_V X lkX11_252 0 rfl rfl (is := [0, 1]) (avs := [iv v]) (rest := []) rfl rfl (nle rfl) ⟨nle rfl, nle rfl⟩ ⟨nle rfl, nle rfl⟩ dX11_week_2 (by decide) rfl) (fun z_3 u_1 hp_2 => ?_)
  rcases hp_2 with ⟨hz_4, hu_5, hp_6⟩ | ⟨hz_7, hu_8, hp_9⟩
  ·
    subst hz_4
    subst hu_5
    refine ⟨rfl, ?_⟩
    refine S_w (ws' := ([(h0, ob 10 f), (oW, ob 7 fW), (oK, ob 9 (uF (uF (uF fK 0 (iv kk)) 1 (iv ro)) 2 (iv le))), (kW, ar 6 Kw), (kB, ar 42 Bh), (wD, ar 6 WD), (wK, ar 6 WK), (oP, ob 4 (uF (uF (uF fP 6 (iv p0)) 7 (iv n0)) 8 (iv k0))), (aA, ar 1206 Ab), (aT, ar 180 Tm), (aW, ar 6 Wq), (aS, ar 30 Sp), (oS, ob 5 fS), (aB, ar 6 B), (aF, ar 6 Fo), (aH, ar 6 Ho), (aL, ar 6 Lt), (oT, ob 5 (uF (uF (uF (uF fT 0 (iv t0)) 1 (iv t1)) 2 (iv t2)) 3 (iv t3))), (tB, ar 6 TB), (tF, ar 6 TF), (tH, ar 6 TH), (tL, ar 6 TL), (oD, ob 0 fD), (oA, aq 4 (lwR ds))] ++ (lwT ds ys))) (by simp only [putC, List.set, List.append_nil, List.cons_append, List.nil_append]) ?_
    refine S_if_eq (tgt := 24) X dX11_week_5 (by decide) (by decide) (fun _ => ?_) (fun h9 => absurd h9 (by decide))
    refine S_iconst X dX11_week_24 ?_
    exact S_iret X (nle rfl) (nle rfl) dX11_week_25 (hPo _ _ (⟨_, _, _, _, _, _, _, _, _, _, _, _, _, _, _, _, _, _, _, _, _, _, rfl, rfl, hdy, hkw, by omega, by omega⟩))
  ·
    subst hz_7
    subst hu_8
    refine ⟨rfl, ?_⟩
    refine S_w (ws' := ([(h0, ob 10 f), (oW, ob 7 fW), (oK, ob 9 (uF (uF (uF fK 0 (iv kk)) 1 (iv ro)) 2 (iv le))), (kW, ar 6 Kw), (kB, ar 42 Bh), (wD, ar 6 WD), (wK, ar 6 WK), (oP, ob 4 (uF (uF (uF fP 6 (iv p0)) 7 (iv n0)) 8 (iv k0))), (aA, ar 1206 Ab), (aT, ar 180 Tm), (aW, ar 6 Wq), (aS, ar 30 Sp), (oS, ob 5 fS), (aB, ar 6 B), (aF, ar 6 Fo), (aH, ar 6 Ho), (aL, ar 6 Lt), (oT, ob 5 (uF (uF (uF (uF fT 0 (iv t0)) 1 (iv t1)) 2 (iv t2)) 3 (iv t3))), (tB, ar 6 TB), (tF, ar 6 TF), (tH, ar 6 TH), (tL, ar 6 TL), (oD, ob 0 fD), (oA, aq 4 (lwR ds))] ++ (lwT ds ys))) (by simp only [putC, List.set, List.append_nil, List.cons_append, List.nil_append]) ?_
    refine S_if_eq (tgt := 24) X dX11_week_5 (by decide) (by decide) (fun h9 => absurd h9 (by decide)) (fun _ => ?_)
    refine S_aload_n X dX11_week_8 rfl rfl ?_
    refine S_get X fgX11_48_10 0 rfl hf29 dX11_week_9 ?_
    refine S_get X fgX11_205_0 22 rfl hf30 dX11_week_12 ?_
    refine S_bipush X dX11_week_15 rfl ?_
    refine S_iadd X dX11_week_17 ?_
    refine S_sipush X dX11_week_18 rfl ?_
    refine S_icmp_le (tgt := 26) X dX11_week_21 (by decide) (by omega) (by decide) (fun c_12 => ?_) (fun c_12 => ?_)
    ·
      have hok := hz.s (by omega)
      have hpl := hok.2.1
      have hpl1 := hok.1
      have hn1 := hok.2.2.1
      have hn2 := hok.2.2.2.1
      have hec := hok.2.2.2.2
      have hod := hod0 (by omega)
      have hod1 := hod.1
      have hod2 := hod.2.1
      refine S_aload_n X dX11_week_26 rfl rfl ?_
      refine S_get X fgX11_85_10 0 rfl hf31 dX11_week_27 ?_
      refine S_get (v := iv kk) X fgX11_143_9 2 rfl rfl dX11_week_30 ?_
      refine S_if_ne (tgt := 87) X dX11_week_33 (by decide) (by omega) (fun c_13 => ?_) (fun c_13 => ?_)
      ·
        refine S_iload_n X dX11_week_87 rfl rfl ?_
        refine S_if_ne (tgt := 101) X dX11_week_88 (by decide) (by omega) (fun c_14 => ?_) (fun c_14 => ?_)
        ·
          refine S_aload_n X dX11_week_101 rfl rfl ?_
          refine S_get X fgX11_85_10 0 rfl hf31 dX11_week_102 ?_
          refine S_get (v := iv le) X fgX11_319_9 2 rfl rfl dX11_week_105 ?_
          exact S_iret X (nle rfl) (nle rfl) dX11_week_108 (hPo _ _ (⟨_, _, _, _, _, _, _, _, _, _, _, _, _, _, _, _, _, _, _, _, _, _, rfl, rfl, hdy, hkw, by omega, by omega⟩))
        ·
          refine S_aload_n X dX11_week_91 rfl rfl ?_
          refine S_get X fgX11_85_10 0 rfl hf31 dX11_week_92 ?_
          refine S_get (v := iv ro) X fgX11_316_9 2 rfl rfl dX11_week_95 ?_
          refine S_goto (tgt := 108) X dX11_week_98 (by decide) ?_
          exact S_iret X (nle rfl) (nle rfl) dX11_week_108 (hPo _ _ (⟨_, _, _, _, _, _, _, _, _, _, _, _, _, _, _, _, _, _, _, _, _, _, rfl, rfl, hdy, hkw, by omega, by omega⟩))
      ·
        refine S_iconst X dX11_week_36 ?_
        refine S_istore_n X dX11_week_37 rfl (nle rfl) ?_
        have lp38_3 : ∀ (N : Nat) (j : Int) (Kv : Int → Int) (yv : Nat → LwY) (L : Nat → Option AV), 0 ≤ j ∧ j ≤ 6 → (∀ x, 0 ≤ x → x < 6 → 0 ≤ Kv x ∧ Kv x ≤ 9) → okW ds yv mt pl → L 0 = some (rv h0) → L 1 = some (iv v) → L 2 = some (iv j) → 7 - j < (N : Int) → S_ p l e (rmD 13 0 0) s m args below meth c (MQ below (QcI D G A Po) args s 0 0 A) D G A 3 0 0 38 L [] ([(h0, ob 10 f), (oW, ob 7 fW), (oK, ob 9 (uF (uF (uF fK 0 (iv kk)) 1 (iv ro)) 2 (iv le))), (kW, ar 6 Kv), (kB, ar 42 Bh), (wD, ar 6 WD), (wK, ar 6 WK), (oP, ob 4 (uF (uF (uF fP 6 (iv p0)) 7 (iv n0)) 8 (iv k0))), (aA, ar 1206 Ab), (aT, ar 180 Tm), (aW, ar 6 Wq), (aS, ar 30 Sp), (oS, ob 5 fS), (aB, ar 6 B), (aF, ar 6 Fo), (aH, ar 6 Ho), (aL, ar 6 Lt), (oT, ob 5 (uF (uF (uF (uF fT 0 (iv t0)) 1 (iv t1)) 2 (iv t2)) 3 (iv t3))), (tB, ar 6 TB), (tF, ar 6 TF), (tH, ar 6 TH), (tL, ar 6 TL), (oD, ob 0 fD), (oA, aq 4 (lwR ds))] ++ (lwT ds yv)) := by
          intro N
          induction N with
          | zero =>
            intro j Kv yv L38 hj hkv hyv hL38_0 hL38_1 hL38_2 hN38
            exfalso; omega
          | succ N ih38 =>
            intro j Kv yv L38 hj hkv hyv hL38_0 hL38_1 hL38_2 hN38
            refine S_iload_n X dX11_week_38 rfl hL38_2 ?_
            refine S_bipush X dX11_week_39 rfl ?_
            refine S_icmp_ge (tgt := 72) X dX11_week_41 (by decide) (by omega) (by decide) (fun c_15 => ?_) (fun c_15 => ?_)
            ·
              refine S_aload_n X dX11_week_72 rfl hL38_0 ?_
              refine S_get X fgX11_85_10 0 rfl hf31 dX11_week_73 ?_
              refine S_aload_n X dX11_week_76 rfl hL38_0 ?_
              refine S_get X fgX11_35_10 0 rfl hf0 dX11_week_77 ?_
              refine S_aload_n X dX11_week_80 rfl hL38_0 ?_
              refine S_get X fgX11_59_10 0 rfl hf1 dX11_week_81 ?_
              refine S_callv X (kX10_find l oK fK kk ro le kW kB Kv Bh fP fS pl n ec mk oP oS aA aT aW aS aB aF aH aL Ab Tm Wq Sp B Fo Ho Lt oW wD wK fW WD WK mt oT tB tF tH tL fT TB TF TH TL t0 t1 t2 t3 p0 n0 k0 hf16 hf17 hf18 hf19 hf20 hf21 hf3 hf24 hf4 hf5 hf6 hf7 hf8 hf9 hf10 hf11 hf12 hf13 hf14 hf15 hf25 hf26 hf27 hf28 hok hod hkv) (is := [2, 3, 4, 1, 5, 6, 7, 8, 9, 10, 11, 12, 13, 14, 15, 16, 17, 18, 19, 20, 21]) rfl (run_V X lkX11_313 2 rfl rfl (is := [2, 3, 4, 1, 5, 6, 7, 8, 9, 10, 11, 12, 13, 14, 15, 16, 17, 18, 19, 20, 21]) (avs := [rv oW, rv oS]) (rest := []) rfl rfl (nle rfl) ⟨nle rfl, nle rfl⟩ ⟨nle rfl, nle rfl⟩ dX11_week_84 (by decide) rfl) (fun u_16 hp_17 => ?_)
              obtain ⟨r2_19, l2_20, p9_21, n9_22, k9_23, A2_24, T2_25, W2_26, S2_27, B4_28, B3_29, F3_30, H3_31, L3_32, hu_34, h1_35, h2_36⟩ := hp_17
              subst hu_34
              refine ⟨rfl, ?_⟩
              refine S_w (ws' := ([(h0, ob 10 f), (oW, ob 7 fW), (oK, ob 9 (uF (uF (uF fK 0 (iv 1)) 1 (iv r2_19)) 2 (iv l2_20))), (kW, ar 6 Kv), (kB, ar 42 B4_28), (wD, ar 6 WD), (wK, ar 6 WK), (oP, ob 4 (uF (uF (uF fP 6 (iv p9_21)) 7 (iv n9_22)) 8 (iv k9_23))), (aA, ar 1206 A2_24), (aT, ar 180 T2_25), (aW, ar 6 W2_26), (aS, ar 30 S2_27), (oS, ob 5 fS), (aB, ar 6 B), (aF, ar 6 Fo), (aH, ar 6 Ho), (aL, ar 6 Lt), (oT, ob 5 (uF (uF (uF (uF fT 0 (iv pl)) 1 (iv n)) 2 (iv ec)) 3 (iv mk))), (tB, ar 6 B3_29), (tF, ar 6 F3_30), (tH, ar 6 H3_31), (tL, ar 6 L3_32), (oD, ob 0 fD), (oA, aq 4 (lwR ds))] ++ (lwT ds yv))) (by simp only [putC, List.set, List.append_nil, List.cons_append, List.nil_append]) ?_
              have h81 := h1_35
              have h82 := h2_36
              refine S_iload_n X dX11_week_87 rfl hL38_1 ?_
              refine S_if_ne (tgt := 101) X dX11_week_88 (by decide) (by omega) (fun c_37 => ?_) (fun c_37 => ?_)
              ·
                refine S_aload_n X dX11_week_101 rfl hL38_0 ?_
                refine S_get X fgX11_85_10 0 rfl hf31 dX11_week_102 ?_
                refine S_get (v := iv l2_20) X fgX11_319_9 2 rfl rfl dX11_week_105 ?_
                exact S_iret X (nle rfl) (nle rfl) dX11_week_108 (hPo _ _ (⟨_, _, _, _, _, _, _, _, _, _, _, _, _, _, _, _, _, _, _, _, _, _, rfl, rfl, hyv, hkv, by omega, by omega⟩))
              ·
                refine S_aload_n X dX11_week_91 rfl hL38_0 ?_
                refine S_get X fgX11_85_10 0 rfl hf31 dX11_week_92 ?_
                refine S_get (v := iv r2_19) X fgX11_316_9 2 rfl rfl dX11_week_95 ?_
                refine S_goto (tgt := 108) X dX11_week_98 (by decide) ?_
                exact S_iret X (nle rfl) (nle rfl) dX11_week_108 (hPo _ _ (⟨_, _, _, _, _, _, _, _, _, _, _, _, _, _, _, _, _, _, _, _, _, _, rfl, rfl, hyv, hkv, by omega, by omega⟩))
            ·
              refine S_aload_n X dX11_week_44 rfl hL38_0 ?_
              refine S_get X fgX11_85_10 0 rfl hf31 dX11_week_45 ?_
              refine S_get X fgX11_310_9 2 rfl hf18 dX11_week_48 ?_
              refine S_iload_n X dX11_week_51 rfl hL38_2 ?_
              refine S_aload_n X dX11_week_52 rfl hL38_0 ?_
              refine S_aload_n X dX11_week_53 rfl hL38_0 ?_
              refine S_get X fgX11_48_10 0 rfl hf29 dX11_week_54 ?_
              refine S_get X fgX11_205_0 22 rfl hf30 dX11_week_57 ?_
              refine S_iload_n X dX11_week_60 rfl hL38_2 ?_
              refine S_iadd X dX11_week_61 ?_
              refine S_calliT X (kX11_wetness l h0 f oW fW pl ds yv mt lw oA ho (td + j) hf0 hf3 hf22 hf23 hf24 (by omega) (by omega) hds hyv hho (by omega)) (is := [0, 1, 23]) rfl (run_V X lkX11_199 0 rfl rfl (is := isT [0, 1, 23] 24 (List.length (lwT ds yv))) (avs := [iv (td + j)]) (rest := [iv j, rv kW]) rfl rfl (nle rfl) ⟨nle rfl, nle rfl⟩ ⟨nle rfl, nle rfl⟩ dX11_week_62 (isT_nd rfl (by decide)) (isT_map rfl)) (fun z_40 u_38 hp_39 => ?_)
              obtain ⟨y2_41, hz_42, hu_43, hy2_44⟩ := hp_39
              subst hz_42
              subst hu_43
              refine ⟨_, _, rfl, rfl, lwT_key _ _ _, ?_⟩
              refine S_w (ws' := ([(h0, ob 10 f), (oW, ob 7 fW), (oK, ob 9 (uF (uF (uF fK 0 (iv kk)) 1 (iv ro)) 2 (iv le))), (kW, ar 6 Kv), (kB, ar 42 Bh), (wD, ar 6 WD), (wK, ar 6 WK), (oP, ob 4 (uF (uF (uF fP 6 (iv p0)) 7 (iv n0)) 8 (iv k0))), (aA, ar 1206 Ab), (aT, ar 180 Tm), (aW, ar 6 Wq), (aS, ar 30 Sp), (oS, ob 5 fS), (aB, ar 6 B), (aF, ar 6 Fo), (aH, ar 6 Ho), (aL, ar 6 Lt), (oT, ob 5 (uF (uF (uF (uF fT 0 (iv t0)) 1 (iv t1)) 2 (iv t2)) 3 (iv t3))), (tB, ar 6 TB), (tF, ar 6 TF), (tH, ar 6 TH), (tL, ar 6 TL), (oD, ob 0 fD), (oA, aq 4 (lwR ds))] ++ (lwT ds y2_41))) (by simp only [putC, List.set, List.append_nil, List.cons_append, List.nil_append]) ?_
              have h91 := hy2_44
              obtain ⟨w9, hw9⟩ : ∃ z9, z9 = aDy ho (csA ds ho) mt pl (td + j) := ⟨_, rfl⟩
              rw [← hw9]
              have hwr := aDy_in (ho := ho) (cs := csA ds ho) (mt := mt) (pl := pl) (d := td + j) (by omega)
              rw [← hw9] at hwr
              refine S_iast X 3 rfl (by omega) (by omega) (nle rfl) dX11_week_65 ?_
              refine S_w (ws' := ([(h0, ob 10 f), (oW, ob 7 fW), (oK, ob 9 (uF (uF (uF fK 0 (iv kk)) 1 (iv ro)) 2 (iv le))), (kW, ar 6 (uZ Kv j w9)), (kB, ar 42 Bh), (wD, ar 6 WD), (wK, ar 6 WK), (oP, ob 4 (uF (uF (uF fP 6 (iv p0)) 7 (iv n0)) 8 (iv k0))), (aA, ar 1206 Ab), (aT, ar 180 Tm), (aW, ar 6 Wq), (aS, ar 30 Sp), (oS, ob 5 fS), (aB, ar 6 B), (aF, ar 6 Fo), (aH, ar 6 Ho), (aL, ar 6 Lt), (oT, ob 5 (uF (uF (uF (uF fT 0 (iv t0)) 1 (iv t1)) 2 (iv t2)) 3 (iv t3))), (tB, ar 6 TB), (tF, ar 6 TF), (tH, ar 6 TH), (tL, ar 6 TL), (oD, ob 0 fD), (oA, aq 4 (lwR ds))] ++ (lwT ds y2_41))) rfl ?_
              refine S_iinc X dX11_week_66 (nle rfl) hL38_2 ?_
              refine S_goto (tgt := 38) X dX11_week_69 (by decide) ?_
              exact ih38 (j + 1) (uZ Kv j w9) y2_41 _ (by omega) (fun x h0 h1 => by unfold uZ; split; omega; exact hkv x h0 h1) (h91) hL38_0 hL38_1 rfl (by omega)
        exact lp38_3 (Int.toNat (7 - 0) + 1) 0 Kw ys _ (by omega) (hkw) (hdy) rfl rfl rfl (by omega)
    ·
      refine S_iconst X dX11_week_24 ?_
      exact S_iret X (nle rfl) (nle rfl) dX11_week_25 (hPo _ _ (⟨_, _, _, _, _, _, _, _, _, _, _, _, _, _, _, _, _, _, _, _, _, _, rfl, rfl, hdy, hkw, by omega, by omega⟩))
end pt_73ctail
/- 74.news.lean.txt -/
section pt_74news
/-! CELLS MADE: arrays of ints, an object, an array of laws -/
section NW
variable {p : Program} {l : Launch} {e : Env} {R : Room} {s : State} {m : MethodId} {args : Array Value} {below : List Frame} {meth : Method} {c : Code} {Q : State → Prop} {D : va_G} {G : GG} {A : Nat → Prop} {cc : ByteArray} {nL cells slots pc : Nat} {rt : Option FieldType} {own : String} {L : Nat → Option AV} {st : List AV} {ws : EW}
theorem i32_nn {N : Nat} (h : N ≤ 100000) : ¬ i32 (N : Int) < 0 := by
  have e : (0 : Int32) = i32 0 := rfl
  rw [e, i32_lt ⟨by omega, by omega⟩ ⟨by omega, by omega⟩]
  omega
theorem S_newa (X : Cx p s m args meth c D G A cc nL rt own) {N : Nat} (harr : Cond.arrayClass .int ∈ uw) (hN : N ≤ 100000) (hc : cells + 1 ≤ R.cells) (hs : slots + N ≤ R.slots) (hdg : decode cc pc = .ok (.newarray .int, 2)) (k : ∀ q : Nat, S_ p l e R s m args below meth c Q D G A nL (cells + 1) (slots + N) (pc + 2) L (rv q :: st) (ws ++ [(q, ar N (fun _ => 0))])) : S_ p l e R s m args below meth c Q D G A nL cells slots pc L (iv (N : Int) :: st) ws := by
  intro H locs ls hP hD hS hl
  have hw : (Cond.arrayClass (newarray.typeOf .int)).before args s = true := X.2.2.2.2.1 _ harr
  refine va_newa (atype := .int) (a0 := (N, .inl (fun _ => i32 0))) X.1 X.2.1 hw rfl X.2.2.2.2.2.1 hP hD hS X.2.2.2.2.2.2.1 (fun cA => rfl) (i32_nn hN) ?_ ?_ hc hs hdg (fun q cA H1 hK1 hP1 hD1 hS1 => ?_)
  · rw [i32_nat (by omega) ⟨by omega, by omega⟩]; omega
  · show N * 4 ≤ 536870912; omega
  · have h1 : s.vm.findClass _ = some cA := (hK1.2 3 (cA, .int) rfl).2
    have h2 : s.vm.findClass _ = some G.1 := (X.2.2.2.2.2.1.2 0 (G.1, .int) rfl).2
    have e1 : cA = G.1 := Option.some.inj (h1.symm.trans h2)
    subst e1
    have e2 : tW G (ws ++ [(q, ar N (fun _ => 0))]) = tW G ws ++ [(q, .inl (G.1, (N, .inl (fun _ => i32 0))))] := by unfold tW; rw [List.map_append]; rfl
    exact k q H1 locs ls (by rw [e2]; exact hP1) (by rw [e2]; exact hD1) hS1 hl
theorem S_newq (X : Cx p s m args meth c D G A cc nL rt own) {N idx : Nat} (hcl : Cond.classLink own idx "BorrowedBeat$Law" ∈ uw) (hov : Cond.arrayOver (.object "BorrowedBeat$Law") ∈ nw) (hN : N ≤ 100000) (hc : cells + 1 ≤ R.cells) (hs : slots + N ≤ R.slots) (hdg : decode cc pc = .ok (.anewarray idx, 3)) (k : ∀ q : Nat, S_ p l e R s m args below meth c Q D G A nL (cells + 1) (slots + N) (pc + 3) L (rv q :: st) (ws ++ [(q, aq N (fun _ => none))])) : S_ p l e R s m args below meth c Q D G A nL cells slots pc L (iv (N : Int) :: st) ws := by
  intro H locs ls hP hD hS hl
  refine va_newq (C := "BorrowedBeat$Law") X.1 X.2.1 X.2.2.2.1 (X.2.2.2.2.1 _ hcl) (X.2.2.2.2.2.2.2.1.1 _ hov) X.2.2.2.2.2.1 hP hD hS X.2.2.2.2.2.2.1 (i32_nn hN) ?_ (N' := N) (by omega) hc hs hdg (fun q cA H1 hK1 hP1 hD1 hS1 => ?_)
  · rw [i32_nat (by omega) ⟨by omega, by omega⟩]; omega
  · obtain ⟨kA, comp, a1, a2, a3, h1⟩ := (hK1.2 3 (cA, .object "BorrowedBeat$Law") rfl).2
    obtain ⟨kB, comp2, b1, b2, b3, h2⟩ := (X.2.2.2.2.2.1.2 1 (G.2.1, .object "BorrowedBeat$Law") rfl).2
    have e1 : cA = G.2.1 := Option.some.inj (h1.symm.trans h2)
    subst e1
    have e2 : tW G (ws ++ [(q, aq N (fun _ => none))]) = tW G ws ++ [(q, .inl (G.2.1, N, .inr (.inr (.inr (.inr (fun _ => none))))))] := by unfold tW; rw [List.map_append]; rfl
    exact k q H1 locs ls (by rw [e2]; exact hP1) (by rw [e2]; exact hD1) hS1 hl
/-- an object: its fields are at their beginnings -/
theorem S_new (X : Cx p s m args meth c D G A cc nL rt own) {C : String} {T : u_T} {N ci idx : Nat} {f0 : Nat → AV} (ty : Nat → FieldType) (hin : ∀ w ∈ u_ws C T N, w ∈ uw) (hty : ∀ k, k < N → parseFieldDescriptor (T k).2.2.1 = some (ty k)) (hcl : Cond.classLink own idx C ∈ uw) (hinst : Cond.instantiable C N ∈ uw) (hini : Cond.initialized C ∈ uw) (hci : vwCl[ci]? = some (C, T, N)) (hf0 : ∀ j, j < N → defaultValue (ty j) = tV (f0 j)) (hc : cells + 1 ≤ R.cells) (hs : slots + N ≤ R.slots) (hdg : decode cc pc = .ok (.new idx, 3)) (k : ∀ q : Nat, S_ p l e R s m args below meth c Q D G A nL (cells + 1) (slots + N) (pc + 3) L (rv q :: st) (ws ++ [(q, ob ci f0)])) : S_ p l e R s m args below meth c Q D G A nL cells slots pc L st ws := by
  intro H locs ls hP hD hS hl
  have hn : nF ci = N := by unfold nF; rw [hci]
  refine va_new (fs := (List.range N).map (fun k => tV (f0 k))) X.1 X.2.1 (X.2.2.2.2.1) hin ty hty X.2.2.2.1 (X.2.2.2.2.1 _ hcl) (X.2.2.2.2.1 _ hinst) (X.2.2.2.2.1 _ hini) X.2.2.2.2.2.1 hP hD hS X.2.2.2.2.2.2.1 hci (fun j hj => ?_) hc hs hdg (fun q H1 hP1 hD1 hS1 => ?_)
  · rw [hf0 j hj]
    unfold vp_V
    simp [hj]
  · have e2 : tW G (ws ++ [(q, ob ci f0)]) = tW G ws ++ [(q, .inr (ci, (List.range N).map (fun k => tV (f0 k))))] := by
      unfold tW
      rw [List.map_append, ← hn]
      rfl
    exact k q H1 locs ls (by rw [e2]; exact hP1) (by rw [e2]; exact hD1) hS1 hl
/-- Object's own beginning -/
theorem S_obj (X : Cx p s m args meth c D G A cc nL rt own) {a idx : Nat} (h1 : Cond.methodLink own idx Lib.objectInit ∈ uw) (h2 : Cond.instanceMethod Lib.objectInit ∈ uw) (h3 : Cond.code Lib.objectInit ⟨#[0xb1]⟩ 1 none ∈ uw) (hdg : decode cc pc = .ok (.invokespecial idx, 3)) (hf : 1 ≤ R.frames) (hl2 : st.length + 12 ≤ R.locals) (k : S_ p l e R s m args below meth c Q D G A nL cells slots (pc + 3) L st ws) : S_ p l e R s m args below meth c Q D G A nL cells slots pc L (rv a :: st) ws := by
  intro H locs ls hP hD hS hl
  refine W.objInit X.1 X.2.1 X.2.2.2.1 (X.2.2.2.2.1 _ h1) (X.2.2.2.2.1 _ h2) (X.2.2.2.2.1 _ h3) rfl (by rw [X.2.2.1]; exact hl.1) rfl hdg hf ?_ (k H locs ls hP hD hS hl)
  have e : ∀ t : List AV, ((t.map tV).map (fun v => v.category)).sum = t.length := by
    intro t
    induction t with
    | nil => rfl
    | cons v t ih =>
      rw [List.map_cons, List.map_cons, List.sum_cons, ih, List.length_cons]
      rcases v with z | _ | _
      · show 1 + _ = _; omega
      · show 1 + _ = _; omega
      · show 1 + _ = _; omega
  show 2 * 0 + ((st.map tV).map (fun v => v.category)).sum + 12 ≤ R.locals
  rw [e]
  omega
end NW
end pt_74news
/- 75.fresh.lean.txt -/
section pt_75fresh
/-! FRESH OBJECTS -/
def dfA : FieldType → AV
  | .object _ => nv
  | .array _ => nv
  | _ => iv 0
def dfG : FieldType → Bool
  | .long => false
  | .float => false
  | .double => false
  | _ => true
theorem dfA_ok : ∀ t : FieldType, dfG t = true → defaultValue t = tV (dfA t) := by
  intro t
  cases t <;> first | (intro h; cases h; done) | (intro _; rfl)
def fzX0 : Nat → AV := fun k => dfA (tyX0 k)
theorem fzX0_ok : ∀ j, j < 7 → defaultValue (tyX0 j) = tV (fzX0 j) := fun j h => dfA_ok _ ((by decide +kernel : ∀ j, j < 7 → dfG (tyX0 j) = true) j h)
def fzX1 : Nat → AV := fun k => dfA (tyX1 k)
theorem fzX1_ok : ∀ j, j < 5 → defaultValue (tyX1 j) = tV (fzX1 j) := fun j h => dfA_ok _ ((by decide +kernel : ∀ j, j < 5 → dfG (tyX1 j) = true) j h)
def fzX2 : Nat → AV := fun k => dfA (tyX2 k)
theorem fzX2_ok : ∀ j, j < 5 → defaultValue (tyX2 j) = tV (fzX2 j) := fun j h => dfA_ok _ ((by decide +kernel : ∀ j, j < 5 → dfG (tyX2 j) = true) j h)
def fzX3 : Nat → AV := fun k => dfA (tyX3 k)
theorem fzX3_ok : ∀ j, j < 5 → defaultValue (tyX3 j) = tV (fzX3 j) := fun j h => dfA_ok _ ((by decide +kernel : ∀ j, j < 5 → dfG (tyX3 j) = true) j h)
def fzX4 : Nat → AV := fun k => dfA (tyX4 k)
theorem fzX4_ok : ∀ j, j < 9 → defaultValue (tyX4 j) = tV (fzX4 j) := fun j h => dfA_ok _ ((by decide +kernel : ∀ j, j < 9 → dfG (tyX4 j) = true) j h)
def fzX6 : Nat → AV := fun k => dfA (tyX6 k)
theorem fzX6_ok : ∀ j, j < 8 → defaultValue (tyX6 j) = tV (fzX6 j) := fun j h => dfA_ok _ ((by decide +kernel : ∀ j, j < 8 → dfG (tyX6 j) = true) j h)
def fzX7 : Nat → AV := fun k => dfA (tyX7 k)
theorem fzX7_ok : ∀ j, j < 2 → defaultValue (tyX7 j) = tV (fzX7 j) := fun j h => dfA_ok _ ((by decide +kernel : ∀ j, j < 2 → dfG (tyX7 j) = true) j h)
def fzX8 : Nat → AV := fun k => dfA (tyX8 k)
theorem fzX8_ok : ∀ j, j < 7 → defaultValue (tyX8 j) = tV (fzX8 j) := fun j h => dfA_ok _ ((by decide +kernel : ∀ j, j < 7 → dfG (tyX8 j) = true) j h)
def fzX9 : Nat → AV := fun k => dfA (tyX9 k)
theorem fzX9_ok : ∀ j, j < 5 → defaultValue (tyX9 j) = tV (fzX9 j) := fun j h => dfA_ok _ ((by decide +kernel : ∀ j, j < 5 → dfG (tyX9 j) = true) j h)
def fzX10 : Nat → AV := fun k => dfA (tyX10 k)
theorem fzX10_ok : ∀ j, j < 7 → defaultValue (tyX10 j) = tV (fzX10 j) := fun j h => dfA_ok _ ((by decide +kernel : ∀ j, j < 7 → dfG (tyX10 j) = true) j h)
def fzX11 : Nat → AV := fun k => dfA (tyX11 k)
theorem fzX11_ok : ∀ j, j < 16 → defaultValue (tyX11 j) = tV (fzX11 j) := fun j h => dfA_ok _ ((by decide +kernel : ∀ j, j < 16 → dfG (tyX11 j) = true) j h)
def fzX12 : Nat → AV := fun k => dfA (tyX12 k)
theorem fzX12_ok : ∀ j, j < 50 → defaultValue (tyX12 j) = tV (fzX12 j) := fun j h => dfA_ok _ ((by decide +kernel : ∀ j, j < 50 → dfG (tyX12 j) = true) j h)
end pt_75fresh
/- 76.cinit.lean.txt -/
section pt_76cinit

set_option maxHeartbeats 4000000 in
set_option maxRecDepth 100000 in
theorem kX7_init (l : Launch) (o9 : Nat) : AMv l yX7_init cX7_init 1 1 1 160 [rv o9] [(o9, ob 6 fzX7)] (fun u => ∃ b1 : Nat, u = [(o9, ob 6 (uF fzX7 0 (rv b1))), (b1, ar 160 (fun _ => 0))]) := by
  refine AMv.of2 rfl (nle rfl) ?_
  intro D G A p e s m args below meth c Po hPo hnm X
  refine S_aload_n X dX7_init_0 rfl rfl ?_
  refine S_obj X m119 m112 m113 dX7_init_1 (nle rfl) (nle rfl) ?_
  refine S_aload_n X dX7_init_4 rfl rfl ?_
  refine S_sipush X dX7_init_5 rfl ?_
  refine S_newa (N := 160) X m130 (by decide) (nle rfl) (nle rfl) dX7_init_8 (fun q_1 => ?_)
  refine S_w (ws' := [(o9, ob 6 fzX7), (q_1, ar 160 (fun _ => 0))]) rfl ?_
  refine S_putF X hnm fpX7_9_6 0 rfl FT_a dX7_init_10 ?_
  refine S_w (ws' := [(o9, ob 6 (uF fzX7 0 (rv q_1))), (q_1, ar 160 (fun _ => 0))]) rfl ?_
  exact S_vret X (nle rfl) (nle rfl) dX7_init_13 (hPo _ (⟨_, rfl⟩))
set_option maxHeartbeats 4000000 in
set_option maxRecDepth 100000 in
theorem kX8_init (l : Launch) (o9 : Nat) : AMv l yX8_init cX8_init 1 1 5 30 [rv o9] [(o9, ob 7 fzX8)] (fun u => ∃ b1 : Nat, ∃ b2 : Nat, ∃ b3 : Nat, ∃ b4 : Nat, ∃ b5 : Nat, u = [(o9, ob 7 (uF (uF (uF (uF (uF (uF fzX8 1 (iv 60)) 2 (rv b1)) 3 (rv b2)) 4 (rv b3)) 5 (rv b4)) 6 (rv b5))), (b1, ar 6 (fun _ => 0)), (b2, ar 6 (fun _ => 0)), (b3, ar 6 (fun _ => 0)), (b4, ar 6 (fun _ => 0)), (b5, ar 6 (fun _ => 0))]) := by
  refine AMv.of2 rfl (nle rfl) ?_
  intro D G A p e s m args below meth c Po hPo hnm X
  refine S_aload_n X dX8_init_0 rfl rfl ?_
  refine S_obj X m145 m112 m113 dX8_init_1 (nle rfl) (nle rfl) ?_
  refine S_aload_n X dX8_init_4 rfl rfl ?_
  refine S_bipush X dX8_init_5 rfl ?_
  refine S_put X fpX8_9_7 0 rfl FT_i dX8_init_7 ?_
  refine S_w (ws' := [(o9, ob 7 (uF fzX8 1 (iv 60)))]) rfl ?_
  refine S_aload_n X dX8_init_10 rfl rfl ?_
  refine S_bipush X dX8_init_11 rfl ?_
  refine S_newa (N := 6) X m130 (by decide) (nle rfl) (nle rfl) dX8_init_13 (fun q_1 => ?_)
  refine S_w (ws' := [(o9, ob 7 (uF fzX8 1 (iv 60))), (q_1, ar 6 (fun _ => 0))]) rfl ?_
  refine S_putF X hnm fpX8_15_7 0 rfl FT_a dX8_init_15 ?_
  refine S_w (ws' := [(o9, ob 7 (uF (uF fzX8 1 (iv 60)) 2 (rv q_1))), (q_1, ar 6 (fun _ => 0))]) rfl ?_
  refine S_aload_n X dX8_init_18 rfl rfl ?_
  refine S_bipush X dX8_init_19 rfl ?_
  refine S_newa (N := 6) X m130 (by decide) (nle rfl) (nle rfl) dX8_init_21 (fun q_2 => ?_)
  refine S_w (ws' := [(o9, ob 7 (uF (uF fzX8 1 (iv 60)) 2 (rv q_1))), (q_1, ar 6 (fun _ => 0)), (q_2, ar 6 (fun _ => 0))]) rfl ?_
  refine S_putF X hnm fpX8_19_7 0 rfl FT_a dX8_init_23 ?_
  refine S_w (ws' := [(o9, ob 7 (uF (uF (uF fzX8 1 (iv 60)) 2 (rv q_1)) 3 (rv q_2))), (q_1, ar 6 (fun _ => 0)), (q_2, ar 6 (fun _ => 0))]) rfl ?_
  refine S_aload_n X dX8_init_26 rfl rfl ?_
  refine S_bipush X dX8_init_27 rfl ?_
  refine S_newa (N := 6) X m130 (by decide) (nle rfl) (nle rfl) dX8_init_29 (fun q_3 => ?_)
  refine S_w (ws' := [(o9, ob 7 (uF (uF (uF fzX8 1 (iv 60)) 2 (rv q_1)) 3 (rv q_2))), (q_1, ar 6 (fun _ => 0)), (q_2, ar 6 (fun _ => 0)), (q_3, ar 6 (fun _ => 0))]) rfl ?_
  refine S_putF X hnm fpX8_22_7 0 rfl FT_a dX8_init_31 ?_
  refine S_w (ws' := [(o9, ob 7 (uF (uF (uF (uF fzX8 1 (iv 60)) 2 (rv q_1)) 3 (rv q_2)) 4 (rv q_3))), (q_1, ar 6 (fun _ => 0)), (q_2, ar 6 (fun _ => 0)), (q_3, ar 6 (fun _ => 0))]) rfl ?_
  refine S_aload_n X dX8_init_34 rfl rfl ?_
  refine S_bipush X dX8_init_35 rfl ?_
  refine S_newa (N := 6) X m130 (by decide) (nle rfl) (nle rfl) dX8_init_37 (fun q_4 => ?_)
  refine S_w (ws' := [(o9, ob 7 (uF (uF (uF (uF fzX8 1 (iv 60)) 2 (rv q_1)) 3 (rv q_2)) 4 (rv q_3))), (q_1, ar 6 (fun _ => 0)), (q_2, ar 6 (fun _ => 0)), (q_3, ar 6 (fun _ => 0)), (q_4, ar 6 (fun _ => 0))]) rfl ?_
  refine S_putF X hnm fpX8_25_7 0 rfl FT_a dX8_init_39 ?_
  refine S_w (ws' := [(o9, ob 7 (uF (uF (uF (uF (uF fzX8 1 (iv 60)) 2 (rv q_1)) 3 (rv q_2)) 4 (rv q_3)) 5 (rv q_4))), (q_1, ar 6 (fun _ => 0)), (q_2, ar 6 (fun _ => 0)), (q_3, ar 6 (fun _ => 0)), (q_4, ar 6 (fun _ => 0))]) rfl ?_
  refine S_aload_n X dX8_init_42 rfl rfl ?_
  refine S_bipush X dX8_init_43 rfl ?_
  refine S_newa (N := 6) X m130 (by decide) (nle rfl) (nle rfl) dX8_init_45 (fun q_5 => ?_)
  refine S_w (ws' := [(o9, ob 7 (uF (uF (uF (uF (uF fzX8 1 (iv 60)) 2 (rv q_1)) 3 (rv q_2)) 4 (rv q_3)) 5 (rv q_4))), (q_1, ar 6 (fun _ => 0)), (q_2, ar 6 (fun _ => 0)), (q_3, ar 6 (fun _ => 0)), (q_4, ar 6 (fun _ => 0)), (q_5, ar 6 (fun _ => 0))]) rfl ?_
  refine S_putF X hnm fpX8_28_7 0 rfl FT_a dX8_init_47 ?_
  refine S_w (ws' := [(o9, ob 7 (uF (uF (uF (uF (uF (uF fzX8 1 (iv 60)) 2 (rv q_1)) 3 (rv q_2)) 4 (rv q_3)) 5 (rv q_4)) 6 (rv q_5))), (q_1, ar 6 (fun _ => 0)), (q_2, ar 6 (fun _ => 0)), (q_3, ar 6 (fun _ => 0)), (q_4, ar 6 (fun _ => 0)), (q_5, ar 6 (fun _ => 0))]) rfl ?_
  exact S_vret X (nle rfl) (nle rfl) dX8_init_50 (hPo _ (⟨_, _, _, _, _, rfl⟩))
set_option maxHeartbeats 4000000 in
set_option maxRecDepth 100000 in
theorem kX0_init (l : Launch) (o9 : Nat) : AMv l yX0_init cX0_init 1 1 2 366 [rv o9] [(o9, ob 0 fzX0)] (fun u => ∃ b1 : Nat, ∃ b2 : Nat, u = [(o9, ob 0 (uF (uF fzX0 5 (rv b1)) 6 (rv b2))), (b1, ar 6 (fun _ => 0)), (b2, ar 360 (fun _ => 0))]) := by
  refine AMv.of2 rfl (nle rfl) ?_
  intro D G A p e s m args below meth c Po hPo hnm X
  refine S_aload_n X dX0_init_0 rfl rfl ?_
  refine S_obj X m230 m112 m113 dX0_init_1 (nle rfl) (nle rfl) ?_
  refine S_aload_n X dX0_init_4 rfl rfl ?_
  refine S_bipush X dX0_init_5 rfl ?_
  refine S_newa (N := 6) X m130 (by decide) (nle rfl) (nle rfl) dX0_init_7 (fun q_1 => ?_)
  refine S_w (ws' := [(o9, ob 0 fzX0), (q_1, ar 6 (fun _ => 0))]) rfl ?_
  refine S_putF X hnm fpX0_9_0 0 rfl FT_a dX0_init_9 ?_
  refine S_w (ws' := [(o9, ob 0 (uF fzX0 5 (rv q_1))), (q_1, ar 6 (fun _ => 0))]) rfl ?_
  refine S_aload_n X dX0_init_12 rfl rfl ?_
  refine S_sipush X dX0_init_13 rfl ?_
  refine S_newa (N := 360) X m130 (by decide) (nle rfl) (nle rfl) dX0_init_16 (fun q_2 => ?_)
  refine S_w (ws' := [(o9, ob 0 (uF fzX0 5 (rv q_1))), (q_1, ar 6 (fun _ => 0)), (q_2, ar 360 (fun _ => 0))]) rfl ?_
  refine S_putF X hnm fpX0_15_0 0 rfl FT_a dX0_init_18 ?_
  refine S_w (ws' := [(o9, ob 0 (uF (uF fzX0 5 (rv q_1)) 6 (rv q_2))), (q_1, ar 6 (fun _ => 0)), (q_2, ar 360 (fun _ => 0))]) rfl ?_
  exact S_vret X (nle rfl) (nle rfl) dX0_init_21 (hPo _ (⟨_, _, rfl⟩))
set_option maxHeartbeats 4000000 in
set_option maxRecDepth 100000 in
theorem kX6_init (l : Launch) (o9 : Nat) : AMv l yX6_init cX6_init 1 1 4 24 [rv o9] [(o9, ob 5 fzX6)] (fun u => ∃ b1 : Nat, ∃ b2 : Nat, ∃ b3 : Nat, ∃ b4 : Nat, u = [(o9, ob 5 (uF (uF (uF (uF (uF fzX6 1 (iv 9)) 4 (rv b1)) 5 (rv b2)) 6 (rv b3)) 7 (rv b4))), (b1, ar 6 (fun _ => 0)), (b2, ar 6 (fun _ => 0)), (b3, ar 6 (fun _ => 0)), (b4, ar 6 (fun _ => 0))]) := by
  refine AMv.of2 rfl (nle rfl) ?_
  intro D G A p e s m args below meth c Po hPo hnm X
  refine S_aload_n X dX6_init_0 rfl rfl ?_
  refine S_obj X m261 m112 m113 dX6_init_1 (nle rfl) (nle rfl) ?_
  refine S_aload_n X dX6_init_4 rfl rfl ?_
  refine S_bipush X dX6_init_5 rfl ?_
  refine S_put X fpX6_9_5 0 rfl FT_i dX6_init_7 ?_
  refine S_w (ws' := [(o9, ob 5 (uF fzX6 1 (iv 9)))]) rfl ?_
  refine S_aload_n X dX6_init_10 rfl rfl ?_
  refine S_bipush X dX6_init_11 rfl ?_
  refine S_newa (N := 6) X m130 (by decide) (nle rfl) (nle rfl) dX6_init_13 (fun q_1 => ?_)
  refine S_w (ws' := [(o9, ob 5 (uF fzX6 1 (iv 9))), (q_1, ar 6 (fun _ => 0))]) rfl ?_
  refine S_putF X hnm fpX6_15_5 0 rfl FT_a dX6_init_15 ?_
  refine S_w (ws' := [(o9, ob 5 (uF (uF fzX6 1 (iv 9)) 4 (rv q_1))), (q_1, ar 6 (fun _ => 0))]) rfl ?_
  refine S_aload_n X dX6_init_18 rfl rfl ?_
  refine S_bipush X dX6_init_19 rfl ?_
  refine S_newa (N := 6) X m130 (by decide) (nle rfl) (nle rfl) dX6_init_21 (fun q_2 => ?_)
  refine S_w (ws' := [(o9, ob 5 (uF (uF fzX6 1 (iv 9)) 4 (rv q_1))), (q_1, ar 6 (fun _ => 0)), (q_2, ar 6 (fun _ => 0))]) rfl ?_
  refine S_putF X hnm fpX6_19_5 0 rfl FT_a dX6_init_23 ?_
  refine S_w (ws' := [(o9, ob 5 (uF (uF (uF fzX6 1 (iv 9)) 4 (rv q_1)) 5 (rv q_2))), (q_1, ar 6 (fun _ => 0)), (q_2, ar 6 (fun _ => 0))]) rfl ?_
  refine S_aload_n X dX6_init_26 rfl rfl ?_
  refine S_bipush X dX6_init_27 rfl ?_
  refine S_newa (N := 6) X m130 (by decide) (nle rfl) (nle rfl) dX6_init_29 (fun q_3 => ?_)
  refine S_w (ws' := [(o9, ob 5 (uF (uF (uF fzX6 1 (iv 9)) 4 (rv q_1)) 5 (rv q_2))), (q_1, ar 6 (fun _ => 0)), (q_2, ar 6 (fun _ => 0)), (q_3, ar 6 (fun _ => 0))]) rfl ?_
  refine S_putF X hnm fpX6_22_5 0 rfl FT_a dX6_init_31 ?_
  refine S_w (ws' := [(o9, ob 5 (uF (uF (uF (uF fzX6 1 (iv 9)) 4 (rv q_1)) 5 (rv q_2)) 6 (rv q_3))), (q_1, ar 6 (fun _ => 0)), (q_2, ar 6 (fun _ => 0)), (q_3, ar 6 (fun _ => 0))]) rfl ?_
  refine S_aload_n X dX6_init_34 rfl rfl ?_
  refine S_bipush X dX6_init_35 rfl ?_
  refine S_newa (N := 6) X m130 (by decide) (nle rfl) (nle rfl) dX6_init_37 (fun q_4 => ?_)
  refine S_w (ws' := [(o9, ob 5 (uF (uF (uF (uF fzX6 1 (iv 9)) 4 (rv q_1)) 5 (rv q_2)) 6 (rv q_3))), (q_1, ar 6 (fun _ => 0)), (q_2, ar 6 (fun _ => 0)), (q_3, ar 6 (fun _ => 0)), (q_4, ar 6 (fun _ => 0))]) rfl ?_
  refine S_putF X hnm fpX6_25_5 0 rfl FT_a dX6_init_39 ?_
  refine S_w (ws' := [(o9, ob 5 (uF (uF (uF (uF (uF fzX6 1 (iv 9)) 4 (rv q_1)) 5 (rv q_2)) 6 (rv q_3)) 7 (rv q_4))), (q_1, ar 6 (fun _ => 0)), (q_2, ar 6 (fun _ => 0)), (q_3, ar 6 (fun _ => 0)), (q_4, ar 6 (fun _ => 0))]) rfl ?_
  exact S_vret X (nle rfl) (nle rfl) dX6_init_42 (hPo _ (⟨_, _, _, _, rfl⟩))
set_option maxHeartbeats 4000000 in
set_option maxRecDepth 100000 in
theorem kX4_init (l : Launch) (o9 : Nat) : AMv l yX4_init cX4_init 1 1 4 1422 [rv o9] [(o9, ob 4 fzX4)] (fun u => ∃ b1 : Nat, ∃ b2 : Nat, ∃ b3 : Nat, ∃ b4 : Nat, u = [(o9, ob 4 (uF (uF (uF (uF fzX4 0 (rv b1)) 1 (rv b2)) 2 (rv b3)) 3 (rv b4))), (b1, ar 1206 (fun _ => 0)), (b2, ar 180 (fun _ => 0)), (b3, ar 6 (fun _ => 0)), (b4, ar 30 (fun _ => 0))]) := by
  refine AMv.of2 rfl (nle rfl) ?_
  intro D G A p e s m args below meth c Po hPo hnm X
  refine S_aload_n X dX4_init_0 rfl rfl ?_
  refine S_obj X m312 m112 m113 dX4_init_1 (nle rfl) (nle rfl) ?_
  refine S_aload_n X dX4_init_4 rfl rfl ?_
  refine S_sipush X dX4_init_5 rfl ?_
  refine S_newa (N := 1206) X m130 (by decide) (nle rfl) (nle rfl) dX4_init_8 (fun q_1 => ?_)
  refine S_w (ws' := [(o9, ob 4 fzX4), (q_1, ar 1206 (fun _ => 0))]) rfl ?_
  refine S_putF X hnm fpX4_11_4 0 rfl FT_a dX4_init_10 ?_
  refine S_w (ws' := [(o9, ob 4 (uF fzX4 0 (rv q_1))), (q_1, ar 1206 (fun _ => 0))]) rfl ?_
  refine S_aload_n X dX4_init_13 rfl rfl ?_
  refine S_sipush X dX4_init_14 rfl ?_
  refine S_newa (N := 180) X m130 (by decide) (nle rfl) (nle rfl) dX4_init_17 (fun q_2 => ?_)
  refine S_w (ws' := [(o9, ob 4 (uF fzX4 0 (rv q_1))), (q_1, ar 1206 (fun _ => 0)), (q_2, ar 180 (fun _ => 0))]) rfl ?_
  refine S_putF X hnm fpX4_15_4 0 rfl FT_a dX4_init_19 ?_
  refine S_w (ws' := [(o9, ob 4 (uF (uF fzX4 0 (rv q_1)) 1 (rv q_2))), (q_1, ar 1206 (fun _ => 0)), (q_2, ar 180 (fun _ => 0))]) rfl ?_
  refine S_aload_n X dX4_init_22 rfl rfl ?_
  refine S_bipush X dX4_init_23 rfl ?_
  refine S_newa (N := 6) X m130 (by decide) (nle rfl) (nle rfl) dX4_init_25 (fun q_3 => ?_)
  refine S_w (ws' := [(o9, ob 4 (uF (uF fzX4 0 (rv q_1)) 1 (rv q_2))), (q_1, ar 1206 (fun _ => 0)), (q_2, ar 180 (fun _ => 0)), (q_3, ar 6 (fun _ => 0))]) rfl ?_
  refine S_putF X hnm fpX4_18_4 0 rfl FT_a dX4_init_27 ?_
  refine S_w (ws' := [(o9, ob 4 (uF (uF (uF fzX4 0 (rv q_1)) 1 (rv q_2)) 2 (rv q_3))), (q_1, ar 1206 (fun _ => 0)), (q_2, ar 180 (fun _ => 0)), (q_3, ar 6 (fun _ => 0))]) rfl ?_
  refine S_aload_n X dX4_init_30 rfl rfl ?_
  refine S_bipush X dX4_init_31 rfl ?_
  refine S_newa (N := 30) X m130 (by decide) (nle rfl) (nle rfl) dX4_init_33 (fun q_4 => ?_)
  refine S_w (ws' := [(o9, ob 4 (uF (uF (uF fzX4 0 (rv q_1)) 1 (rv q_2)) 2 (rv q_3))), (q_1, ar 1206 (fun _ => 0)), (q_2, ar 180 (fun _ => 0)), (q_3, ar 6 (fun _ => 0)), (q_4, ar 30 (fun _ => 0))]) rfl ?_
  refine S_putF X hnm fpX4_21_4 0 rfl FT_a dX4_init_35 ?_
  refine S_w (ws' := [(o9, ob 4 (uF (uF (uF (uF fzX4 0 (rv q_1)) 1 (rv q_2)) 2 (rv q_3)) 3 (rv q_4))), (q_1, ar 1206 (fun _ => 0)), (q_2, ar 180 (fun _ => 0)), (q_3, ar 6 (fun _ => 0)), (q_4, ar 30 (fun _ => 0))]) rfl ?_
  exact S_vret X (nle rfl) (nle rfl) dX4_init_38 (hPo _ (⟨_, _, _, _, rfl⟩))
set_option maxHeartbeats 4000000 in
set_option maxRecDepth 100000 in
theorem kX3_init (l : Launch) (o9 : Nat) : AMv l yX3_init cX3_init 1 1 3 68 [rv o9] [(o9, ob 3 fzX3)] (fun u => ∃ b1 : Nat, ∃ b2 : Nat, ∃ b3 : Nat, u = [(o9, ob 3 (uF (uF (uF fzX3 2 (rv b1)) 3 (rv b2)) 4 (rv b3))), (b1, ar 31 (fun _ => 0)), (b2, ar 31 (fun _ => 0)), (b3, ar 6 (fun _ => 0))]) := by
  refine AMv.of2 rfl (nle rfl) ?_
  intro D G A p e s m args below meth c Po hPo hnm X
  refine S_aload_n X dX3_init_0 rfl rfl ?_
  refine S_obj X m349 m112 m113 dX3_init_1 (nle rfl) (nle rfl) ?_
  refine S_aload_n X dX3_init_4 rfl rfl ?_
  refine S_bipush X dX3_init_5 rfl ?_
  refine S_newa (N := 31) X m130 (by decide) (nle rfl) (nle rfl) dX3_init_7 (fun q_1 => ?_)
  refine S_w (ws' := [(o9, ob 3 fzX3), (q_1, ar 31 (fun _ => 0))]) rfl ?_
  refine S_putF X hnm fpX3_9_3 0 rfl FT_a dX3_init_9 ?_
  refine S_w (ws' := [(o9, ob 3 (uF fzX3 2 (rv q_1))), (q_1, ar 31 (fun _ => 0))]) rfl ?_
  refine S_aload_n X dX3_init_12 rfl rfl ?_
  refine S_bipush X dX3_init_13 rfl ?_
  refine S_newa (N := 31) X m130 (by decide) (nle rfl) (nle rfl) dX3_init_15 (fun q_2 => ?_)
  refine S_w (ws' := [(o9, ob 3 (uF fzX3 2 (rv q_1))), (q_1, ar 31 (fun _ => 0)), (q_2, ar 31 (fun _ => 0))]) rfl ?_
  refine S_putF X hnm fpX3_15_3 0 rfl FT_a dX3_init_17 ?_
  refine S_w (ws' := [(o9, ob 3 (uF (uF fzX3 2 (rv q_1)) 3 (rv q_2))), (q_1, ar 31 (fun _ => 0)), (q_2, ar 31 (fun _ => 0))]) rfl ?_
  refine S_aload_n X dX3_init_20 rfl rfl ?_
  refine S_bipush X dX3_init_21 rfl ?_
  refine S_newa (N := 6) X m130 (by decide) (nle rfl) (nle rfl) dX3_init_23 (fun q_3 => ?_)
  refine S_w (ws' := [(o9, ob 3 (uF (uF fzX3 2 (rv q_1)) 3 (rv q_2))), (q_1, ar 31 (fun _ => 0)), (q_2, ar 31 (fun _ => 0)), (q_3, ar 6 (fun _ => 0))]) rfl ?_
  refine S_putF X hnm fpX3_18_3 0 rfl FT_a dX3_init_25 ?_
  refine S_w (ws' := [(o9, ob 3 (uF (uF (uF fzX3 2 (rv q_1)) 3 (rv q_2)) 4 (rv q_3))), (q_1, ar 31 (fun _ => 0)), (q_2, ar 31 (fun _ => 0)), (q_3, ar 6 (fun _ => 0))]) rfl ?_
  exact S_vret X (nle rfl) (nle rfl) dX3_init_28 (hPo _ (⟨_, _, _, rfl⟩))
set_option maxHeartbeats 4000000 in
set_option maxRecDepth 100000 in
theorem kX10_init (l : Launch) (o9 : Nat) (p1 : Nat) (p2 : Nat) : AMv l yX10_init cX10_init 3 1 2 48 [rv o9, rv p1, rv p2] [(o9, ob 9 fzX10)] (fun u => ∃ b1 : Nat, ∃ b2 : Nat, u = [(o9, ob 9 (uF (uF (uF (uF fzX10 5 (rv b1)) 6 (rv b2)) 3 (rv p1)) 4 (rv p2))), (b1, ar 6 (fun _ => 0)), (b2, ar 42 (fun _ => 0))]) := by
  refine AMv.of2 rfl (nle rfl) ?_
  intro D G A p e s m args below meth c Po hPo hnm X
  refine S_aload_n X dX10_init_0 rfl rfl ?_
  refine S_obj X m373 m112 m113 dX10_init_1 (nle rfl) (nle rfl) ?_
  refine S_aload_n X dX10_init_4 rfl rfl ?_
  refine S_bipush X dX10_init_5 rfl ?_
  refine S_newa (N := 6) X m130 (by decide) (nle rfl) (nle rfl) dX10_init_7 (fun q_1 => ?_)
  refine S_w (ws' := [(o9, ob 9 fzX10), (q_1, ar 6 (fun _ => 0))]) rfl ?_
  refine S_putF X hnm fpX10_9_9 0 rfl FT_a dX10_init_9 ?_
  refine S_w (ws' := [(o9, ob 9 (uF fzX10 5 (rv q_1))), (q_1, ar 6 (fun _ => 0))]) rfl ?_
  refine S_aload_n X dX10_init_12 rfl rfl ?_
  refine S_bipush X dX10_init_13 rfl ?_
  refine S_newa (N := 42) X m130 (by decide) (nle rfl) (nle rfl) dX10_init_15 (fun q_2 => ?_)
  refine S_w (ws' := [(o9, ob 9 (uF fzX10 5 (rv q_1))), (q_1, ar 6 (fun _ => 0)), (q_2, ar 42 (fun _ => 0))]) rfl ?_
  refine S_putF X hnm fpX10_15_9 0 rfl FT_a dX10_init_17 ?_
  refine S_w (ws' := [(o9, ob 9 (uF (uF fzX10 5 (rv q_1)) 6 (rv q_2))), (q_1, ar 6 (fun _ => 0)), (q_2, ar 42 (fun _ => 0))]) rfl ?_
  refine S_aload_n X dX10_init_20 rfl rfl ?_
  refine S_aload_n X dX10_init_21 rfl rfl ?_
  refine S_putF X hnm fpX10_18_9 0 rfl FT_o dX10_init_22 ?_
  refine S_w (ws' := [(o9, ob 9 (uF (uF (uF fzX10 5 (rv q_1)) 6 (rv q_2)) 3 (rv p1))), (q_1, ar 6 (fun _ => 0)), (q_2, ar 42 (fun _ => 0))]) rfl ?_
  refine S_aload_n X dX10_init_25 rfl rfl ?_
  refine S_aload_n X dX10_init_26 rfl rfl ?_
  refine S_putF X hnm fpX10_22_9 0 rfl FT_o dX10_init_27 ?_
  refine S_w (ws' := [(o9, ob 9 (uF (uF (uF (uF fzX10 5 (rv q_1)) 6 (rv q_2)) 3 (rv p1)) 4 (rv p2))), (q_1, ar 6 (fun _ => 0)), (q_2, ar 42 (fun _ => 0))]) rfl ?_
  exact S_vret X (nle rfl) (nle rfl) dX10_init_30 (hPo _ (⟨_, _, rfl⟩))
set_option maxHeartbeats 4000000 in
set_option maxRecDepth 100000 in
theorem kX5_init_8 (l : Launch) (o9 : Nat) (p1 : Nat) : AMv l yX5_init cX5_init 2 1 0 0 [rv o9, rv p1] [(o9, ob 8 fzX9)] (fun u => u = [(o9, ob 8 (uF fzX9 0 (rv p1)))]) := by
  refine AMv.of2 rfl (nle rfl) ?_
  intro D G A p e s m args below meth c Po hPo hnm X
  refine S_aload_n X dX5_init_0 rfl rfl ?_
  refine S_obj X m139 m112 m113 dX5_init_1 (nle rfl) (nle rfl) ?_
  refine S_aload_n X dX5_init_4 rfl rfl ?_
  refine S_aload_n X dX5_init_5 rfl rfl ?_
  refine S_putF X hnm fpX5_9_8 0 rfl FT_o dX5_init_6 ?_
  refine S_w (ws' := [(o9, ob 8 (uF fzX9 0 (rv p1)))]) rfl ?_
  exact S_vret X (nle rfl) (nle rfl) dX5_init_9 (hPo _ (rfl))
set_option maxHeartbeats 4000000 in
set_option maxRecDepth 100000 in
theorem kX5_init_2 (l : Launch) (o9 : Nat) (p1 : Nat) : AMv l yX5_init cX5_init 2 1 0 0 [rv o9, rv p1] [(o9, ob 2 fzX2)] (fun u => u = [(o9, ob 2 (uF fzX2 0 (rv p1)))]) := by
  refine AMv.of2 rfl (nle rfl) ?_
  intro D G A p e s m args below meth c Po hPo hnm X
  refine S_aload_n X dX5_init_0 rfl rfl ?_
  refine S_obj X m139 m112 m113 dX5_init_1 (nle rfl) (nle rfl) ?_
  refine S_aload_n X dX5_init_4 rfl rfl ?_
  refine S_aload_n X dX5_init_5 rfl rfl ?_
  refine S_putF X hnm fpX5_9_2 0 rfl FT_o dX5_init_6 ?_
  refine S_w (ws' := [(o9, ob 2 (uF fzX2 0 (rv p1)))]) rfl ?_
  exact S_vret X (nle rfl) (nle rfl) dX5_init_9 (hPo _ (rfl))
set_option maxHeartbeats 4000000 in
set_option maxRecDepth 100000 in
theorem kX9_init (l : Launch) (o9 : Nat) (p1 : Nat) : AMv l yX9_init cX9_init 2 2 6 37 [rv o9, rv p1] [(o9, ob 8 fzX9)] (fun u => ∃ o8 : Nat, ∃ b1 : Nat, ∃ b2 : Nat, ∃ b3 : Nat, ∃ b4 : Nat, ∃ b5 : Nat, u = [(o9, ob 8 (uF (uF fzX9 0 (rv p1)) 3 (rv o8))), (o8, ob 7 (uF (uF (uF (uF (uF (uF fzX8 1 (iv 60)) 2 (rv b1)) 3 (rv b2)) 4 (rv b3)) 5 (rv b4)) 6 (rv b5))), (b1, ar 6 (fun _ => 0)), (b2, ar 6 (fun _ => 0)), (b3, ar 6 (fun _ => 0)), (b4, ar 6 (fun _ => 0)), (b5, ar 6 (fun _ => 0))]) := by
  refine AMv.of2 rfl (nle rfl) ?_
  intro D G A p e s m args below meth c Po hPo hnm X
  refine S_aload_n X dX9_init_0 rfl rfl ?_
  refine S_aload_n X dX9_init_1 rfl rfl ?_
  refine S_callv X (kX5_init_8 l o9 p1 ) (is := [0]) rfl (run_I X lkX9_3 (is := [0]) (avs := [rv p1]) (rest := []) rfl rfl (nle rfl) ⟨nle rfl, nle rfl⟩ ⟨nle rfl, nle rfl⟩ dX9_init_2 (by decide) rfl) (fun u_1 hp_2 => ?_)
  have hu_5 := hp_2
  subst hu_5
  refine ⟨rfl, ?_⟩
  refine S_w (ws' := [(o9, ob 8 (uF fzX9 0 (rv p1)))]) rfl ?_
  refine S_aload_n X dX9_init_5 rfl rfl ?_
  refine S_new (ci := 7) (f0 := fzX8) X tyX8 iuX8 tyX8_ok m140 m141 m89 rfl fzX8_ok (nle rfl) (nle rfl) dX9_init_6 (fun q_6 => ?_)
  refine S_w (ws' := [(o9, ob 8 (uF fzX9 0 (rv p1))), (q_6, ob 7 fzX8)]) rfl ?_
  refine S_dup X dX9_init_9 ?_
  refine S_callvA [0] (wr := [(o9, ob 8 (uF fzX9 0 (rv p1)))]) X (kX8_init l q_6 ) (is := [1]) rfl rfl (by decide) (by decide) (run_IN X lkX9_11 (is := [1]) (avs := []) (rest := [rv q_6, rv o9]) rfl rfl (nle rfl) ⟨nle rfl, nle rfl⟩ ⟨nle rfl, nle rfl⟩ dX9_init_10 (by decide) rfl) (fun u_7 hp_8 => ?_)
  obtain ⟨b1_10, b2_11, b3_12, b4_13, b5_14, hu_16⟩ := hp_8
  subst hu_16
  refine S_w (ws' := [(o9, ob 8 (uF fzX9 0 (rv p1))), (q_6, ob 7 (uF (uF (uF (uF (uF (uF fzX8 1 (iv 60)) 2 (rv b1_10)) 3 (rv b2_11)) 4 (rv b3_12)) 5 (rv b4_13)) 6 (rv b5_14))), (b1_10, ar 6 (fun _ => 0)), (b2_11, ar 6 (fun _ => 0)), (b3_12, ar 6 (fun _ => 0)), (b4_13, ar 6 (fun _ => 0)), (b5_14, ar 6 (fun _ => 0))]) rfl ?_
  refine S_putF X hnm fpX9_14_8 0 rfl FT_o dX9_init_13 ?_
  refine S_w (ws' := [(o9, ob 8 (uF (uF fzX9 0 (rv p1)) 3 (rv q_6))), (q_6, ob 7 (uF (uF (uF (uF (uF (uF fzX8 1 (iv 60)) 2 (rv b1_10)) 3 (rv b2_11)) 4 (rv b3_12)) 5 (rv b4_13)) 6 (rv b5_14))), (b1_10, ar 6 (fun _ => 0)), (b2_11, ar 6 (fun _ => 0)), (b3_12, ar 6 (fun _ => 0)), (b4_13, ar 6 (fun _ => 0)), (b5_14, ar 6 (fun _ => 0))]) rfl ?_
  exact S_vret X (nle rfl) (nle rfl) dX9_init_16 (hPo _ (⟨_, _, _, _, _, _, rfl⟩))
set_option maxHeartbeats 4000000 in
set_option maxRecDepth 100000 in
theorem kX2_init (l : Launch) (o9 : Nat) (p1 : Nat) : AMv l yX2_init cX2_init 2 2 1 160 [rv o9, rv p1] [(o9, ob 2 fzX2)] (fun u => ∃ b1 : Nat, u = [(o9, ob 2 (uF (uF fzX2 0 (rv p1)) 3 (rv b1))), (b1, ar 160 (fun _ => 0))]) := by
  refine AMv.of2 rfl (nle rfl) ?_
  intro D G A p e s m args below meth c Po hPo hnm X
  refine S_aload_n X dX2_init_0 rfl rfl ?_
  refine S_aload_n X dX2_init_1 rfl rfl ?_
  refine S_callv X (kX5_init_2 l o9 p1 ) (is := [0]) rfl (run_I X lkX2_3 (is := [0]) (avs := [rv p1]) (rest := []) rfl rfl (nle rfl) ⟨nle rfl, nle rfl⟩ ⟨nle rfl, nle rfl⟩ dX2_init_2 (by decide) rfl) (fun u_1 hp_2 => ?_)
  have hu_5 := hp_2
  subst hu_5
  refine ⟨rfl, ?_⟩
  refine S_w (ws' := [(o9, ob 2 (uF fzX2 0 (rv p1)))]) rfl ?_
  refine S_aload_n X dX2_init_5 rfl rfl ?_
  refine S_sipush X dX2_init_6 rfl ?_
  refine S_newa (N := 160) X m130 (by decide) (nle rfl) (nle rfl) dX2_init_9 (fun q_6 => ?_)
  refine S_w (ws' := [(o9, ob 2 (uF fzX2 0 (rv p1))), (q_6, ar 160 (fun _ => 0))]) rfl ?_
  refine S_putF X hnm fpX2_11_2 0 rfl FT_a dX2_init_11 ?_
  refine S_w (ws' := [(o9, ob 2 (uF (uF fzX2 0 (rv p1)) 3 (rv q_6))), (q_6, ar 160 (fun _ => 0))]) rfl ?_
  exact S_vret X (nle rfl) (nle rfl) dX2_init_14 (hPo _ (⟨_, rfl⟩))
end pt_76cinit
/- 77.cinit2.lean.txt -/
section pt_77cinit2

set_option maxHeartbeats 4000000 in
set_option maxRecDepth 100000 in
theorem kX11_init (l : Launch) (h0 : Nat) : AMv l yX11_init cX11_init 1 3 45 4000 [rv h0] [(h0, ob 10 fzX11)] (fun u => ∃ ht : Nat, ∃ hb : Nat, ∃ oR : Nat, ∃ od : Nat, ∃ dB : Nat, ∃ dD : Nat, ∃ dK : Nat, ∃ dF : Nat, ∃ dH : Nat, ∃ oZ : Nat, ∃ hC : Nat, ∃ oW : Nat, ∃ wB : Nat, ∃ wD : Nat, ∃ wK : Nat, ∃ wF : Nat, ∃ wH : Nat, ∃ oA : Nat, ∃ oD : Nat, ∃ dI : Nat, ∃ dR : Nat, ∃ hTo : Nat, ∃ oS : Nat, ∃ aB : Nat, ∃ aF : Nat, ∃ aH : Nat, ∃ aL : Nat, ∃ oT : Nat, ∃ tB : Nat, ∃ tF : Nat, ∃ tH : Nat, ∃ tL : Nat, ∃ oP : Nat, ∃ aA : Nat, ∃ aT : Nat, ∃ aW : Nat, ∃ aS : Nat, ∃ oM : Nat, ∃ mC : Nat, ∃ mM : Nat, ∃ mS : Nat, ∃ oK : Nat, ∃ kW : Nat, ∃ kB : Nat, u = [(h0, ob 10 (uF (uF (uF (uF (uF (uF (uF (uF (uF (uF (uF (uF (uF (uF fzX11 0 (rv ht)) 1 (rv oR)) 2 (rv oZ)) 3 (rv oW)) 4 (rv oA)) 5 (rv oD)) 6 (rv hTo)) 7 (rv oS)) 8 (rv oT)) 9 (rv oP)) 10 (rv oM)) 11 (rv oK)) 12 (iv 20)) 14 (iv (-1)))), (ht, ob 6 (uF fzX7 0 (rv hb))), (hb, ar 160 (fun _ => 0)), (oR, ob 8 (uF (uF fzX9 0 (rv ht)) 3 (rv od))), (od, ob 7 (uF (uF (uF (uF (uF (uF fzX8 1 (iv 60)) 2 (rv dB)) 3 (rv dD)) 4 (rv dK)) 5 (rv dF)) 6 (rv dH))), (dB, ar 6 (fun _ => 0)), (dD, ar 6 (fun _ => 0)), (dK, ar 6 (fun _ => 0)), (dF, ar 6 (fun _ => 0)), (dH, ar 6 (fun _ => 0)), (oZ, ob 2 (uF (uF fzX2 0 (rv ht)) 3 (rv hC))), (hC, ar 160 (fun _ => 0)), (oW, ob 7 (uF (uF (uF (uF (uF (uF fzX8 1 (iv 60)) 2 (rv wB)) 3 (rv wD)) 4 (rv wK)) 5 (rv wF)) 6 (rv wH))), (wB, ar 6 (fun _ => 0)), (wD, ar 6 (fun _ => 0)), (wK, ar 6 (fun _ => 0)), (wF, ar 6 (fun _ => 0)), (wH, ar 6 (fun _ => 0)), (oA, aq 4 (fun _ => none)), (oD, ob 0 (uF (uF fzX0 5 (rv dI)) 6 (rv dR))), (dI, ar 6 (fun _ => 0)), (dR, ar 360 (fun _ => 0)), (hTo, ar 60 (fun _ => 0)), (oS, ob 5 (uF (uF (uF (uF (uF fzX6 1 (iv 9)) 4 (rv aB)) 5 (rv aF)) 6 (rv aH)) 7 (rv aL))), (aB, ar 6 (fun _ => 0)), (aF, ar 6 (fun _ => 0)), (aH, ar 6 (fun _ => 0)), (aL, ar 6 (fun _ => 0)), (oT, ob 5 (uF (uF (uF (uF (uF fzX6 1 (iv 9)) 4 (rv tB)) 5 (rv tF)) 6 (rv tH)) 7 (rv tL))), (tB, ar 6 (fun _ => 0)), (tF, ar 6 (fun _ => 0)), (tH, ar 6 (fun _ => 0)), (tL, ar 6 (fun _ => 0)), (oP, ob 4 (uF (uF (uF (uF fzX4 0 (rv aA)) 1 (rv aT)) 2 (rv aW)) 3 (rv aS))), (aA, ar 1206 (fun _ => 0)), (aT, ar 180 (fun _ => 0)), (aW, ar 6 (fun _ => 0)), (aS, ar 30 (fun _ => 0)), (oM, ob 3 (uF (uF (uF fzX3 2 (rv mC)) 3 (rv mM)) 4 (rv mS))), (mC, ar 31 (fun _ => 0)), (mM, ar 31 (fun _ => 0)), (mS, ar 6 (fun _ => 0)), (oK, ob 9 (uF (uF (uF (uF fzX10 5 (rv kW)) 6 (rv kB)) 3 (rv oP)) 4 (rv oT))), (kW, ar 6 (fun _ => 0)), (kB, ar 42 (fun _ => 0))]) := by
  refine AMv.of2 rfl (nle rfl) ?_
  intro D G A p e s m args below meth c Po hPo hnm X
  refine S_aload_n X dX11_init_0 rfl rfl ?_
  refine S_obj X m111 m112 m113 dX11_init_1 (nle rfl) (nle rfl) ?_
  refine S_aload_n X dX11_init_4 rfl rfl ?_
  refine S_new (ci := 6) (f0 := fzX7) X tyX7 iuX7 tyX7_ok m114 m115 m86 rfl fzX7_ok (nle rfl) (nle rfl) dX11_init_5 (fun q_1 => ?_)
  refine S_w (ws' := [(h0, ob 10 fzX11), (q_1, ob 6 fzX7)]) rfl ?_
  refine S_dup X dX11_init_8 ?_
  refine S_callvA [0] (wr := [(h0, ob 10 fzX11)]) X (kX7_init l q_1 ) (is := [1]) rfl rfl (by decide) (by decide) (run_IN X lkX11_9 (is := [1]) (avs := []) (rest := [rv q_1, rv h0]) rfl rfl (nle rfl) ⟨nle rfl, nle rfl⟩ ⟨nle rfl, nle rfl⟩ dX11_init_9 (by decide) rfl) (fun u_2 hp_3 => ?_)
  obtain ⟨b1_5, hu_7⟩ := hp_3
  subst hu_7
  refine S_w (ws' := [(h0, ob 10 fzX11), (q_1, ob 6 (uF fzX7 0 (rv b1_5))), (b1_5, ar 160 (fun _ => 0))]) rfl ?_
  refine S_putF X hnm fpX11_10_10 0 rfl FT_o dX11_init_12 ?_
  refine S_w (ws' := [(h0, ob 10 (uF fzX11 0 (rv q_1))), (q_1, ob 6 (uF fzX7 0 (rv b1_5))), (b1_5, ar 160 (fun _ => 0))]) rfl ?_
  refine S_aload_n X dX11_init_15 rfl rfl ?_
  refine S_new (ci := 8) (f0 := fzX9) X tyX9 iuX9 tyX9_ok m131 m132 m88 rfl fzX9_ok (nle rfl) (nle rfl) dX11_init_16 (fun q_8 => ?_)
  refine S_w (ws' := [(h0, ob 10 (uF fzX11 0 (rv q_1))), (q_1, ob 6 (uF fzX7 0 (rv b1_5))), (b1_5, ar 160 (fun _ => 0)), (q_8, ob 8 fzX9)]) rfl ?_
  refine S_dup X dX11_init_19 ?_
  refine S_aload_n X dX11_init_20 rfl rfl ?_
  refine S_get (v := rv q_1) X fgX11_10_10 0 rfl rfl dX11_init_21 ?_
  refine S_callvA [0, 1, 2] (wr := [(h0, ob 10 (uF fzX11 0 (rv q_1))), (q_1, ob 6 (uF fzX7 0 (rv b1_5))), (b1_5, ar 160 (fun _ => 0))]) X (kX9_init l q_8 q_1 ) (is := [3]) rfl rfl (by decide) (by decide) (run_I X lkX11_18 (is := [3]) (avs := [rv q_1]) (rest := [rv q_8, rv h0]) rfl rfl (nle rfl) ⟨nle rfl, nle rfl⟩ ⟨nle rfl, nle rfl⟩ dX11_init_24 (by decide) rfl) (fun u_9 hp_10 => ?_)
  obtain ⟨o8_12, b1_13, b2_14, b3_15, b4_16, b5_17, hu_19⟩ := hp_10
  subst hu_19
  refine S_w (ws' := [(h0, ob 10 (uF fzX11 0 (rv q_1))), (q_1, ob 6 (uF fzX7 0 (rv b1_5))), (b1_5, ar 160 (fun _ => 0)), (q_8, ob 8 (uF (uF fzX9 0 (rv q_1)) 3 (rv o8_12))), (o8_12, ob 7 (uF (uF (uF (uF (uF (uF fzX8 1 (iv 60)) 2 (rv b1_13)) 3 (rv b2_14)) 4 (rv b3_15)) 5 (rv b4_16)) 6 (rv b5_17))), (b1_13, ar 6 (fun _ => 0)), (b2_14, ar 6 (fun _ => 0)), (b3_15, ar 6 (fun _ => 0)), (b4_16, ar 6 (fun _ => 0)), (b5_17, ar 6 (fun _ => 0))]) rfl ?_
  refine S_putF X hnm fpX11_21_10 0 rfl FT_o dX11_init_27 ?_
  refine S_w (ws' := [(h0, ob 10 (uF (uF fzX11 0 (rv q_1)) 1 (rv q_8))), (q_1, ob 6 (uF fzX7 0 (rv b1_5))), (b1_5, ar 160 (fun _ => 0)), (q_8, ob 8 (uF (uF fzX9 0 (rv q_1)) 3 (rv o8_12))), (o8_12, ob 7 (uF (uF (uF (uF (uF (uF fzX8 1 (iv 60)) 2 (rv b1_13)) 3 (rv b2_14)) 4 (rv b3_15)) 5 (rv b4_16)) 6 (rv b5_17))), (b1_13, ar 6 (fun _ => 0)), (b2_14, ar 6 (fun _ => 0)), (b3_15, ar 6 (fun _ => 0)), (b4_16, ar 6 (fun _ => 0)), (b5_17, ar 6 (fun _ => 0))]) rfl ?_
  refine S_aload_n X dX11_init_30 rfl rfl ?_
  refine S_new (ci := 2) (f0 := fzX2) X tyX2 iuX2 tyX2_ok m205 m206 m90 rfl fzX2_ok (nle rfl) (nle rfl) dX11_init_31 (fun q_20 => ?_)
  refine S_w (ws' := [(h0, ob 10 (uF (uF fzX11 0 (rv q_1)) 1 (rv q_8))), (q_1, ob 6 (uF fzX7 0 (rv b1_5))), (b1_5, ar 160 (fun _ => 0)), (q_8, ob 8 (uF (uF fzX9 0 (rv q_1)) 3 (rv o8_12))), (o8_12, ob 7 (uF (uF (uF (uF (uF (uF fzX8 1 (iv 60)) 2 (rv b1_13)) 3 (rv b2_14)) 4 (rv b3_15)) 5 (rv b4_16)) 6 (rv b5_17))), (b1_13, ar 6 (fun _ => 0)), (b2_14, ar 6 (fun _ => 0)), (b3_15, ar 6 (fun _ => 0)), (b4_16, ar 6 (fun _ => 0)), (b5_17, ar 6 (fun _ => 0)), (q_20, ob 2 fzX2)]) rfl ?_
  refine S_dup X dX11_init_34 ?_
  refine S_aload_n X dX11_init_35 rfl rfl ?_
  refine S_get (v := rv q_1) X fgX11_10_10 0 rfl rfl dX11_init_36 ?_
  refine S_callvA [0, 1, 2, 3, 4, 5, 6, 7, 8, 9] (wr := [(h0, ob 10 (uF (uF fzX11 0 (rv q_1)) 1 (rv q_8))), (q_1, ob 6 (uF fzX7 0 (rv b1_5))), (b1_5, ar 160 (fun _ => 0)), (q_8, ob 8 (uF (uF fzX9 0 (rv q_1)) 3 (rv o8_12))), (o8_12, ob 7 (uF (uF (uF (uF (uF (uF fzX8 1 (iv 60)) 2 (rv b1_13)) 3 (rv b2_14)) 4 (rv b3_15)) 5 (rv b4_16)) 6 (rv b5_17))), (b1_13, ar 6 (fun _ => 0)), (b2_14, ar 6 (fun _ => 0)), (b3_15, ar 6 (fun _ => 0)), (b4_16, ar 6 (fun _ => 0)), (b5_17, ar 6 (fun _ => 0))]) X (kX2_init l q_20 q_1 ) (is := [10]) rfl rfl (by decide) (by decide) (run_I X lkX11_27 (is := [10]) (avs := [rv q_1]) (rest := [rv q_20, rv h0]) rfl rfl (nle rfl) ⟨nle rfl, nle rfl⟩ ⟨nle rfl, nle rfl⟩ dX11_init_39 (by decide) rfl) (fun u_21 hp_22 => ?_)
  obtain ⟨b1_24, hu_26⟩ := hp_22
  subst hu_26
  refine S_w (ws' := [(h0, ob 10 (uF (uF fzX11 0 (rv q_1)) 1 (rv q_8))), (q_1, ob 6 (uF fzX7 0 (rv b1_5))), (b1_5, ar 160 (fun _ => 0)), (q_8, ob 8 (uF (uF fzX9 0 (rv q_1)) 3 (rv o8_12))), (o8_12, ob 7 (uF (uF (uF (uF (uF (uF fzX8 1 (iv 60)) 2 (rv b1_13)) 3 (rv b2_14)) 4 (rv b3_15)) 5 (rv b4_16)) 6 (rv b5_17))), (b1_13, ar 6 (fun _ => 0)), (b2_14, ar 6 (fun _ => 0)), (b3_15, ar 6 (fun _ => 0)), (b4_16, ar 6 (fun _ => 0)), (b5_17, ar 6 (fun _ => 0)), (q_20, ob 2 (uF (uF fzX2 0 (rv q_1)) 3 (rv b1_24))), (b1_24, ar 160 (fun _ => 0))]) rfl ?_
  refine S_putF X hnm fpX11_28_10 0 rfl FT_o dX11_init_42 ?_
  refine S_w (ws' := [(h0, ob 10 (uF (uF (uF fzX11 0 (rv q_1)) 1 (rv q_8)) 2 (rv q_20))), (q_1, ob 6 (uF fzX7 0 (rv b1_5))), (b1_5, ar 160 (fun _ => 0)), (q_8, ob 8 (uF (uF fzX9 0 (rv q_1)) 3 (rv o8_12))), (o8_12, ob 7 (uF (uF (uF (uF (uF (uF fzX8 1 (iv 60)) 2 (rv b1_13)) 3 (rv b2_14)) 4 (rv b3_15)) 5 (rv b4_16)) 6 (rv b5_17))), (b1_13, ar 6 (fun _ => 0)), (b2_14, ar 6 (fun _ => 0)), (b3_15, ar 6 (fun _ => 0)), (b4_16, ar 6 (fun _ => 0)), (b5_17, ar 6 (fun _ => 0)), (q_20, ob 2 (uF (uF fzX2 0 (rv q_1)) 3 (rv b1_24))), (b1_24, ar 160 (fun _ => 0))]) rfl ?_
  refine S_aload_n X dX11_init_45 rfl rfl ?_
  refine S_new (ci := 7) (f0 := fzX8) X tyX8 iuX8 tyX8_ok m221 m141 m89 rfl fzX8_ok (nle rfl) (nle rfl) dX11_init_46 (fun q_27 => ?_)
  refine S_w (ws' := [(h0, ob 10 (uF (uF (uF fzX11 0 (rv q_1)) 1 (rv q_8)) 2 (rv q_20))), (q_1, ob 6 (uF fzX7 0 (rv b1_5))), (b1_5, ar 160 (fun _ => 0)), (q_8, ob 8 (uF (uF fzX9 0 (rv q_1)) 3 (rv o8_12))), (o8_12, ob 7 (uF (uF (uF (uF (uF (uF fzX8 1 (iv 60)) 2 (rv b1_13)) 3 (rv b2_14)) 4 (rv b3_15)) 5 (rv b4_16)) 6 (rv b5_17))), (b1_13, ar 6 (fun _ => 0)), (b2_14, ar 6 (fun _ => 0)), (b3_15, ar 6 (fun _ => 0)), (b4_16, ar 6 (fun _ => 0)), (b5_17, ar 6 (fun _ => 0)), (q_20, ob 2 (uF (uF fzX2 0 (rv q_1)) 3 (rv b1_24))), (b1_24, ar 160 (fun _ => 0)), (q_27, ob 7 fzX8)]) rfl ?_
  refine S_dup X dX11_init_49 ?_
  refine S_callvA [0, 1, 2, 3, 4, 5, 6, 7, 8, 9, 10, 11] (wr := [(h0, ob 10 (uF (uF (uF fzX11 0 (rv q_1)) 1 (rv q_8)) 2 (rv q_20))), (q_1, ob 6 (uF fzX7 0 (rv b1_5))), (b1_5, ar 160 (fun _ => 0)), (q_8, ob 8 (uF (uF fzX9 0 (rv q_1)) 3 (rv o8_12))), (o8_12, ob 7 (uF (uF (uF (uF (uF (uF fzX8 1 (iv 60)) 2 (rv b1_13)) 3 (rv b2_14)) 4 (rv b3_15)) 5 (rv b4_16)) 6 (rv b5_17))), (b1_13, ar 6 (fun _ => 0)), (b2_14, ar 6 (fun _ => 0)), (b3_15, ar 6 (fun _ => 0)), (b4_16, ar 6 (fun _ => 0)), (b5_17, ar 6 (fun _ => 0)), (q_20, ob 2 (uF (uF fzX2 0 (rv q_1)) 3 (rv b1_24))), (b1_24, ar 160 (fun _ => 0))]) X (kX8_init l q_27 ) (is := [12]) rfl rfl (by decide) (by decide) (run_IN X lkX11_34 (is := [12]) (avs := []) (rest := [rv q_27, rv h0]) rfl rfl (nle rfl) ⟨nle rfl, nle rfl⟩ ⟨nle rfl, nle rfl⟩ dX11_init_50 (by decide) rfl) (fun u_28 hp_29 => ?_)
  obtain ⟨b1_31, b2_32, b3_33, b4_34, b5_35, hu_37⟩ := hp_29
  subst hu_37
  refine S_w (ws' := [(h0, ob 10 (uF (uF (uF fzX11 0 (rv q_1)) 1 (rv q_8)) 2 (rv q_20))), (q_1, ob 6 (uF fzX7 0 (rv b1_5))), (b1_5, ar 160 (fun _ => 0)), (q_8, ob 8 (uF (uF fzX9 0 (rv q_1)) 3 (rv o8_12))), (o8_12, ob 7 (uF (uF (uF (uF (uF (uF fzX8 1 (iv 60)) 2 (rv b1_13)) 3 (rv b2_14)) 4 (rv b3_15)) 5 (rv b4_16)) 6 (rv b5_17))), (b1_13, ar 6 (fun _ => 0)), (b2_14, ar 6 (fun _ => 0)), (b3_15, ar 6 (fun _ => 0)), (b4_16, ar 6 (fun _ => 0)), (b5_17, ar 6 (fun _ => 0)), (q_20, ob 2 (uF (uF fzX2 0 (rv q_1)) 3 (rv b1_24))), (b1_24, ar 160 (fun _ => 0)), (q_27, ob 7 (uF (uF (uF (uF (uF (uF fzX8 1 (iv 60)) 2 (rv b1_31)) 3 (rv b2_32)) 4 (rv b3_33)) 5 (rv b4_34)) 6 (rv b5_35))), (b1_31, ar 6 (fun _ => 0)), (b2_32, ar 6 (fun _ => 0)), (b3_33, ar 6 (fun _ => 0)), (b4_34, ar 6 (fun _ => 0)), (b5_35, ar 6 (fun _ => 0))]) rfl ?_
  refine S_putF X hnm fpX11_35_10 0 rfl FT_o dX11_init_53 ?_
  refine S_w (ws' := [(h0, ob 10 (uF (uF (uF (uF fzX11 0 (rv q_1)) 1 (rv q_8)) 2 (rv q_20)) 3 (rv q_27))), (q_1, ob 6 (uF fzX7 0 (rv b1_5))), (b1_5, ar 160 (fun _ => 0)), (q_8, ob 8 (uF (uF fzX9 0 (rv q_1)) 3 (rv o8_12))), (o8_12, ob 7 (uF (uF (uF (uF (uF (uF fzX8 1 (iv 60)) 2 (rv b1_13)) 3 (rv b2_14)) 4 (rv b3_15)) 5 (rv b4_16)) 6 (rv b5_17))), (b1_13, ar 6 (fun _ => 0)), (b2_14, ar 6 (fun _ => 0)), (b3_15, ar 6 (fun _ => 0)), (b4_16, ar 6 (fun _ => 0)), (b5_17, ar 6 (fun _ => 0)), (q_20, ob 2 (uF (uF fzX2 0 (rv q_1)) 3 (rv b1_24))), (b1_24, ar 160 (fun _ => 0)), (q_27, ob 7 (uF (uF (uF (uF (uF (uF fzX8 1 (iv 60)) 2 (rv b1_31)) 3 (rv b2_32)) 4 (rv b3_33)) 5 (rv b4_34)) 6 (rv b5_35))), (b1_31, ar 6 (fun _ => 0)), (b2_32, ar 6 (fun _ => 0)), (b3_33, ar 6 (fun _ => 0)), (b4_34, ar 6 (fun _ => 0)), (b5_35, ar 6 (fun _ => 0))]) rfl ?_
  refine S_aload_n X dX11_init_56 rfl rfl ?_
  refine S_iconst X dX11_init_57 ?_
  refine S_newq (N := 4) X m223 mn224 (by decide) (nle rfl) (nle rfl) dX11_init_58 (fun q_38 => ?_)
  refine S_w (ws' := [(h0, ob 10 (uF (uF (uF (uF fzX11 0 (rv q_1)) 1 (rv q_8)) 2 (rv q_20)) 3 (rv q_27))), (q_1, ob 6 (uF fzX7 0 (rv b1_5))), (b1_5, ar 160 (fun _ => 0)), (q_8, ob 8 (uF (uF fzX9 0 (rv q_1)) 3 (rv o8_12))), (o8_12, ob 7 (uF (uF (uF (uF (uF (uF fzX8 1 (iv 60)) 2 (rv b1_13)) 3 (rv b2_14)) 4 (rv b3_15)) 5 (rv b4_16)) 6 (rv b5_17))), (b1_13, ar 6 (fun _ => 0)), (b2_14, ar 6 (fun _ => 0)), (b3_15, ar 6 (fun _ => 0)), (b4_16, ar 6 (fun _ => 0)), (b5_17, ar 6 (fun _ => 0)), (q_20, ob 2 (uF (uF fzX2 0 (rv q_1)) 3 (rv b1_24))), (b1_24, ar 160 (fun _ => 0)), (q_27, ob 7 (uF (uF (uF (uF (uF (uF fzX8 1 (iv 60)) 2 (rv b1_31)) 3 (rv b2_32)) 4 (rv b3_33)) 5 (rv b4_34)) 6 (rv b5_35))), (b1_31, ar 6 (fun _ => 0)), (b2_32, ar 6 (fun _ => 0)), (b3_33, ar 6 (fun _ => 0)), (b4_34, ar 6 (fun _ => 0)), (b5_35, ar 6 (fun _ => 0)), (q_38, aq 4 (fun _ => none))]) rfl ?_
  refine S_putF X hnm fpX11_41_10 0 rfl FT_a dX11_init_61 ?_
  refine S_w (ws' := [(h0, ob 10 (uF (uF (uF (uF (uF fzX11 0 (rv q_1)) 1 (rv q_8)) 2 (rv q_20)) 3 (rv q_27)) 4 (rv q_38))), (q_1, ob 6 (uF fzX7 0 (rv b1_5))), (b1_5, ar 160 (fun _ => 0)), (q_8, ob 8 (uF (uF fzX9 0 (rv q_1)) 3 (rv o8_12))), (o8_12, ob 7 (uF (uF (uF (uF (uF (uF fzX8 1 (iv 60)) 2 (rv b1_13)) 3 (rv b2_14)) 4 (rv b3_15)) 5 (rv b4_16)) 6 (rv b5_17))), (b1_13, ar 6 (fun _ => 0)), (b2_14, ar 6 (fun _ => 0)), (b3_15, ar 6 (fun _ => 0)), (b4_16, ar 6 (fun _ => 0)), (b5_17, ar 6 (fun _ => 0)), (q_20, ob 2 (uF (uF fzX2 0 (rv q_1)) 3 (rv b1_24))), (b1_24, ar 160 (fun _ => 0)), (q_27, ob 7 (uF (uF (uF (uF (uF (uF fzX8 1 (iv 60)) 2 (rv b1_31)) 3 (rv b2_32)) 4 (rv b3_33)) 5 (rv b4_34)) 6 (rv b5_35))), (b1_31, ar 6 (fun _ => 0)), (b2_32, ar 6 (fun _ => 0)), (b3_33, ar 6 (fun _ => 0)), (b4_34, ar 6 (fun _ => 0)), (b5_35, ar 6 (fun _ => 0)), (q_38, aq 4 (fun _ => none))]) rfl ?_
  refine S_aload_n X dX11_init_64 rfl rfl ?_
  refine S_new (ci := 0) (f0 := fzX0) X tyX0 iuX0 tyX0_ok m225 m226 m91 rfl fzX0_ok (nle rfl) (nle rfl) dX11_init_65 (fun q_39 => ?_)
  refine S_w (ws' := [(h0, ob 10 (uF (uF (uF (uF (uF fzX11 0 (rv q_1)) 1 (rv q_8)) 2 (rv q_20)) 3 (rv q_27)) 4 (rv q_38))), (q_1, ob 6 (uF fzX7 0 (rv b1_5))), (b1_5, ar 160 (fun _ => 0)), (q_8, ob 8 (uF (uF fzX9 0 (rv q_1)) 3 (rv o8_12))), (o8_12, ob 7 (uF (uF (uF (uF (uF (uF fzX8 1 (iv 60)) 2 (rv b1_13)) 3 (rv b2_14)) 4 (rv b3_15)) 5 (rv b4_16)) 6 (rv b5_17))), (b1_13, ar 6 (fun _ => 0)), (b2_14, ar 6 (fun _ => 0)), (b3_15, ar 6 (fun _ => 0)), (b4_16, ar 6 (fun _ => 0)), (b5_17, ar 6 (fun _ => 0)), (q_20, ob 2 (uF (uF fzX2 0 (rv q_1)) 3 (rv b1_24))), (b1_24, ar 160 (fun _ => 0)), (q_27, ob 7 (uF (uF (uF (uF (uF (uF fzX8 1 (iv 60)) 2 (rv b1_31)) 3 (rv b2_32)) 4 (rv b3_33)) 5 (rv b4_34)) 6 (rv b5_35))), (b1_31, ar 6 (fun _ => 0)), (b2_32, ar 6 (fun _ => 0)), (b3_33, ar 6 (fun _ => 0)), (b4_34, ar 6 (fun _ => 0)), (b5_35, ar 6 (fun _ => 0)), (q_38, aq 4 (fun _ => none)), (q_39, ob 0 fzX0)]) rfl ?_
  refine S_dup X dX11_init_68 ?_
  refine S_callvA [0, 1, 2, 3, 4, 5, 6, 7, 8, 9, 10, 11, 12, 13, 14, 15, 16, 17, 18] (wr := [(h0, ob 10 (uF (uF (uF (uF (uF fzX11 0 (rv q_1)) 1 (rv q_8)) 2 (rv q_20)) 3 (rv q_27)) 4 (rv q_38))), (q_1, ob 6 (uF fzX7 0 (rv b1_5))), (b1_5, ar 160 (fun _ => 0)), (q_8, ob 8 (uF (uF fzX9 0 (rv q_1)) 3 (rv o8_12))), (o8_12, ob 7 (uF (uF (uF (uF (uF (uF fzX8 1 (iv 60)) 2 (rv b1_13)) 3 (rv b2_14)) 4 (rv b3_15)) 5 (rv b4_16)) 6 (rv b5_17))), (b1_13, ar 6 (fun _ => 0)), (b2_14, ar 6 (fun _ => 0)), (b3_15, ar 6 (fun _ => 0)), (b4_16, ar 6 (fun _ => 0)), (b5_17, ar 6 (fun _ => 0)), (q_20, ob 2 (uF (uF fzX2 0 (rv q_1)) 3 (rv b1_24))), (b1_24, ar 160 (fun _ => 0)), (q_27, ob 7 (uF (uF (uF (uF (uF (uF fzX8 1 (iv 60)) 2 (rv b1_31)) 3 (rv b2_32)) 4 (rv b3_33)) 5 (rv b4_34)) 6 (rv b5_35))), (b1_31, ar 6 (fun _ => 0)), (b2_32, ar 6 (fun _ => 0)), (b3_33, ar 6 (fun _ => 0)), (b4_34, ar 6 (fun _ => 0)), (b5_35, ar 6 (fun _ => 0)), (q_38, aq 4 (fun _ => none))]) X (kX0_init l q_39 ) (is := [19]) rfl rfl (by decide) (by decide) (run_IN X lkX11_47 (is := [19]) (avs := []) (rest := [rv q_39, rv h0]) rfl rfl (nle rfl) ⟨nle rfl, nle rfl⟩ ⟨nle rfl, nle rfl⟩ dX11_init_69 (by decide) rfl) (fun u_40 hp_41 => ?_)
  obtain ⟨b1_43, b2_44, hu_46⟩ := hp_41
  subst hu_46
  refine S_w (ws' := [(h0, ob 10 (uF (uF (uF (uF (uF fzX11 0 (rv q_1)) 1 (rv q_8)) 2 (rv q_20)) 3 (rv q_27)) 4 (rv q_38))), (q_1, ob 6 (uF fzX7 0 (rv b1_5))), (b1_5, ar 160 (fun _ => 0)), (q_8, ob 8 (uF (uF fzX9 0 (rv q_1)) 3 (rv o8_12))), (o8_12, ob 7 (uF (uF (uF (uF (uF (uF fzX8 1 (iv 60)) 2 (rv b1_13)) 3 (rv b2_14)) 4 (rv b3_15)) 5 (rv b4_16)) 6 (rv b5_17))), (b1_13, ar 6 (fun _ => 0)), (b2_14, ar 6 (fun _ => 0)), (b3_15, ar 6 (fun _ => 0)), (b4_16, ar 6 (fun _ => 0)), (b5_17, ar 6 (fun _ => 0)), (q_20, ob 2 (uF (uF fzX2 0 (rv q_1)) 3 (rv b1_24))), (b1_24, ar 160 (fun _ => 0)), (q_27, ob 7 (uF (uF (uF (uF (uF (uF fzX8 1 (iv 60)) 2 (rv b1_31)) 3 (rv b2_32)) 4 (rv b3_33)) 5 (rv b4_34)) 6 (rv b5_35))), (b1_31, ar 6 (fun _ => 0)), (b2_32, ar 6 (fun _ => 0)), (b3_33, ar 6 (fun _ => 0)), (b4_34, ar 6 (fun _ => 0)), (b5_35, ar 6 (fun _ => 0)), (q_38, aq 4 (fun _ => none)), (q_39, ob 0 (uF (uF fzX0 5 (rv b1_43)) 6 (rv b2_44))), (b1_43, ar 6 (fun _ => 0)), (b2_44, ar 360 (fun _ => 0))]) rfl ?_
  refine S_putF X hnm fpX11_48_10 0 rfl FT_o dX11_init_72 ?_
  refine S_w (ws' := [(h0, ob 10 (uF (uF (uF (uF (uF (uF fzX11 0 (rv q_1)) 1 (rv q_8)) 2 (rv q_20)) 3 (rv q_27)) 4 (rv q_38)) 5 (rv q_39))), (q_1, ob 6 (uF fzX7 0 (rv b1_5))), (b1_5, ar 160 (fun _ => 0)), (q_8, ob 8 (uF (uF fzX9 0 (rv q_1)) 3 (rv o8_12))), (o8_12, ob 7 (uF (uF (uF (uF (uF (uF fzX8 1 (iv 60)) 2 (rv b1_13)) 3 (rv b2_14)) 4 (rv b3_15)) 5 (rv b4_16)) 6 (rv b5_17))), (b1_13, ar 6 (fun _ => 0)), (b2_14, ar 6 (fun _ => 0)), (b3_15, ar 6 (fun _ => 0)), (b4_16, ar 6 (fun _ => 0)), (b5_17, ar 6 (fun _ => 0)), (q_20, ob 2 (uF (uF fzX2 0 (rv q_1)) 3 (rv b1_24))), (b1_24, ar 160 (fun _ => 0)), (q_27, ob 7 (uF (uF (uF (uF (uF (uF fzX8 1 (iv 60)) 2 (rv b1_31)) 3 (rv b2_32)) 4 (rv b3_33)) 5 (rv b4_34)) 6 (rv b5_35))), (b1_31, ar 6 (fun _ => 0)), (b2_32, ar 6 (fun _ => 0)), (b3_33, ar 6 (fun _ => 0)), (b4_34, ar 6 (fun _ => 0)), (b5_35, ar 6 (fun _ => 0)), (q_38, aq 4 (fun _ => none)), (q_39, ob 0 (uF (uF fzX0 5 (rv b1_43)) 6 (rv b2_44))), (b1_43, ar 6 (fun _ => 0)), (b2_44, ar 360 (fun _ => 0))]) rfl ?_
  refine S_aload_n X dX11_init_75 rfl rfl ?_
  refine S_bipush X dX11_init_76 rfl ?_
  refine S_newa (N := 60) X m130 (by decide) (nle rfl) (nle rfl) dX11_init_78 (fun q_47 => ?_)
  refine S_w (ws' := [(h0, ob 10 (uF (uF (uF (uF (uF (uF fzX11 0 (rv q_1)) 1 (rv q_8)) 2 (rv q_20)) 3 (rv q_27)) 4 (rv q_38)) 5 (rv q_39))), (q_1, ob 6 (uF fzX7 0 (rv b1_5))), (b1_5, ar 160 (fun _ => 0)), (q_8, ob 8 (uF (uF fzX9 0 (rv q_1)) 3 (rv o8_12))), (o8_12, ob 7 (uF (uF (uF (uF (uF (uF fzX8 1 (iv 60)) 2 (rv b1_13)) 3 (rv b2_14)) 4 (rv b3_15)) 5 (rv b4_16)) 6 (rv b5_17))), (b1_13, ar 6 (fun _ => 0)), (b2_14, ar 6 (fun _ => 0)), (b3_15, ar 6 (fun _ => 0)), (b4_16, ar 6 (fun _ => 0)), (b5_17, ar 6 (fun _ => 0)), (q_20, ob 2 (uF (uF fzX2 0 (rv q_1)) 3 (rv b1_24))), (b1_24, ar 160 (fun _ => 0)), (q_27, ob 7 (uF (uF (uF (uF (uF (uF fzX8 1 (iv 60)) 2 (rv b1_31)) 3 (rv b2_32)) 4 (rv b3_33)) 5 (rv b4_34)) 6 (rv b5_35))), (b1_31, ar 6 (fun _ => 0)), (b2_32, ar 6 (fun _ => 0)), (b3_33, ar 6 (fun _ => 0)), (b4_34, ar 6 (fun _ => 0)), (b5_35, ar 6 (fun _ => 0)), (q_38, aq 4 (fun _ => none)), (q_39, ob 0 (uF (uF fzX0 5 (rv b1_43)) 6 (rv b2_44))), (b1_43, ar 6 (fun _ => 0)), (b2_44, ar 360 (fun _ => 0)), (q_47, ar 60 (fun _ => 0))]) rfl ?_
  refine S_putF X hnm fpX11_52_10 0 rfl FT_a dX11_init_80 ?_
  refine S_w (ws' := [(h0, ob 10 (uF (uF (uF (uF (uF (uF (uF fzX11 0 (rv q_1)) 1 (rv q_8)) 2 (rv q_20)) 3 (rv q_27)) 4 (rv q_38)) 5 (rv q_39)) 6 (rv q_47))), (q_1, ob 6 (uF fzX7 0 (rv b1_5))), (b1_5, ar 160 (fun _ => 0)), (q_8, ob 8 (uF (uF fzX9 0 (rv q_1)) 3 (rv o8_12))), (o8_12, ob 7 (uF (uF (uF (uF (uF (uF fzX8 1 (iv 60)) 2 (rv b1_13)) 3 (rv b2_14)) 4 (rv b3_15)) 5 (rv b4_16)) 6 (rv b5_17))), (b1_13, ar 6 (fun _ => 0)), (b2_14, ar 6 (fun _ => 0)), (b3_15, ar 6 (fun _ => 0)), (b4_16, ar 6 (fun _ => 0)), (b5_17, ar 6 (fun _ => 0)), (q_20, ob 2 (uF (uF fzX2 0 (rv q_1)) 3 (rv b1_24))), (b1_24, ar 160 (fun _ => 0)), (q_27, ob 7 (uF (uF (uF (uF (uF (uF fzX8 1 (iv 60)) 2 (rv b1_31)) 3 (rv b2_32)) 4 (rv b3_33)) 5 (rv b4_34)) 6 (rv b5_35))), (b1_31, ar 6 (fun _ => 0)), (b2_32, ar 6 (fun _ => 0)), (b3_33, ar 6 (fun _ => 0)), (b4_34, ar 6 (fun _ => 0)), (b5_35, ar 6 (fun _ => 0)), (q_38, aq 4 (fun _ => none)), (q_39, ob 0 (uF (uF fzX0 5 (rv b1_43)) 6 (rv b2_44))), (b1_43, ar 6 (fun _ => 0)), (b2_44, ar 360 (fun _ => 0)), (q_47, ar 60 (fun _ => 0))]) rfl ?_
  refine S_aload_n X dX11_init_83 rfl rfl ?_
  refine S_new (ci := 5) (f0 := fzX6) X tyX6 iuX6 tyX6_ok m256 m257 m92 rfl fzX6_ok (nle rfl) (nle rfl) dX11_init_84 (fun q_48 => ?_)
  refine S_w (ws' := [(h0, ob 10 (uF (uF (uF (uF (uF (uF (uF fzX11 0 (rv q_1)) 1 (rv q_8)) 2 (rv q_20)) 3 (rv q_27)) 4 (rv q_38)) 5 (rv q_39)) 6 (rv q_47))), (q_1, ob 6 (uF fzX7 0 (rv b1_5))), (b1_5, ar 160 (fun _ => 0)), (q_8, ob 8 (uF (uF fzX9 0 (rv q_1)) 3 (rv o8_12))), (o8_12, ob 7 (uF (uF (uF (uF (uF (uF fzX8 1 (iv 60)) 2 (rv b1_13)) 3 (rv b2_14)) 4 (rv b3_15)) 5 (rv b4_16)) 6 (rv b5_17))), (b1_13, ar 6 (fun _ => 0)), (b2_14, ar 6 (fun _ => 0)), (b3_15, ar 6 (fun _ => 0)), (b4_16, ar 6 (fun _ => 0)), (b5_17, ar 6 (fun _ => 0)), (q_20, ob 2 (uF (uF fzX2 0 (rv q_1)) 3 (rv b1_24))), (b1_24, ar 160 (fun _ => 0)), (q_27, ob 7 (uF (uF (uF (uF (uF (uF fzX8 1 (iv 60)) 2 (rv b1_31)) 3 (rv b2_32)) 4 (rv b3_33)) 5 (rv b4_34)) 6 (rv b5_35))), (b1_31, ar 6 (fun _ => 0)), (b2_32, ar 6 (fun _ => 0)), (b3_33, ar 6 (fun _ => 0)), (b4_34, ar 6 (fun _ => 0)), (b5_35, ar 6 (fun _ => 0)), (q_38, aq 4 (fun _ => none)), (q_39, ob 0 (uF (uF fzX0 5 (rv b1_43)) 6 (rv b2_44))), (b1_43, ar 6 (fun _ => 0)), (b2_44, ar 360 (fun _ => 0)), (q_47, ar 60 (fun _ => 0)), (q_48, ob 5 fzX6)]) rfl ?_
  refine S_dup X dX11_init_87 ?_
  refine S_callvA [0, 1, 2, 3, 4, 5, 6, 7, 8, 9, 10, 11, 12, 13, 14, 15, 16, 17, 18, 19, 20, 21, 22] (wr := [(h0, ob 10 (uF (uF (uF (uF (uF (uF (uF fzX11 0 (rv q_1)) 1 (rv q_8)) 2 (rv q_20)) 3 (rv q_27)) 4 (rv q_38)) 5 (rv q_39)) 6 (rv q_47))), (q_1, ob 6 (uF fzX7 0 (rv b1_5))), (b1_5, ar 160 (fun _ => 0)), (q_8, ob 8 (uF (uF fzX9 0 (rv q_1)) 3 (rv o8_12))), (o8_12, ob 7 (uF (uF (uF (uF (uF (uF fzX8 1 (iv 60)) 2 (rv b1_13)) 3 (rv b2_14)) 4 (rv b3_15)) 5 (rv b4_16)) 6 (rv b5_17))), (b1_13, ar 6 (fun _ => 0)), (b2_14, ar 6 (fun _ => 0)), (b3_15, ar 6 (fun _ => 0)), (b4_16, ar 6 (fun _ => 0)), (b5_17, ar 6 (fun _ => 0)), (q_20, ob 2 (uF (uF fzX2 0 (rv q_1)) 3 (rv b1_24))), (b1_24, ar 160 (fun _ => 0)), (q_27, ob 7 (uF (uF (uF (uF (uF (uF fzX8 1 (iv 60)) 2 (rv b1_31)) 3 (rv b2_32)) 4 (rv b3_33)) 5 (rv b4_34)) 6 (rv b5_35))), (b1_31, ar 6 (fun _ => 0)), (b2_32, ar 6 (fun _ => 0)), (b3_33, ar 6 (fun _ => 0)), (b4_34, ar 6 (fun _ => 0)), (b5_35, ar 6 (fun _ => 0)), (q_38, aq 4 (fun _ => none)), (q_39, ob 0 (uF (uF fzX0 5 (rv b1_43)) 6 (rv b2_44))), (b1_43, ar 6 (fun _ => 0)), (b2_44, ar 360 (fun _ => 0)), (q_47, ar 60 (fun _ => 0))]) X (kX6_init l q_48 ) (is := [23]) rfl rfl (by decide) (by decide) (run_IN X lkX11_58 (is := [23]) (avs := []) (rest := [rv q_48, rv h0]) rfl rfl (nle rfl) ⟨nle rfl, nle rfl⟩ ⟨nle rfl, nle rfl⟩ dX11_init_88 (by decide) rfl) (fun u_49 hp_50 => ?_)
  obtain ⟨b1_52, b2_53, b3_54, b4_55, hu_57⟩ := hp_50
  subst hu_57
  refine S_w (ws' := [(h0, ob 10 (uF (uF (uF (uF (uF (uF (uF fzX11 0 (rv q_1)) 1 (rv q_8)) 2 (rv q_20)) 3 (rv q_27)) 4 (rv q_38)) 5 (rv q_39)) 6 (rv q_47))), (q_1, ob 6 (uF fzX7 0 (rv b1_5))), (b1_5, ar 160 (fun _ => 0)), (q_8, ob 8 (uF (uF fzX9 0 (rv q_1)) 3 (rv o8_12))), (o8_12, ob 7 (uF (uF (uF (uF (uF (uF fzX8 1 (iv 60)) 2 (rv b1_13)) 3 (rv b2_14)) 4 (rv b3_15)) 5 (rv b4_16)) 6 (rv b5_17))), (b1_13, ar 6 (fun _ => 0)), (b2_14, ar 6 (fun _ => 0)), (b3_15, ar 6 (fun _ => 0)), (b4_16, ar 6 (fun _ => 0)), (b5_17, ar 6 (fun _ => 0)), (q_20, ob 2 (uF (uF fzX2 0 (rv q_1)) 3 (rv b1_24))), (b1_24, ar 160 (fun _ => 0)), (q_27, ob 7 (uF (uF (uF (uF (uF (uF fzX8 1 (iv 60)) 2 (rv b1_31)) 3 (rv b2_32)) 4 (rv b3_33)) 5 (rv b4_34)) 6 (rv b5_35))), (b1_31, ar 6 (fun _ => 0)), (b2_32, ar 6 (fun _ => 0)), (b3_33, ar 6 (fun _ => 0)), (b4_34, ar 6 (fun _ => 0)), (b5_35, ar 6 (fun _ => 0)), (q_38, aq 4 (fun _ => none)), (q_39, ob 0 (uF (uF fzX0 5 (rv b1_43)) 6 (rv b2_44))), (b1_43, ar 6 (fun _ => 0)), (b2_44, ar 360 (fun _ => 0)), (q_47, ar 60 (fun _ => 0)), (q_48, ob 5 (uF (uF (uF (uF (uF fzX6 1 (iv 9)) 4 (rv b1_52)) 5 (rv b2_53)) 6 (rv b3_54)) 7 (rv b4_55))), (b1_52, ar 6 (fun _ => 0)), (b2_53, ar 6 (fun _ => 0)), (b3_54, ar 6 (fun _ => 0)), (b4_55, ar 6 (fun _ => 0))]) rfl ?_
  refine S_putF X hnm fpX11_59_10 0 rfl FT_o dX11_init_91 ?_
  refine S_w (ws' := [(h0, ob 10 (uF (uF (uF (uF (uF (uF (uF (uF fzX11 0 (rv q_1)) 1 (rv q_8)) 2 (rv q_20)) 3 (rv q_27)) 4 (rv q_38)) 5 (rv q_39)) 6 (rv q_47)) 7 (rv q_48))), (q_1, ob 6 (uF fzX7 0 (rv b1_5))), (b1_5, ar 160 (fun _ => 0)), (q_8, ob 8 (uF (uF fzX9 0 (rv q_1)) 3 (rv o8_12))), (o8_12, ob 7 (uF (uF (uF (uF (uF (uF fzX8 1 (iv 60)) 2 (rv b1_13)) 3 (rv b2_14)) 4 (rv b3_15)) 5 (rv b4_16)) 6 (rv b5_17))), (b1_13, ar 6 (fun _ => 0)), (b2_14, ar 6 (fun _ => 0)), (b3_15, ar 6 (fun _ => 0)), (b4_16, ar 6 (fun _ => 0)), (b5_17, ar 6 (fun _ => 0)), (q_20, ob 2 (uF (uF fzX2 0 (rv q_1)) 3 (rv b1_24))), (b1_24, ar 160 (fun _ => 0)), (q_27, ob 7 (uF (uF (uF (uF (uF (uF fzX8 1 (iv 60)) 2 (rv b1_31)) 3 (rv b2_32)) 4 (rv b3_33)) 5 (rv b4_34)) 6 (rv b5_35))), (b1_31, ar 6 (fun _ => 0)), (b2_32, ar 6 (fun _ => 0)), (b3_33, ar 6 (fun _ => 0)), (b4_34, ar 6 (fun _ => 0)), (b5_35, ar 6 (fun _ => 0)), (q_38, aq 4 (fun _ => none)), (q_39, ob 0 (uF (uF fzX0 5 (rv b1_43)) 6 (rv b2_44))), (b1_43, ar 6 (fun _ => 0)), (b2_44, ar 360 (fun _ => 0)), (q_47, ar 60 (fun _ => 0)), (q_48, ob 5 (uF (uF (uF (uF (uF fzX6 1 (iv 9)) 4 (rv b1_52)) 5 (rv b2_53)) 6 (rv b3_54)) 7 (rv b4_55))), (b1_52, ar 6 (fun _ => 0)), (b2_53, ar 6 (fun _ => 0)), (b3_54, ar 6 (fun _ => 0)), (b4_55, ar 6 (fun _ => 0))]) rfl ?_
  refine S_aload_n X dX11_init_94 rfl rfl ?_
  refine S_new (ci := 5) (f0 := fzX6) X tyX6 iuX6 tyX6_ok m256 m257 m92 rfl fzX6_ok (nle rfl) (nle rfl) dX11_init_95 (fun q_58 => ?_)
  refine S_w (ws' := [(h0, ob 10 (uF (uF (uF (uF (uF (uF (uF (uF fzX11 0 (rv q_1)) 1 (rv q_8)) 2 (rv q_20)) 3 (rv q_27)) 4 (rv q_38)) 5 (rv q_39)) 6 (rv q_47)) 7 (rv q_48))), (q_1, ob 6 (uF fzX7 0 (rv b1_5))), (b1_5, ar 160 (fun _ => 0)), (q_8, ob 8 (uF (uF fzX9 0 (rv q_1)) 3 (rv o8_12))), (o8_12, ob 7 (uF (uF (uF (uF (uF (uF fzX8 1 (iv 60)) 2 (rv b1_13)) 3 (rv b2_14)) 4 (rv b3_15)) 5 (rv b4_16)) 6 (rv b5_17))), (b1_13, ar 6 (fun _ => 0)), (b2_14, ar 6 (fun _ => 0)), (b3_15, ar 6 (fun _ => 0)), (b4_16, ar 6 (fun _ => 0)), (b5_17, ar 6 (fun _ => 0)), (q_20, ob 2 (uF (uF fzX2 0 (rv q_1)) 3 (rv b1_24))), (b1_24, ar 160 (fun _ => 0)), (q_27, ob 7 (uF (uF (uF (uF (uF (uF fzX8 1 (iv 60)) 2 (rv b1_31)) 3 (rv b2_32)) 4 (rv b3_33)) 5 (rv b4_34)) 6 (rv b5_35))), (b1_31, ar 6 (fun _ => 0)), (b2_32, ar 6 (fun _ => 0)), (b3_33, ar 6 (fun _ => 0)), (b4_34, ar 6 (fun _ => 0)), (b5_35, ar 6 (fun _ => 0)), (q_38, aq 4 (fun _ => none)), (q_39, ob 0 (uF (uF fzX0 5 (rv b1_43)) 6 (rv b2_44))), (b1_43, ar 6 (fun _ => 0)), (b2_44, ar 360 (fun _ => 0)), (q_47, ar 60 (fun _ => 0)), (q_48, ob 5 (uF (uF (uF (uF (uF fzX6 1 (iv 9)) 4 (rv b1_52)) 5 (rv b2_53)) 6 (rv b3_54)) 7 (rv b4_55))), (b1_52, ar 6 (fun _ => 0)), (b2_53, ar 6 (fun _ => 0)), (b3_54, ar 6 (fun _ => 0)), (b4_55, ar 6 (fun _ => 0)), (q_58, ob 5 fzX6)]) rfl ?_
  refine S_dup X dX11_init_98 ?_
  refine S_callvA [0, 1, 2, 3, 4, 5, 6, 7, 8, 9, 10, 11, 12, 13, 14, 15, 16, 17, 18, 19, 20, 21, 22, 23, 24, 25, 26, 27] (wr := [(h0, ob 10 (uF (uF (uF (uF (uF (uF (uF (uF fzX11 0 (rv q_1)) 1 (rv q_8)) 2 (rv q_20)) 3 (rv q_27)) 4 (rv q_38)) 5 (rv q_39)) 6 (rv q_47)) 7 (rv q_48))), (q_1, ob 6 (uF fzX7 0 (rv b1_5))), (b1_5, ar 160 (fun _ => 0)), (q_8, ob 8 (uF (uF fzX9 0 (rv q_1)) 3 (rv o8_12))), (o8_12, ob 7 (uF (uF (uF (uF (uF (uF fzX8 1 (iv 60)) 2 (rv b1_13)) 3 (rv b2_14)) 4 (rv b3_15)) 5 (rv b4_16)) 6 (rv b5_17))), (b1_13, ar 6 (fun _ => 0)), (b2_14, ar 6 (fun _ => 0)), (b3_15, ar 6 (fun _ => 0)), (b4_16, ar 6 (fun _ => 0)), (b5_17, ar 6 (fun _ => 0)), (q_20, ob 2 (uF (uF fzX2 0 (rv q_1)) 3 (rv b1_24))), (b1_24, ar 160 (fun _ => 0)), (q_27, ob 7 (uF (uF (uF (uF (uF (uF fzX8 1 (iv 60)) 2 (rv b1_31)) 3 (rv b2_32)) 4 (rv b3_33)) 5 (rv b4_34)) 6 (rv b5_35))), (b1_31, ar 6 (fun _ => 0)), (b2_32, ar 6 (fun _ => 0)), (b3_33, ar 6 (fun _ => 0)), (b4_34, ar 6 (fun _ => 0)), (b5_35, ar 6 (fun _ => 0)), (q_38, aq 4 (fun _ => none)), (q_39, ob 0 (uF (uF fzX0 5 (rv b1_43)) 6 (rv b2_44))), (b1_43, ar 6 (fun _ => 0)), (b2_44, ar 360 (fun _ => 0)), (q_47, ar 60 (fun _ => 0)), (q_48, ob 5 (uF (uF (uF (uF (uF fzX6 1 (iv 9)) 4 (rv b1_52)) 5 (rv b2_53)) 6 (rv b3_54)) 7 (rv b4_55))), (b1_52, ar 6 (fun _ => 0)), (b2_53, ar 6 (fun _ => 0)), (b3_54, ar 6 (fun _ => 0)), (b4_55, ar 6 (fun _ => 0))]) X (kX6_init l q_58 ) (is := [28]) rfl rfl (by decide) (by decide) (run_IN X lkX11_58 (is := [28]) (avs := []) (rest := [rv q_58, rv h0]) rfl rfl (nle rfl) ⟨nle rfl, nle rfl⟩ ⟨nle rfl, nle rfl⟩ dX11_init_99 (by decide) rfl) (fun u_59 hp_60 => ?_)
  obtain ⟨b1_62, b2_63, b3_64, b4_65, hu_67⟩ := hp_60
  subst hu_67
  refine S_w (ws' := [(h0, ob 10 (uF (uF (uF (uF (uF (uF (uF (uF fzX11 0 (rv q_1)) 1 (rv q_8)) 2 (rv q_20)) 3 (rv q_27)) 4 (rv q_38)) 5 (rv q_39)) 6 (rv q_47)) 7 (rv q_48))), (q_1, ob 6 (uF fzX7 0 (rv b1_5))), (b1_5, ar 160 (fun _ => 0)), (q_8, ob 8 (uF (uF fzX9 0 (rv q_1)) 3 (rv o8_12))), (o8_12, ob 7 (uF (uF (uF (uF (uF (uF fzX8 1 (iv 60)) 2 (rv b1_13)) 3 (rv b2_14)) 4 (rv b3_15)) 5 (rv b4_16)) 6 (rv b5_17))), (b1_13, ar 6 (fun _ => 0)), (b2_14, ar 6 (fun _ => 0)), (b3_15, ar 6 (fun _ => 0)), (b4_16, ar 6 (fun _ => 0)), (b5_17, ar 6 (fun _ => 0)), (q_20, ob 2 (uF (uF fzX2 0 (rv q_1)) 3 (rv b1_24))), (b1_24, ar 160 (fun _ => 0)), (q_27, ob 7 (uF (uF (uF (uF (uF (uF fzX8 1 (iv 60)) 2 (rv b1_31)) 3 (rv b2_32)) 4 (rv b3_33)) 5 (rv b4_34)) 6 (rv b5_35))), (b1_31, ar 6 (fun _ => 0)), (b2_32, ar 6 (fun _ => 0)), (b3_33, ar 6 (fun _ => 0)), (b4_34, ar 6 (fun _ => 0)), (b5_35, ar 6 (fun _ => 0)), (q_38, aq 4 (fun _ => none)), (q_39, ob 0 (uF (uF fzX0 5 (rv b1_43)) 6 (rv b2_44))), (b1_43, ar 6 (fun _ => 0)), (b2_44, ar 360 (fun _ => 0)), (q_47, ar 60 (fun _ => 0)), (q_48, ob 5 (uF (uF (uF (uF (uF fzX6 1 (iv 9)) 4 (rv b1_52)) 5 (rv b2_53)) 6 (rv b3_54)) 7 (rv b4_55))), (b1_52, ar 6 (fun _ => 0)), (b2_53, ar 6 (fun _ => 0)), (b3_54, ar 6 (fun _ => 0)), (b4_55, ar 6 (fun _ => 0)), (q_58, ob 5 (uF (uF (uF (uF (uF fzX6 1 (iv 9)) 4 (rv b1_62)) 5 (rv b2_63)) 6 (rv b3_64)) 7 (rv b4_65))), (b1_62, ar 6 (fun _ => 0)), (b2_63, ar 6 (fun _ => 0)), (b3_64, ar 6 (fun _ => 0)), (b4_65, ar 6 (fun _ => 0))]) rfl ?_
  refine S_putF X hnm fpX11_63_10 0 rfl FT_o dX11_init_102 ?_
  refine S_w (ws' := [(h0, ob 10 (uF (uF (uF (uF (uF (uF (uF (uF (uF fzX11 0 (rv q_1)) 1 (rv q_8)) 2 (rv q_20)) 3 (rv q_27)) 4 (rv q_38)) 5 (rv q_39)) 6 (rv q_47)) 7 (rv q_48)) 8 (rv q_58))), (q_1, ob 6 (uF fzX7 0 (rv b1_5))), (b1_5, ar 160 (fun _ => 0)), (q_8, ob 8 (uF (uF fzX9 0 (rv q_1)) 3 (rv o8_12))), (o8_12, ob 7 (uF (uF (uF (uF (uF (uF fzX8 1 (iv 60)) 2 (rv b1_13)) 3 (rv b2_14)) 4 (rv b3_15)) 5 (rv b4_16)) 6 (rv b5_17))), (b1_13, ar 6 (fun _ => 0)), (b2_14, ar 6 (fun _ => 0)), (b3_15, ar 6 (fun _ => 0)), (b4_16, ar 6 (fun _ => 0)), (b5_17, ar 6 (fun _ => 0)), (q_20, ob 2 (uF (uF fzX2 0 (rv q_1)) 3 (rv b1_24))), (b1_24, ar 160 (fun _ => 0)), (q_27, ob 7 (uF (uF (uF (uF (uF (uF fzX8 1 (iv 60)) 2 (rv b1_31)) 3 (rv b2_32)) 4 (rv b3_33)) 5 (rv b4_34)) 6 (rv b5_35))), (b1_31, ar 6 (fun _ => 0)), (b2_32, ar 6 (fun _ => 0)), (b3_33, ar 6 (fun _ => 0)), (b4_34, ar 6 (fun _ => 0)), (b5_35, ar 6 (fun _ => 0)), (q_38, aq 4 (fun _ => none)), (q_39, ob 0 (uF (uF fzX0 5 (rv b1_43)) 6 (rv b2_44))), (b1_43, ar 6 (fun _ => 0)), (b2_44, ar 360 (fun _ => 0)), (q_47, ar 60 (fun _ => 0)), (q_48, ob 5 (uF (uF (uF (uF (uF fzX6 1 (iv 9)) 4 (rv b1_52)) 5 (rv b2_53)) 6 (rv b3_54)) 7 (rv b4_55))), (b1_52, ar 6 (fun _ => 0)), (b2_53, ar 6 (fun _ => 0)), (b3_54, ar 6 (fun _ => 0)), (b4_55, ar 6 (fun _ => 0)), (q_58, ob 5 (uF (uF (uF (uF (uF fzX6 1 (iv 9)) 4 (rv b1_62)) 5 (rv b2_63)) 6 (rv b3_64)) 7 (rv b4_65))), (b1_62, ar 6 (fun _ => 0)), (b2_63, ar 6 (fun _ => 0)), (b3_64, ar 6 (fun _ => 0)), (b4_65, ar 6 (fun _ => 0))]) rfl ?_
  refine S_aload_n X dX11_init_105 rfl rfl ?_
  refine S_new (ci := 4) (f0 := fzX4) X tyX4 iuX4 tyX4_ok m307 m308 m93 rfl fzX4_ok (nle rfl) (nle rfl) dX11_init_106 (fun q_68 => ?_)
  refine S_w (ws' := [(h0, ob 10 (uF (uF (uF (uF (uF (uF (uF (uF (uF fzX11 0 (rv q_1)) 1 (rv q_8)) 2 (rv q_20)) 3 (rv q_27)) 4 (rv q_38)) 5 (rv q_39)) 6 (rv q_47)) 7 (rv q_48)) 8 (rv q_58))), (q_1, ob 6 (uF fzX7 0 (rv b1_5))), (b1_5, ar 160 (fun _ => 0)), (q_8, ob 8 (uF (uF fzX9 0 (rv q_1)) 3 (rv o8_12))), (o8_12, ob 7 (uF (uF (uF (uF (uF (uF fzX8 1 (iv 60)) 2 (rv b1_13)) 3 (rv b2_14)) 4 (rv b3_15)) 5 (rv b4_16)) 6 (rv b5_17))), (b1_13, ar 6 (fun _ => 0)), (b2_14, ar 6 (fun _ => 0)), (b3_15, ar 6 (fun _ => 0)), (b4_16, ar 6 (fun _ => 0)), (b5_17, ar 6 (fun _ => 0)), (q_20, ob 2 (uF (uF fzX2 0 (rv q_1)) 3 (rv b1_24))), (b1_24, ar 160 (fun _ => 0)), (q_27, ob 7 (uF (uF (uF (uF (uF (uF fzX8 1 (iv 60)) 2 (rv b1_31)) 3 (rv b2_32)) 4 (rv b3_33)) 5 (rv b4_34)) 6 (rv b5_35))), (b1_31, ar 6 (fun _ => 0)), (b2_32, ar 6 (fun _ => 0)), (b3_33, ar 6 (fun _ => 0)), (b4_34, ar 6 (fun _ => 0)), (b5_35, ar 6 (fun _ => 0)), (q_38, aq 4 (fun _ => none)), (q_39, ob 0 (uF (uF fzX0 5 (rv b1_43)) 6 (rv b2_44))), (b1_43, ar 6 (fun _ => 0)), (b2_44, ar 360 (fun _ => 0)), (q_47, ar 60 (fun _ => 0)), (q_48, ob 5 (uF (uF (uF (uF (uF fzX6 1 (iv 9)) 4 (rv b1_52)) 5 (rv b2_53)) 6 (rv b3_54)) 7 (rv b4_55))), (b1_52, ar 6 (fun _ => 0)), (b2_53, ar 6 (fun _ => 0)), (b3_54, ar 6 (fun _ => 0)), (b4_55, ar 6 (fun _ => 0)), (q_58, ob 5 (uF (uF (uF (uF (uF fzX6 1 (iv 9)) 4 (rv b1_62)) 5 (rv b2_63)) 6 (rv b3_64)) 7 (rv b4_65))), (b1_62, ar 6 (fun _ => 0)), (b2_63, ar 6 (fun _ => 0)), (b3_64, ar 6 (fun _ => 0)), (b4_65, ar 6 (fun _ => 0)), (q_68, ob 4 fzX4)]) rfl ?_
  refine S_dup X dX11_init_109 ?_
  refine S_callvA [0, 1, 2, 3, 4, 5, 6, 7, 8, 9, 10, 11, 12, 13, 14, 15, 16, 17, 18, 19, 20, 21, 22, 23, 24, 25, 26, 27, 28, 29, 30, 31, 32] (wr := [(h0, ob 10 (uF (uF (uF (uF (uF (uF (uF (uF (uF fzX11 0 (rv q_1)) 1 (rv q_8)) 2 (rv q_20)) 3 (rv q_27)) 4 (rv q_38)) 5 (rv q_39)) 6 (rv q_47)) 7 (rv q_48)) 8 (rv q_58))), (q_1, ob 6 (uF fzX7 0 (rv b1_5))), (b1_5, ar 160 (fun _ => 0)), (q_8, ob 8 (uF (uF fzX9 0 (rv q_1)) 3 (rv o8_12))), (o8_12, ob 7 (uF (uF (uF (uF (uF (uF fzX8 1 (iv 60)) 2 (rv b1_13)) 3 (rv b2_14)) 4 (rv b3_15)) 5 (rv b4_16)) 6 (rv b5_17))), (b1_13, ar 6 (fun _ => 0)), (b2_14, ar 6 (fun _ => 0)), (b3_15, ar 6 (fun _ => 0)), (b4_16, ar 6 (fun _ => 0)), (b5_17, ar 6 (fun _ => 0)), (q_20, ob 2 (uF (uF fzX2 0 (rv q_1)) 3 (rv b1_24))), (b1_24, ar 160 (fun _ => 0)), (q_27, ob 7 (uF (uF (uF (uF (uF (uF fzX8 1 (iv 60)) 2 (rv b1_31)) 3 (rv b2_32)) 4 (rv b3_33)) 5 (rv b4_34)) 6 (rv b5_35))), (b1_31, ar 6 (fun _ => 0)), (b2_32, ar 6 (fun _ => 0)), (b3_33, ar 6 (fun _ => 0)), (b4_34, ar 6 (fun _ => 0)), (b5_35, ar 6 (fun _ => 0)), (q_38, aq 4 (fun _ => none)), (q_39, ob 0 (uF (uF fzX0 5 (rv b1_43)) 6 (rv b2_44))), (b1_43, ar 6 (fun _ => 0)), (b2_44, ar 360 (fun _ => 0)), (q_47, ar 60 (fun _ => 0)), (q_48, ob 5 (uF (uF (uF (uF (uF fzX6 1 (iv 9)) 4 (rv b1_52)) 5 (rv b2_53)) 6 (rv b3_54)) 7 (rv b4_55))), (b1_52, ar 6 (fun _ => 0)), (b2_53, ar 6 (fun _ => 0)), (b3_54, ar 6 (fun _ => 0)), (b4_55, ar 6 (fun _ => 0)), (q_58, ob 5 (uF (uF (uF (uF (uF fzX6 1 (iv 9)) 4 (rv b1_62)) 5 (rv b2_63)) 6 (rv b3_64)) 7 (rv b4_65))), (b1_62, ar 6 (fun _ => 0)), (b2_63, ar 6 (fun _ => 0)), (b3_64, ar 6 (fun _ => 0)), (b4_65, ar 6 (fun _ => 0))]) X (kX4_init l q_68 ) (is := [33]) rfl rfl (by decide) (by decide) (run_IN X lkX11_68 (is := [33]) (avs := []) (rest := [rv q_68, rv h0]) rfl rfl (nle rfl) ⟨nle rfl, nle rfl⟩ ⟨nle rfl, nle rfl⟩ dX11_init_110 (by decide) rfl) (fun u_69 hp_70 => ?_)
  obtain ⟨b1_72, b2_73, b3_74, b4_75, hu_77⟩ := hp_70
  subst hu_77
  refine S_w (ws' := [(h0, ob 10 (uF (uF (uF (uF (uF (uF (uF (uF (uF fzX11 0 (rv q_1)) 1 (rv q_8)) 2 (rv q_20)) 3 (rv q_27)) 4 (rv q_38)) 5 (rv q_39)) 6 (rv q_47)) 7 (rv q_48)) 8 (rv q_58))), (q_1, ob 6 (uF fzX7 0 (rv b1_5))), (b1_5, ar 160 (fun _ => 0)), (q_8, ob 8 (uF (uF fzX9 0 (rv q_1)) 3 (rv o8_12))), (o8_12, ob 7 (uF (uF (uF (uF (uF (uF fzX8 1 (iv 60)) 2 (rv b1_13)) 3 (rv b2_14)) 4 (rv b3_15)) 5 (rv b4_16)) 6 (rv b5_17))), (b1_13, ar 6 (fun _ => 0)), (b2_14, ar 6 (fun _ => 0)), (b3_15, ar 6 (fun _ => 0)), (b4_16, ar 6 (fun _ => 0)), (b5_17, ar 6 (fun _ => 0)), (q_20, ob 2 (uF (uF fzX2 0 (rv q_1)) 3 (rv b1_24))), (b1_24, ar 160 (fun _ => 0)), (q_27, ob 7 (uF (uF (uF (uF (uF (uF fzX8 1 (iv 60)) 2 (rv b1_31)) 3 (rv b2_32)) 4 (rv b3_33)) 5 (rv b4_34)) 6 (rv b5_35))), (b1_31, ar 6 (fun _ => 0)), (b2_32, ar 6 (fun _ => 0)), (b3_33, ar 6 (fun _ => 0)), (b4_34, ar 6 (fun _ => 0)), (b5_35, ar 6 (fun _ => 0)), (q_38, aq 4 (fun _ => none)), (q_39, ob 0 (uF (uF fzX0 5 (rv b1_43)) 6 (rv b2_44))), (b1_43, ar 6 (fun _ => 0)), (b2_44, ar 360 (fun _ => 0)), (q_47, ar 60 (fun _ => 0)), (q_48, ob 5 (uF (uF (uF (uF (uF fzX6 1 (iv 9)) 4 (rv b1_52)) 5 (rv b2_53)) 6 (rv b3_54)) 7 (rv b4_55))), (b1_52, ar 6 (fun _ => 0)), (b2_53, ar 6 (fun _ => 0)), (b3_54, ar 6 (fun _ => 0)), (b4_55, ar 6 (fun _ => 0)), (q_58, ob 5 (uF (uF (uF (uF (uF fzX6 1 (iv 9)) 4 (rv b1_62)) 5 (rv b2_63)) 6 (rv b3_64)) 7 (rv b4_65))), (b1_62, ar 6 (fun _ => 0)), (b2_63, ar 6 (fun _ => 0)), (b3_64, ar 6 (fun _ => 0)), (b4_65, ar 6 (fun _ => 0)), (q_68, ob 4 (uF (uF (uF (uF fzX4 0 (rv b1_72)) 1 (rv b2_73)) 2 (rv b3_74)) 3 (rv b4_75))), (b1_72, ar 1206 (fun _ => 0)), (b2_73, ar 180 (fun _ => 0)), (b3_74, ar 6 (fun _ => 0)), (b4_75, ar 30 (fun _ => 0))]) rfl ?_
  refine S_putF X hnm fpX11_69_10 0 rfl FT_o dX11_init_113 ?_
  refine S_w (ws' := [(h0, ob 10 (uF (uF (uF (uF (uF (uF (uF (uF (uF (uF fzX11 0 (rv q_1)) 1 (rv q_8)) 2 (rv q_20)) 3 (rv q_27)) 4 (rv q_38)) 5 (rv q_39)) 6 (rv q_47)) 7 (rv q_48)) 8 (rv q_58)) 9 (rv q_68))), (q_1, ob 6 (uF fzX7 0 (rv b1_5))), (b1_5, ar 160 (fun _ => 0)), (q_8, ob 8 (uF (uF fzX9 0 (rv q_1)) 3 (rv o8_12))), (o8_12, ob 7 (uF (uF (uF (uF (uF (uF fzX8 1 (iv 60)) 2 (rv b1_13)) 3 (rv b2_14)) 4 (rv b3_15)) 5 (rv b4_16)) 6 (rv b5_17))), (b1_13, ar 6 (fun _ => 0)), (b2_14, ar 6 (fun _ => 0)), (b3_15, ar 6 (fun _ => 0)), (b4_16, ar 6 (fun _ => 0)), (b5_17, ar 6 (fun _ => 0)), (q_20, ob 2 (uF (uF fzX2 0 (rv q_1)) 3 (rv b1_24))), (b1_24, ar 160 (fun _ => 0)), (q_27, ob 7 (uF (uF (uF (uF (uF (uF fzX8 1 (iv 60)) 2 (rv b1_31)) 3 (rv b2_32)) 4 (rv b3_33)) 5 (rv b4_34)) 6 (rv b5_35))), (b1_31, ar 6 (fun _ => 0)), (b2_32, ar 6 (fun _ => 0)), (b3_33, ar 6 (fun _ => 0)), (b4_34, ar 6 (fun _ => 0)), (b5_35, ar 6 (fun _ => 0)), (q_38, aq 4 (fun _ => none)), (q_39, ob 0 (uF (uF fzX0 5 (rv b1_43)) 6 (rv b2_44))), (b1_43, ar 6 (fun _ => 0)), (b2_44, ar 360 (fun _ => 0)), (q_47, ar 60 (fun _ => 0)), (q_48, ob 5 (uF (uF (uF (uF (uF fzX6 1 (iv 9)) 4 (rv b1_52)) 5 (rv b2_53)) 6 (rv b3_54)) 7 (rv b4_55))), (b1_52, ar 6 (fun _ => 0)), (b2_53, ar 6 (fun _ => 0)), (b3_54, ar 6 (fun _ => 0)), (b4_55, ar 6 (fun _ => 0)), (q_58, ob 5 (uF (uF (uF (uF (uF fzX6 1 (iv 9)) 4 (rv b1_62)) 5 (rv b2_63)) 6 (rv b3_64)) 7 (rv b4_65))), (b1_62, ar 6 (fun _ => 0)), (b2_63, ar 6 (fun _ => 0)), (b3_64, ar 6 (fun _ => 0)), (b4_65, ar 6 (fun _ => 0)), (q_68, ob 4 (uF (uF (uF (uF fzX4 0 (rv b1_72)) 1 (rv b2_73)) 2 (rv b3_74)) 3 (rv b4_75))), (b1_72, ar 1206 (fun _ => 0)), (b2_73, ar 180 (fun _ => 0)), (b3_74, ar 6 (fun _ => 0)), (b4_75, ar 30 (fun _ => 0))]) rfl ?_
  refine S_aload_n X dX11_init_116 rfl rfl ?_
  refine S_new (ci := 3) (f0 := fzX3) X tyX3 iuX3 tyX3_ok m344 m345 m94 rfl fzX3_ok (nle rfl) (nle rfl) dX11_init_117 (fun q_78 => ?_)
  refine S_w (ws' := [(h0, ob 10 (uF (uF (uF (uF (uF (uF (uF (uF (uF (uF fzX11 0 (rv q_1)) 1 (rv q_8)) 2 (rv q_20)) 3 (rv q_27)) 4 (rv q_38)) 5 (rv q_39)) 6 (rv q_47)) 7 (rv q_48)) 8 (rv q_58)) 9 (rv q_68))), (q_1, ob 6 (uF fzX7 0 (rv b1_5))), (b1_5, ar 160 (fun _ => 0)), (q_8, ob 8 (uF (uF fzX9 0 (rv q_1)) 3 (rv o8_12))), (o8_12, ob 7 (uF (uF (uF (uF (uF (uF fzX8 1 (iv 60)) 2 (rv b1_13)) 3 (rv b2_14)) 4 (rv b3_15)) 5 (rv b4_16)) 6 (rv b5_17))), (b1_13, ar 6 (fun _ => 0)), (b2_14, ar 6 (fun _ => 0)), (b3_15, ar 6 (fun _ => 0)), (b4_16, ar 6 (fun _ => 0)), (b5_17, ar 6 (fun _ => 0)), (q_20, ob 2 (uF (uF fzX2 0 (rv q_1)) 3 (rv b1_24))), (b1_24, ar 160 (fun _ => 0)), (q_27, ob 7 (uF (uF (uF (uF (uF (uF fzX8 1 (iv 60)) 2 (rv b1_31)) 3 (rv b2_32)) 4 (rv b3_33)) 5 (rv b4_34)) 6 (rv b5_35))), (b1_31, ar 6 (fun _ => 0)), (b2_32, ar 6 (fun _ => 0)), (b3_33, ar 6 (fun _ => 0)), (b4_34, ar 6 (fun _ => 0)), (b5_35, ar 6 (fun _ => 0)), (q_38, aq 4 (fun _ => none)), (q_39, ob 0 (uF (uF fzX0 5 (rv b1_43)) 6 (rv b2_44))), (b1_43, ar 6 (fun _ => 0)), (b2_44, ar 360 (fun _ => 0)), (q_47, ar 60 (fun _ => 0)), (q_48, ob 5 (uF (uF (uF (uF (uF fzX6 1 (iv 9)) 4 (rv b1_52)) 5 (rv b2_53)) 6 (rv b3_54)) 7 (rv b4_55))), (b1_52, ar 6 (fun _ => 0)), (b2_53, ar 6 (fun _ => 0)), (b3_54, ar 6 (fun _ => 0)), (b4_55, ar 6 (fun _ => 0)), (q_58, ob 5 (uF (uF (uF (uF (uF fzX6 1 (iv 9)) 4 (rv b1_62)) 5 (rv b2_63)) 6 (rv b3_64)) 7 (rv b4_65))), (b1_62, ar 6 (fun _ => 0)), (b2_63, ar 6 (fun _ => 0)), (b3_64, ar 6 (fun _ => 0)), (b4_65, ar 6 (fun _ => 0)), (q_68, ob 4 (uF (uF (uF (uF fzX4 0 (rv b1_72)) 1 (rv b2_73)) 2 (rv b3_74)) 3 (rv b4_75))), (b1_72, ar 1206 (fun _ => 0)), (b2_73, ar 180 (fun _ => 0)), (b3_74, ar 6 (fun _ => 0)), (b4_75, ar 30 (fun _ => 0)), (q_78, ob 3 fzX3)]) rfl ?_
  refine S_dup X dX11_init_120 ?_
  refine S_callvA [0, 1, 2, 3, 4, 5, 6, 7, 8, 9, 10, 11, 12, 13, 14, 15, 16, 17, 18, 19, 20, 21, 22, 23, 24, 25, 26, 27, 28, 29, 30, 31, 32, 33, 34, 35, 36, 37] (wr := [(h0, ob 10 (uF (uF (uF (uF (uF (uF (uF (uF (uF (uF fzX11 0 (rv q_1)) 1 (rv q_8)) 2 (rv q_20)) 3 (rv q_27)) 4 (rv q_38)) 5 (rv q_39)) 6 (rv q_47)) 7 (rv q_48)) 8 (rv q_58)) 9 (rv q_68))), (q_1, ob 6 (uF fzX7 0 (rv b1_5))), (b1_5, ar 160 (fun _ => 0)), (q_8, ob 8 (uF (uF fzX9 0 (rv q_1)) 3 (rv o8_12))), (o8_12, ob 7 (uF (uF (uF (uF (uF (uF fzX8 1 (iv 60)) 2 (rv b1_13)) 3 (rv b2_14)) 4 (rv b3_15)) 5 (rv b4_16)) 6 (rv b5_17))), (b1_13, ar 6 (fun _ => 0)), (b2_14, ar 6 (fun _ => 0)), (b3_15, ar 6 (fun _ => 0)), (b4_16, ar 6 (fun _ => 0)), (b5_17, ar 6 (fun _ => 0)), (q_20, ob 2 (uF (uF fzX2 0 (rv q_1)) 3 (rv b1_24))), (b1_24, ar 160 (fun _ => 0)), (q_27, ob 7 (uF (uF (uF (uF (uF (uF fzX8 1 (iv 60)) 2 (rv b1_31)) 3 (rv b2_32)) 4 (rv b3_33)) 5 (rv b4_34)) 6 (rv b5_35))), (b1_31, ar 6 (fun _ => 0)), (b2_32, ar 6 (fun _ => 0)), (b3_33, ar 6 (fun _ => 0)), (b4_34, ar 6 (fun _ => 0)), (b5_35, ar 6 (fun _ => 0)), (q_38, aq 4 (fun _ => none)), (q_39, ob 0 (uF (uF fzX0 5 (rv b1_43)) 6 (rv b2_44))), (b1_43, ar 6 (fun _ => 0)), (b2_44, ar 360 (fun _ => 0)), (q_47, ar 60 (fun _ => 0)), (q_48, ob 5 (uF (uF (uF (uF (uF fzX6 1 (iv 9)) 4 (rv b1_52)) 5 (rv b2_53)) 6 (rv b3_54)) 7 (rv b4_55))), (b1_52, ar 6 (fun _ => 0)), (b2_53, ar 6 (fun _ => 0)), (b3_54, ar 6 (fun _ => 0)), (b4_55, ar 6 (fun _ => 0)), (q_58, ob 5 (uF (uF (uF (uF (uF fzX6 1 (iv 9)) 4 (rv b1_62)) 5 (rv b2_63)) 6 (rv b3_64)) 7 (rv b4_65))), (b1_62, ar 6 (fun _ => 0)), (b2_63, ar 6 (fun _ => 0)), (b3_64, ar 6 (fun _ => 0)), (b4_65, ar 6 (fun _ => 0)), (q_68, ob 4 (uF (uF (uF (uF fzX4 0 (rv b1_72)) 1 (rv b2_73)) 2 (rv b3_74)) 3 (rv b4_75))), (b1_72, ar 1206 (fun _ => 0)), (b2_73, ar 180 (fun _ => 0)), (b3_74, ar 6 (fun _ => 0)), (b4_75, ar 30 (fun _ => 0))]) X (kX3_init l q_78 ) (is := [38]) rfl rfl (by decide) (by decide) (run_IN X lkX11_75 (is := [38]) (avs := []) (rest := [rv q_78, rv h0]) rfl rfl (nle rfl) ⟨nle rfl, nle rfl⟩ ⟨nle rfl, nle rfl⟩ dX11_init_121 (by decide) rfl) (fun u_79 hp_80 => ?_)
  obtain ⟨b1_82, b2_83, b3_84, hu_86⟩ := hp_80
  subst hu_86
  refine S_w (ws' := [(h0, ob 10 (uF (uF (uF (uF (uF (uF (uF (uF (uF (uF fzX11 0 (rv q_1)) 1 (rv q_8)) 2 (rv q_20)) 3 (rv q_27)) 4 (rv q_38)) 5 (rv q_39)) 6 (rv q_47)) 7 (rv q_48)) 8 (rv q_58)) 9 (rv q_68))), (q_1, ob 6 (uF fzX7 0 (rv b1_5))), (b1_5, ar 160 (fun _ => 0)), (q_8, ob 8 (uF (uF fzX9 0 (rv q_1)) 3 (rv o8_12))), (o8_12, ob 7 (uF (uF (uF (uF (uF (uF fzX8 1 (iv 60)) 2 (rv b1_13)) 3 (rv b2_14)) 4 (rv b3_15)) 5 (rv b4_16)) 6 (rv b5_17))), (b1_13, ar 6 (fun _ => 0)), (b2_14, ar 6 (fun _ => 0)), (b3_15, ar 6 (fun _ => 0)), (b4_16, ar 6 (fun _ => 0)), (b5_17, ar 6 (fun _ => 0)), (q_20, ob 2 (uF (uF fzX2 0 (rv q_1)) 3 (rv b1_24))), (b1_24, ar 160 (fun _ => 0)), (q_27, ob 7 (uF (uF (uF (uF (uF (uF fzX8 1 (iv 60)) 2 (rv b1_31)) 3 (rv b2_32)) 4 (rv b3_33)) 5 (rv b4_34)) 6 (rv b5_35))), (b1_31, ar 6 (fun _ => 0)), (b2_32, ar 6 (fun _ => 0)), (b3_33, ar 6 (fun _ => 0)), (b4_34, ar 6 (fun _ => 0)), (b5_35, ar 6 (fun _ => 0)), (q_38, aq 4 (fun _ => none)), (q_39, ob 0 (uF (uF fzX0 5 (rv b1_43)) 6 (rv b2_44))), (b1_43, ar 6 (fun _ => 0)), (b2_44, ar 360 (fun _ => 0)), (q_47, ar 60 (fun _ => 0)), (q_48, ob 5 (uF (uF (uF (uF (uF fzX6 1 (iv 9)) 4 (rv b1_52)) 5 (rv b2_53)) 6 (rv b3_54)) 7 (rv b4_55))), (b1_52, ar 6 (fun _ => 0)), (b2_53, ar 6 (fun _ => 0)), (b3_54, ar 6 (fun _ => 0)), (b4_55, ar 6 (fun _ => 0)), (q_58, ob 5 (uF (uF (uF (uF (uF fzX6 1 (iv 9)) 4 (rv b1_62)) 5 (rv b2_63)) 6 (rv b3_64)) 7 (rv b4_65))), (b1_62, ar 6 (fun _ => 0)), (b2_63, ar 6 (fun _ => 0)), (b3_64, ar 6 (fun _ => 0)), (b4_65, ar 6 (fun _ => 0)), (q_68, ob 4 (uF (uF (uF (uF fzX4 0 (rv b1_72)) 1 (rv b2_73)) 2 (rv b3_74)) 3 (rv b4_75))), (b1_72, ar 1206 (fun _ => 0)), (b2_73, ar 180 (fun _ => 0)), (b3_74, ar 6 (fun _ => 0)), (b4_75, ar 30 (fun _ => 0)), (q_78, ob 3 (uF (uF (uF fzX3 2 (rv b1_82)) 3 (rv b2_83)) 4 (rv b3_84))), (b1_82, ar 31 (fun _ => 0)), (b2_83, ar 31 (fun _ => 0)), (b3_84, ar 6 (fun _ => 0))]) rfl ?_
  refine S_putF X hnm fpX11_76_10 0 rfl FT_o dX11_init_124 ?_
  refine S_w (ws' := [(h0, ob 10 (uF (uF (uF (uF (uF (uF (uF (uF (uF (uF (uF fzX11 0 (rv q_1)) 1 (rv q_8)) 2 (rv q_20)) 3 (rv q_27)) 4 (rv q_38)) 5 (rv q_39)) 6 (rv q_47)) 7 (rv q_48)) 8 (rv q_58)) 9 (rv q_68)) 10 (rv q_78))), (q_1, ob 6 (uF fzX7 0 (rv b1_5))), (b1_5, ar 160 (fun _ => 0)), (q_8, ob 8 (uF (uF fzX9 0 (rv q_1)) 3 (rv o8_12))), (o8_12, ob 7 (uF (uF (uF (uF (uF (uF fzX8 1 (iv 60)) 2 (rv b1_13)) 3 (rv b2_14)) 4 (rv b3_15)) 5 (rv b4_16)) 6 (rv b5_17))), (b1_13, ar 6 (fun _ => 0)), (b2_14, ar 6 (fun _ => 0)), (b3_15, ar 6 (fun _ => 0)), (b4_16, ar 6 (fun _ => 0)), (b5_17, ar 6 (fun _ => 0)), (q_20, ob 2 (uF (uF fzX2 0 (rv q_1)) 3 (rv b1_24))), (b1_24, ar 160 (fun _ => 0)), (q_27, ob 7 (uF (uF (uF (uF (uF (uF fzX8 1 (iv 60)) 2 (rv b1_31)) 3 (rv b2_32)) 4 (rv b3_33)) 5 (rv b4_34)) 6 (rv b5_35))), (b1_31, ar 6 (fun _ => 0)), (b2_32, ar 6 (fun _ => 0)), (b3_33, ar 6 (fun _ => 0)), (b4_34, ar 6 (fun _ => 0)), (b5_35, ar 6 (fun _ => 0)), (q_38, aq 4 (fun _ => none)), (q_39, ob 0 (uF (uF fzX0 5 (rv b1_43)) 6 (rv b2_44))), (b1_43, ar 6 (fun _ => 0)), (b2_44, ar 360 (fun _ => 0)), (q_47, ar 60 (fun _ => 0)), (q_48, ob 5 (uF (uF (uF (uF (uF fzX6 1 (iv 9)) 4 (rv b1_52)) 5 (rv b2_53)) 6 (rv b3_54)) 7 (rv b4_55))), (b1_52, ar 6 (fun _ => 0)), (b2_53, ar 6 (fun _ => 0)), (b3_54, ar 6 (fun _ => 0)), (b4_55, ar 6 (fun _ => 0)), (q_58, ob 5 (uF (uF (uF (uF (uF fzX6 1 (iv 9)) 4 (rv b1_62)) 5 (rv b2_63)) 6 (rv b3_64)) 7 (rv b4_65))), (b1_62, ar 6 (fun _ => 0)), (b2_63, ar 6 (fun _ => 0)), (b3_64, ar 6 (fun _ => 0)), (b4_65, ar 6 (fun _ => 0)), (q_68, ob 4 (uF (uF (uF (uF fzX4 0 (rv b1_72)) 1 (rv b2_73)) 2 (rv b3_74)) 3 (rv b4_75))), (b1_72, ar 1206 (fun _ => 0)), (b2_73, ar 180 (fun _ => 0)), (b3_74, ar 6 (fun _ => 0)), (b4_75, ar 30 (fun _ => 0)), (q_78, ob 3 (uF (uF (uF fzX3 2 (rv b1_82)) 3 (rv b2_83)) 4 (rv b3_84))), (b1_82, ar 31 (fun _ => 0)), (b2_83, ar 31 (fun _ => 0)), (b3_84, ar 6 (fun _ => 0))]) rfl ?_
  refine S_aload_n X dX11_init_127 rfl rfl ?_
  refine S_new (ci := 9) (f0 := fzX10) X tyX10 iuX10 tyX10_ok m368 m369 m95 rfl fzX10_ok (nle rfl) (nle rfl) dX11_init_128 (fun q_87 => ?_)
  refine S_w (ws' := [(h0, ob 10 (uF (uF (uF (uF (uF (uF (uF (uF (uF (uF (uF fzX11 0 (rv q_1)) 1 (rv q_8)) 2 (rv q_20)) 3 (rv q_27)) 4 (rv q_38)) 5 (rv q_39)) 6 (rv q_47)) 7 (rv q_48)) 8 (rv q_58)) 9 (rv q_68)) 10 (rv q_78))), (q_1, ob 6 (uF fzX7 0 (rv b1_5))), (b1_5, ar 160 (fun _ => 0)), (q_8, ob 8 (uF (uF fzX9 0 (rv q_1)) 3 (rv o8_12))), (o8_12, ob 7 (uF (uF (uF (uF (uF (uF fzX8 1 (iv 60)) 2 (rv b1_13)) 3 (rv b2_14)) 4 (rv b3_15)) 5 (rv b4_16)) 6 (rv b5_17))), (b1_13, ar 6 (fun _ => 0)), (b2_14, ar 6 (fun _ => 0)), (b3_15, ar 6 (fun _ => 0)), (b4_16, ar 6 (fun _ => 0)), (b5_17, ar 6 (fun _ => 0)), (q_20, ob 2 (uF (uF fzX2 0 (rv q_1)) 3 (rv b1_24))), (b1_24, ar 160 (fun _ => 0)), (q_27, ob 7 (uF (uF (uF (uF (uF (uF fzX8 1 (iv 60)) 2 (rv b1_31)) 3 (rv b2_32)) 4 (rv b3_33)) 5 (rv b4_34)) 6 (rv b5_35))), (b1_31, ar 6 (fun _ => 0)), (b2_32, ar 6 (fun _ => 0)), (b3_33, ar 6 (fun _ => 0)), (b4_34, ar 6 (fun _ => 0)), (b5_35, ar 6 (fun _ => 0)), (q_38, aq 4 (fun _ => none)), (q_39, ob 0 (uF (uF fzX0 5 (rv b1_43)) 6 (rv b2_44))), (b1_43, ar 6 (fun _ => 0)), (b2_44, ar 360 (fun _ => 0)), (q_47, ar 60 (fun _ => 0)), (q_48, ob 5 (uF (uF (uF (uF (uF fzX6 1 (iv 9)) 4 (rv b1_52)) 5 (rv b2_53)) 6 (rv b3_54)) 7 (rv b4_55))), (b1_52, ar 6 (fun _ => 0)), (b2_53, ar 6 (fun _ => 0)), (b3_54, ar 6 (fun _ => 0)), (b4_55, ar 6 (fun _ => 0)), (q_58, ob 5 (uF (uF (uF (uF (uF fzX6 1 (iv 9)) 4 (rv b1_62)) 5 (rv b2_63)) 6 (rv b3_64)) 7 (rv b4_65))), (b1_62, ar 6 (fun _ => 0)), (b2_63, ar 6 (fun _ => 0)), (b3_64, ar 6 (fun _ => 0)), (b4_65, ar 6 (fun _ => 0)), (q_68, ob 4 (uF (uF (uF (uF fzX4 0 (rv b1_72)) 1 (rv b2_73)) 2 (rv b3_74)) 3 (rv b4_75))), (b1_72, ar 1206 (fun _ => 0)), (b2_73, ar 180 (fun _ => 0)), (b3_74, ar 6 (fun _ => 0)), (b4_75, ar 30 (fun _ => 0)), (q_78, ob 3 (uF (uF (uF fzX3 2 (rv b1_82)) 3 (rv b2_83)) 4 (rv b3_84))), (b1_82, ar 31 (fun _ => 0)), (b2_83, ar 31 (fun _ => 0)), (b3_84, ar 6 (fun _ => 0)), (q_87, ob 9 fzX10)]) rfl ?_
  refine S_dup X dX11_init_131 ?_
  refine S_aload_n X dX11_init_132 rfl rfl ?_
  refine S_get (v := rv q_68) X fgX11_69_10 0 rfl rfl dX11_init_133 ?_
  refine S_aload_n X dX11_init_136 rfl rfl ?_
  refine S_get (v := rv q_58) X fgX11_63_10 0 rfl rfl dX11_init_137 ?_
  refine S_callvA [0, 1, 2, 3, 4, 5, 6, 7, 8, 9, 10, 11, 12, 13, 14, 15, 16, 17, 18, 19, 20, 21, 22, 23, 24, 25, 26, 27, 28, 29, 30, 31, 32, 33, 34, 35, 36, 37, 38, 39, 40, 41] (wr := [(h0, ob 10 (uF (uF (uF (uF (uF (uF (uF (uF (uF (uF (uF fzX11 0 (rv q_1)) 1 (rv q_8)) 2 (rv q_20)) 3 (rv q_27)) 4 (rv q_38)) 5 (rv q_39)) 6 (rv q_47)) 7 (rv q_48)) 8 (rv q_58)) 9 (rv q_68)) 10 (rv q_78))), (q_1, ob 6 (uF fzX7 0 (rv b1_5))), (b1_5, ar 160 (fun _ => 0)), (q_8, ob 8 (uF (uF fzX9 0 (rv q_1)) 3 (rv o8_12))), (o8_12, ob 7 (uF (uF (uF (uF (uF (uF fzX8 1 (iv 60)) 2 (rv b1_13)) 3 (rv b2_14)) 4 (rv b3_15)) 5 (rv b4_16)) 6 (rv b5_17))), (b1_13, ar 6 (fun _ => 0)), (b2_14, ar 6 (fun _ => 0)), (b3_15, ar 6 (fun _ => 0)), (b4_16, ar 6 (fun _ => 0)), (b5_17, ar 6 (fun _ => 0)), (q_20, ob 2 (uF (uF fzX2 0 (rv q_1)) 3 (rv b1_24))), (b1_24, ar 160 (fun _ => 0)), (q_27, ob 7 (uF (uF (uF (uF (uF (uF fzX8 1 (iv 60)) 2 (rv b1_31)) 3 (rv b2_32)) 4 (rv b3_33)) 5 (rv b4_34)) 6 (rv b5_35))), (b1_31, ar 6 (fun _ => 0)), (b2_32, ar 6 (fun _ => 0)), (b3_33, ar 6 (fun _ => 0)), (b4_34, ar 6 (fun _ => 0)), (b5_35, ar 6 (fun _ => 0)), (q_38, aq 4 (fun _ => none)), (q_39, ob 0 (uF (uF fzX0 5 (rv b1_43)) 6 (rv b2_44))), (b1_43, ar 6 (fun _ => 0)), (b2_44, ar 360 (fun _ => 0)), (q_47, ar 60 (fun _ => 0)), (q_48, ob 5 (uF (uF (uF (uF (uF fzX6 1 (iv 9)) 4 (rv b1_52)) 5 (rv b2_53)) 6 (rv b3_54)) 7 (rv b4_55))), (b1_52, ar 6 (fun _ => 0)), (b2_53, ar 6 (fun _ => 0)), (b3_54, ar 6 (fun _ => 0)), (b4_55, ar 6 (fun _ => 0)), (q_58, ob 5 (uF (uF (uF (uF (uF fzX6 1 (iv 9)) 4 (rv b1_62)) 5 (rv b2_63)) 6 (rv b3_64)) 7 (rv b4_65))), (b1_62, ar 6 (fun _ => 0)), (b2_63, ar 6 (fun _ => 0)), (b3_64, ar 6 (fun _ => 0)), (b4_65, ar 6 (fun _ => 0)), (q_68, ob 4 (uF (uF (uF (uF fzX4 0 (rv b1_72)) 1 (rv b2_73)) 2 (rv b3_74)) 3 (rv b4_75))), (b1_72, ar 1206 (fun _ => 0)), (b2_73, ar 180 (fun _ => 0)), (b3_74, ar 6 (fun _ => 0)), (b4_75, ar 30 (fun _ => 0)), (q_78, ob 3 (uF (uF (uF fzX3 2 (rv b1_82)) 3 (rv b2_83)) 4 (rv b3_84))), (b1_82, ar 31 (fun _ => 0)), (b2_83, ar 31 (fun _ => 0)), (b3_84, ar 6 (fun _ => 0))]) X (kX10_init l q_87 q_68 q_58 ) (is := [42]) rfl rfl (by decide) (by decide) (run_I X lkX11_82 (is := [42]) (avs := [rv q_68, rv q_58]) (rest := [rv q_87, rv h0]) rfl rfl (nle rfl) ⟨nle rfl, nle rfl⟩ ⟨nle rfl, nle rfl⟩ dX11_init_140 (by decide) rfl) (fun u_88 hp_89 => ?_)
  obtain ⟨b1_91, b2_92, hu_94⟩ := hp_89
  subst hu_94
  refine S_w (ws' := [(h0, ob 10 (uF (uF (uF (uF (uF (uF (uF (uF (uF (uF (uF fzX11 0 (rv q_1)) 1 (rv q_8)) 2 (rv q_20)) 3 (rv q_27)) 4 (rv q_38)) 5 (rv q_39)) 6 (rv q_47)) 7 (rv q_48)) 8 (rv q_58)) 9 (rv q_68)) 10 (rv q_78))), (q_1, ob 6 (uF fzX7 0 (rv b1_5))), (b1_5, ar 160 (fun _ => 0)), (q_8, ob 8 (uF (uF fzX9 0 (rv q_1)) 3 (rv o8_12))), (o8_12, ob 7 (uF (uF (uF (uF (uF (uF fzX8 1 (iv 60)) 2 (rv b1_13)) 3 (rv b2_14)) 4 (rv b3_15)) 5 (rv b4_16)) 6 (rv b5_17))), (b1_13, ar 6 (fun _ => 0)), (b2_14, ar 6 (fun _ => 0)), (b3_15, ar 6 (fun _ => 0)), (b4_16, ar 6 (fun _ => 0)), (b5_17, ar 6 (fun _ => 0)), (q_20, ob 2 (uF (uF fzX2 0 (rv q_1)) 3 (rv b1_24))), (b1_24, ar 160 (fun _ => 0)), (q_27, ob 7 (uF (uF (uF (uF (uF (uF fzX8 1 (iv 60)) 2 (rv b1_31)) 3 (rv b2_32)) 4 (rv b3_33)) 5 (rv b4_34)) 6 (rv b5_35))), (b1_31, ar 6 (fun _ => 0)), (b2_32, ar 6 (fun _ => 0)), (b3_33, ar 6 (fun _ => 0)), (b4_34, ar 6 (fun _ => 0)), (b5_35, ar 6 (fun _ => 0)), (q_38, aq 4 (fun _ => none)), (q_39, ob 0 (uF (uF fzX0 5 (rv b1_43)) 6 (rv b2_44))), (b1_43, ar 6 (fun _ => 0)), (b2_44, ar 360 (fun _ => 0)), (q_47, ar 60 (fun _ => 0)), (q_48, ob 5 (uF (uF (uF (uF (uF fzX6 1 (iv 9)) 4 (rv b1_52)) 5 (rv b2_53)) 6 (rv b3_54)) 7 (rv b4_55))), (b1_52, ar 6 (fun _ => 0)), (b2_53, ar 6 (fun _ => 0)), (b3_54, ar 6 (fun _ => 0)), (b4_55, ar 6 (fun _ => 0)), (q_58, ob 5 (uF (uF (uF (uF (uF fzX6 1 (iv 9)) 4 (rv b1_62)) 5 (rv b2_63)) 6 (rv b3_64)) 7 (rv b4_65))), (b1_62, ar 6 (fun _ => 0)), (b2_63, ar 6 (fun _ => 0)), (b3_64, ar 6 (fun _ => 0)), (b4_65, ar 6 (fun _ => 0)), (q_68, ob 4 (uF (uF (uF (uF fzX4 0 (rv b1_72)) 1 (rv b2_73)) 2 (rv b3_74)) 3 (rv b4_75))), (b1_72, ar 1206 (fun _ => 0)), (b2_73, ar 180 (fun _ => 0)), (b3_74, ar 6 (fun _ => 0)), (b4_75, ar 30 (fun _ => 0)), (q_78, ob 3 (uF (uF (uF fzX3 2 (rv b1_82)) 3 (rv b2_83)) 4 (rv b3_84))), (b1_82, ar 31 (fun _ => 0)), (b2_83, ar 31 (fun _ => 0)), (b3_84, ar 6 (fun _ => 0)), (q_87, ob 9 (uF (uF (uF (uF fzX10 5 (rv b1_91)) 6 (rv b2_92)) 3 (rv q_68)) 4 (rv q_58))), (b1_91, ar 6 (fun _ => 0)), (b2_92, ar 42 (fun _ => 0))]) rfl ?_
  refine S_putF X hnm fpX11_85_10 0 rfl FT_o dX11_init_143 ?_
  refine S_w (ws' := [(h0, ob 10 (uF (uF (uF (uF (uF (uF (uF (uF (uF (uF (uF (uF fzX11 0 (rv q_1)) 1 (rv q_8)) 2 (rv q_20)) 3 (rv q_27)) 4 (rv q_38)) 5 (rv q_39)) 6 (rv q_47)) 7 (rv q_48)) 8 (rv q_58)) 9 (rv q_68)) 10 (rv q_78)) 11 (rv q_87))), (q_1, ob 6 (uF fzX7 0 (rv b1_5))), (b1_5, ar 160 (fun _ => 0)), (q_8, ob 8 (uF (uF fzX9 0 (rv q_1)) 3 (rv o8_12))), (o8_12, ob 7 (uF (uF (uF (uF (uF (uF fzX8 1 (iv 60)) 2 (rv b1_13)) 3 (rv b2_14)) 4 (rv b3_15)) 5 (rv b4_16)) 6 (rv b5_17))), (b1_13, ar 6 (fun _ => 0)), (b2_14, ar 6 (fun _ => 0)), (b3_15, ar 6 (fun _ => 0)), (b4_16, ar 6 (fun _ => 0)), (b5_17, ar 6 (fun _ => 0)), (q_20, ob 2 (uF (uF fzX2 0 (rv q_1)) 3 (rv b1_24))), (b1_24, ar 160 (fun _ => 0)), (q_27, ob 7 (uF (uF (uF (uF (uF (uF fzX8 1 (iv 60)) 2 (rv b1_31)) 3 (rv b2_32)) 4 (rv b3_33)) 5 (rv b4_34)) 6 (rv b5_35))), (b1_31, ar 6 (fun _ => 0)), (b2_32, ar 6 (fun _ => 0)), (b3_33, ar 6 (fun _ => 0)), (b4_34, ar 6 (fun _ => 0)), (b5_35, ar 6 (fun _ => 0)), (q_38, aq 4 (fun _ => none)), (q_39, ob 0 (uF (uF fzX0 5 (rv b1_43)) 6 (rv b2_44))), (b1_43, ar 6 (fun _ => 0)), (b2_44, ar 360 (fun _ => 0)), (q_47, ar 60 (fun _ => 0)), (q_48, ob 5 (uF (uF (uF (uF (uF fzX6 1 (iv 9)) 4 (rv b1_52)) 5 (rv b2_53)) 6 (rv b3_54)) 7 (rv b4_55))), (b1_52, ar 6 (fun _ => 0)), (b2_53, ar 6 (fun _ => 0)), (b3_54, ar 6 (fun _ => 0)), (b4_55, ar 6 (fun _ => 0)), (q_58, ob 5 (uF (uF (uF (uF (uF fzX6 1 (iv 9)) 4 (rv b1_62)) 5 (rv b2_63)) 6 (rv b3_64)) 7 (rv b4_65))), (b1_62, ar 6 (fun _ => 0)), (b2_63, ar 6 (fun _ => 0)), (b3_64, ar 6 (fun _ => 0)), (b4_65, ar 6 (fun _ => 0)), (q_68, ob 4 (uF (uF (uF (uF fzX4 0 (rv b1_72)) 1 (rv b2_73)) 2 (rv b3_74)) 3 (rv b4_75))), (b1_72, ar 1206 (fun _ => 0)), (b2_73, ar 180 (fun _ => 0)), (b3_74, ar 6 (fun _ => 0)), (b4_75, ar 30 (fun _ => 0)), (q_78, ob 3 (uF (uF (uF fzX3 2 (rv b1_82)) 3 (rv b2_83)) 4 (rv b3_84))), (b1_82, ar 31 (fun _ => 0)), (b2_83, ar 31 (fun _ => 0)), (b3_84, ar 6 (fun _ => 0)), (q_87, ob 9 (uF (uF (uF (uF fzX10 5 (rv b1_91)) 6 (rv b2_92)) 3 (rv q_68)) 4 (rv q_58))), (b1_91, ar 6 (fun _ => 0)), (b2_92, ar 42 (fun _ => 0))]) rfl ?_
  refine S_aload_n X dX11_init_146 rfl rfl ?_
  refine S_bipush X dX11_init_147 rfl ?_
  refine S_put X fpX11_89_10 0 rfl FT_i dX11_init_149 ?_
  refine S_w (ws' := [(h0, ob 10 (uF (uF (uF (uF (uF (uF (uF (uF (uF (uF (uF (uF (uF fzX11 0 (rv q_1)) 1 (rv q_8)) 2 (rv q_20)) 3 (rv q_27)) 4 (rv q_38)) 5 (rv q_39)) 6 (rv q_47)) 7 (rv q_48)) 8 (rv q_58)) 9 (rv q_68)) 10 (rv q_78)) 11 (rv q_87)) 12 (iv 20))), (q_1, ob 6 (uF fzX7 0 (rv b1_5))), (b1_5, ar 160 (fun _ => 0)), (q_8, ob 8 (uF (uF fzX9 0 (rv q_1)) 3 (rv o8_12))), (o8_12, ob 7 (uF (uF (uF (uF (uF (uF fzX8 1 (iv 60)) 2 (rv b1_13)) 3 (rv b2_14)) 4 (rv b3_15)) 5 (rv b4_16)) 6 (rv b5_17))), (b1_13, ar 6 (fun _ => 0)), (b2_14, ar 6 (fun _ => 0)), (b3_15, ar 6 (fun _ => 0)), (b4_16, ar 6 (fun _ => 0)), (b5_17, ar 6 (fun _ => 0)), (q_20, ob 2 (uF (uF fzX2 0 (rv q_1)) 3 (rv b1_24))), (b1_24, ar 160 (fun _ => 0)), (q_27, ob 7 (uF (uF (uF (uF (uF (uF fzX8 1 (iv 60)) 2 (rv b1_31)) 3 (rv b2_32)) 4 (rv b3_33)) 5 (rv b4_34)) 6 (rv b5_35))), (b1_31, ar 6 (fun _ => 0)), (b2_32, ar 6 (fun _ => 0)), (b3_33, ar 6 (fun _ => 0)), (b4_34, ar 6 (fun _ => 0)), (b5_35, ar 6 (fun _ => 0)), (q_38, aq 4 (fun _ => none)), (q_39, ob 0 (uF (uF fzX0 5 (rv b1_43)) 6 (rv b2_44))), (b1_43, ar 6 (fun _ => 0)), (b2_44, ar 360 (fun _ => 0)), (q_47, ar 60 (fun _ => 0)), (q_48, ob 5 (uF (uF (uF (uF (uF fzX6 1 (iv 9)) 4 (rv b1_52)) 5 (rv b2_53)) 6 (rv b3_54)) 7 (rv b4_55))), (b1_52, ar 6 (fun _ => 0)), (b2_53, ar 6 (fun _ => 0)), (b3_54, ar 6 (fun _ => 0)), (b4_55, ar 6 (fun _ => 0)), (q_58, ob 5 (uF (uF (uF (uF (uF fzX6 1 (iv 9)) 4 (rv b1_62)) 5 (rv b2_63)) 6 (rv b3_64)) 7 (rv b4_65))), (b1_62, ar 6 (fun _ => 0)), (b2_63, ar 6 (fun _ => 0)), (b3_64, ar 6 (fun _ => 0)), (b4_65, ar 6 (fun _ => 0)), (q_68, ob 4 (uF (uF (uF (uF fzX4 0 (rv b1_72)) 1 (rv b2_73)) 2 (rv b3_74)) 3 (rv b4_75))), (b1_72, ar 1206 (fun _ => 0)), (b2_73, ar 180 (fun _ => 0)), (b3_74, ar 6 (fun _ => 0)), (b4_75, ar 30 (fun _ => 0)), (q_78, ob 3 (uF (uF (uF fzX3 2 (rv b1_82)) 3 (rv b2_83)) 4 (rv b3_84))), (b1_82, ar 31 (fun _ => 0)), (b2_83, ar 31 (fun _ => 0)), (b3_84, ar 6 (fun _ => 0)), (q_87, ob 9 (uF (uF (uF (uF fzX10 5 (rv b1_91)) 6 (rv b2_92)) 3 (rv q_68)) 4 (rv q_58))), (b1_91, ar 6 (fun _ => 0)), (b2_92, ar 42 (fun _ => 0))]) rfl ?_
  refine S_aload_n X dX11_init_152 rfl rfl ?_
  refine S_iconst X dX11_init_153 ?_
  refine S_put X fpX11_93_10 0 rfl FT_i dX11_init_154 ?_
  refine S_w (ws' := [(h0, ob 10 (uF (uF (uF (uF (uF (uF (uF (uF (uF (uF (uF (uF (uF (uF fzX11 0 (rv q_1)) 1 (rv q_8)) 2 (rv q_20)) 3 (rv q_27)) 4 (rv q_38)) 5 (rv q_39)) 6 (rv q_47)) 7 (rv q_48)) 8 (rv q_58)) 9 (rv q_68)) 10 (rv q_78)) 11 (rv q_87)) 12 (iv 20)) 14 (iv (-1)))), (q_1, ob 6 (uF fzX7 0 (rv b1_5))), (b1_5, ar 160 (fun _ => 0)), (q_8, ob 8 (uF (uF fzX9 0 (rv q_1)) 3 (rv o8_12))), (o8_12, ob 7 (uF (uF (uF (uF (uF (uF fzX8 1 (iv 60)) 2 (rv b1_13)) 3 (rv b2_14)) 4 (rv b3_15)) 5 (rv b4_16)) 6 (rv b5_17))), (b1_13, ar 6 (fun _ => 0)), (b2_14, ar 6 (fun _ => 0)), (b3_15, ar 6 (fun _ => 0)), (b4_16, ar 6 (fun _ => 0)), (b5_17, ar 6 (fun _ => 0)), (q_20, ob 2 (uF (uF fzX2 0 (rv q_1)) 3 (rv b1_24))), (b1_24, ar 160 (fun _ => 0)), (q_27, ob 7 (uF (uF (uF (uF (uF (uF fzX8 1 (iv 60)) 2 (rv b1_31)) 3 (rv b2_32)) 4 (rv b3_33)) 5 (rv b4_34)) 6 (rv b5_35))), (b1_31, ar 6 (fun _ => 0)), (b2_32, ar 6 (fun _ => 0)), (b3_33, ar 6 (fun _ => 0)), (b4_34, ar 6 (fun _ => 0)), (b5_35, ar 6 (fun _ => 0)), (q_38, aq 4 (fun _ => none)), (q_39, ob 0 (uF (uF fzX0 5 (rv b1_43)) 6 (rv b2_44))), (b1_43, ar 6 (fun _ => 0)), (b2_44, ar 360 (fun _ => 0)), (q_47, ar 60 (fun _ => 0)), (q_48, ob 5 (uF (uF (uF (uF (uF fzX6 1 (iv 9)) 4 (rv b1_52)) 5 (rv b2_53)) 6 (rv b3_54)) 7 (rv b4_55))), (b1_52, ar 6 (fun _ => 0)), (b2_53, ar 6 (fun _ => 0)), (b3_54, ar 6 (fun _ => 0)), (b4_55, ar 6 (fun _ => 0)), (q_58, ob 5 (uF (uF (uF (uF (uF fzX6 1 (iv 9)) 4 (rv b1_62)) 5 (rv b2_63)) 6 (rv b3_64)) 7 (rv b4_65))), (b1_62, ar 6 (fun _ => 0)), (b2_63, ar 6 (fun _ => 0)), (b3_64, ar 6 (fun _ => 0)), (b4_65, ar 6 (fun _ => 0)), (q_68, ob 4 (uF (uF (uF (uF fzX4 0 (rv b1_72)) 1 (rv b2_73)) 2 (rv b3_74)) 3 (rv b4_75))), (b1_72, ar 1206 (fun _ => 0)), (b2_73, ar 180 (fun _ => 0)), (b3_74, ar 6 (fun _ => 0)), (b4_75, ar 30 (fun _ => 0)), (q_78, ob 3 (uF (uF (uF fzX3 2 (rv b1_82)) 3 (rv b2_83)) 4 (rv b3_84))), (b1_82, ar 31 (fun _ => 0)), (b2_83, ar 31 (fun _ => 0)), (b3_84, ar 6 (fun _ => 0)), (q_87, ob 9 (uF (uF (uF (uF fzX10 5 (rv b1_91)) 6 (rv b2_92)) 3 (rv q_68)) 4 (rv q_58))), (b1_91, ar 6 (fun _ => 0)), (b2_92, ar 42 (fun _ => 0))]) rfl ?_
  exact S_vret X (nle rfl) (nle rfl) dX11_init_157 (hPo _ (⟨_, _, _, _, _, _, _, _, _, _, _, _, _, _, _, _, _, _, _, _, _, _, _, _, _, _, _, _, _, _, _, _, _, _, _, _, _, _, _, _, _, _, _, _, rfl⟩))
set_option maxHeartbeats 4000000 in
set_option maxRecDepth 100000 in
theorem kX12_init (l : Launch) (h0 : Nat) : AMv l yX12_init cX12_init 1 1 40 8000 [rv h0] [(h0, ob 11 fzX12)] (fun u => ∃ y1 : Nat, ∃ y6 : Nat, ∃ y7 : Nat, ∃ y8 : Nat, ∃ y9 : Nat, ∃ y10 : Nat, ∃ y11 : Nat, ∃ y12 : Nat, ∃ y15 : Nat, ∃ y16 : Nat, ∃ y17 : Nat, ∃ y20 : Nat, ∃ y23 : Nat, ∃ y24 : Nat, ∃ y31 : Nat, ∃ y33 : Nat, ∃ y34 : Nat, ∃ y35 : Nat, ∃ y36 : Nat, ∃ y37 : Nat, ∃ y40 : Nat, ∃ y41 : Nat, ∃ y42 : Nat, ∃ y43 : Nat, ∃ y44 : Nat, ∃ y45 : Nat, ∃ y47 : Nat, u = [(h0, ob 11 (uF (uF (uF (uF (uF (uF (uF (uF (uF (uF (uF (uF (uF (uF (uF (uF (uF (uF (uF (uF (uF (uF (uF (uF (uF (uF (uF (uF (uF (uF fzX12 1 (rv y1)) 6 (rv y6)) 7 (rv y7)) 8 (rv y8)) 9 (rv y9)) 10 (rv y10)) 11 (rv y11)) 12 (rv y12)) 15 (rv y15)) 16 (rv y16)) 17 (rv y17)) 20 (rv y20)) 23 (rv y23)) 24 (rv y24)) 27 (iv (-1))) 28 (iv 9)) 30 (iv 20)) 31 (rv y31)) 33 (rv y33)) 34 (rv y34)) 35 (rv y35)) 36 (rv y36)) 37 (rv y37)) 40 (rv y40)) 41 (rv y41)) 42 (rv y42)) 43 (rv y43)) 44 (rv y44)) 45 (rv y45)) 47 (rv y47))), (y1, ar 160 (fun _ => 0)), (y6, ar 1700 (fun _ => 0)), (y7, ar 1700 (fun _ => 0)), (y8, ar 5 (fun _ => 0)), (y9, ar 5 (fun _ => 0)), (y10, ar 450 (fun _ => 0)), (y11, ar 450 (fun _ => 0)), (y12, ar 450 (fun _ => 0)), (y15, ar 5 (fun _ => 0)), (y16, ar 80 (fun _ => 0)), (y17, ar 30 (fun _ => 0)), (y20, ar 30 (fun _ => 0)), (y23, ar 6 (fun _ => 0)), (y24, ar 6 (fun _ => 0)), (y31, ar 360 (fun _ => 0)), (y33, ar 1206 (fun _ => 0)), (y34, ar 180 (fun _ => 0)), (y35, ar 180 (fun _ => 0)), (y36, ar 42 (fun _ => 0)), (y37, ar 6 (fun _ => 0)), (y40, ar 31 (fun _ => 0)), (y41, ar 31 (fun _ => 0)), (y42, ar 6 (fun _ => 0)), (y43, ar 20 (fun _ => 0)), (y44, ar 20 (fun _ => 0)), (y45, ar 20 (fun _ => 0)), (y47, ar 6 (fun _ => 0))]) := by
  refine AMv.of2 rfl (nle rfl) ?_
  intro D G A p e s m args below meth c Po hPo hnm X
  refine S_aload_n X dX12_init_0 rfl rfl ?_
  refine S_obj X m1155 m112 m113 dX12_init_1 (nle rfl) (nle rfl) ?_
  refine S_aload_n X dX12_init_4 rfl rfl ?_
  refine S_sipush X dX12_init_5 rfl ?_
  refine S_newa (N := 160) X m130 (by decide) (nle rfl) (nle rfl) dX12_init_8 (fun q_1 => ?_)
  refine S_w (ws' := [(h0, ob 11 fzX12), (q_1, ar 160 (fun _ => 0))]) rfl ?_
  refine S_putF X hnm fpX12_9_11 0 rfl FT_a dX12_init_10 ?_
  refine S_w (ws' := [(h0, ob 11 (uF fzX12 1 (rv q_1))), (q_1, ar 160 (fun _ => 0))]) rfl ?_
  refine S_aload_n X dX12_init_13 rfl rfl ?_
  refine S_sipush X dX12_init_14 rfl ?_
  refine S_newa (N := 1700) X m130 (by decide) (nle rfl) (nle rfl) dX12_init_17 (fun q_2 => ?_)
  refine S_w (ws' := [(h0, ob 11 (uF fzX12 1 (rv q_1))), (q_1, ar 160 (fun _ => 0)), (q_2, ar 1700 (fun _ => 0))]) rfl ?_
  refine S_putF X hnm fpX12_13_11 0 rfl FT_a dX12_init_19 ?_
  refine S_w (ws' := [(h0, ob 11 (uF (uF fzX12 1 (rv q_1)) 6 (rv q_2))), (q_1, ar 160 (fun _ => 0)), (q_2, ar 1700 (fun _ => 0))]) rfl ?_
  refine S_aload_n X dX12_init_22 rfl rfl ?_
  refine S_sipush X dX12_init_23 rfl ?_
  refine S_newa (N := 1700) X m130 (by decide) (nle rfl) (nle rfl) dX12_init_26 (fun q_3 => ?_)
  refine S_w (ws' := [(h0, ob 11 (uF (uF fzX12 1 (rv q_1)) 6 (rv q_2))), (q_1, ar 160 (fun _ => 0)), (q_2, ar 1700 (fun _ => 0)), (q_3, ar 1700 (fun _ => 0))]) rfl ?_
  refine S_putF X hnm fpX12_16_11 0 rfl FT_a dX12_init_28 ?_
  refine S_w (ws' := [(h0, ob 11 (uF (uF (uF fzX12 1 (rv q_1)) 6 (rv q_2)) 7 (rv q_3))), (q_1, ar 160 (fun _ => 0)), (q_2, ar 1700 (fun _ => 0)), (q_3, ar 1700 (fun _ => 0))]) rfl ?_
  refine S_aload_n X dX12_init_31 rfl rfl ?_
  refine S_iconst X dX12_init_32 ?_
  refine S_newa (N := 5) X m130 (by decide) (nle rfl) (nle rfl) dX12_init_33 (fun q_4 => ?_)
  refine S_w (ws' := [(h0, ob 11 (uF (uF (uF fzX12 1 (rv q_1)) 6 (rv q_2)) 7 (rv q_3))), (q_1, ar 160 (fun _ => 0)), (q_2, ar 1700 (fun _ => 0)), (q_3, ar 1700 (fun _ => 0)), (q_4, ar 5 (fun _ => 0))]) rfl ?_
  refine S_putF X hnm fpX12_19_11 0 rfl FT_a dX12_init_35 ?_
  refine S_w (ws' := [(h0, ob 11 (uF (uF (uF (uF fzX12 1 (rv q_1)) 6 (rv q_2)) 7 (rv q_3)) 8 (rv q_4))), (q_1, ar 160 (fun _ => 0)), (q_2, ar 1700 (fun _ => 0)), (q_3, ar 1700 (fun _ => 0)), (q_4, ar 5 (fun _ => 0))]) rfl ?_
  refine S_aload_n X dX12_init_38 rfl rfl ?_
  refine S_iconst X dX12_init_39 ?_
  refine S_newa (N := 5) X m130 (by decide) (nle rfl) (nle rfl) dX12_init_40 (fun q_5 => ?_)
  refine S_w (ws' := [(h0, ob 11 (uF (uF (uF (uF fzX12 1 (rv q_1)) 6 (rv q_2)) 7 (rv q_3)) 8 (rv q_4))), (q_1, ar 160 (fun _ => 0)), (q_2, ar 1700 (fun _ => 0)), (q_3, ar 1700 (fun _ => 0)), (q_4, ar 5 (fun _ => 0)), (q_5, ar 5 (fun _ => 0))]) rfl ?_
  refine S_putF X hnm fpX12_22_11 0 rfl FT_a dX12_init_42 ?_
  refine S_w (ws' := [(h0, ob 11 (uF (uF (uF (uF (uF fzX12 1 (rv q_1)) 6 (rv q_2)) 7 (rv q_3)) 8 (rv q_4)) 9 (rv q_5))), (q_1, ar 160 (fun _ => 0)), (q_2, ar 1700 (fun _ => 0)), (q_3, ar 1700 (fun _ => 0)), (q_4, ar 5 (fun _ => 0)), (q_5, ar 5 (fun _ => 0))]) rfl ?_
  refine S_aload_n X dX12_init_45 rfl rfl ?_
  refine S_sipush X dX12_init_46 rfl ?_
  refine S_newa (N := 450) X m130 (by decide) (nle rfl) (nle rfl) dX12_init_49 (fun q_6 => ?_)
  refine S_w (ws' := [(h0, ob 11 (uF (uF (uF (uF (uF fzX12 1 (rv q_1)) 6 (rv q_2)) 7 (rv q_3)) 8 (rv q_4)) 9 (rv q_5))), (q_1, ar 160 (fun _ => 0)), (q_2, ar 1700 (fun _ => 0)), (q_3, ar 1700 (fun _ => 0)), (q_4, ar 5 (fun _ => 0)), (q_5, ar 5 (fun _ => 0)), (q_6, ar 450 (fun _ => 0))]) rfl ?_
  refine S_putF X hnm fpX12_25_11 0 rfl FT_a dX12_init_51 ?_
  refine S_w (ws' := [(h0, ob 11 (uF (uF (uF (uF (uF (uF fzX12 1 (rv q_1)) 6 (rv q_2)) 7 (rv q_3)) 8 (rv q_4)) 9 (rv q_5)) 10 (rv q_6))), (q_1, ar 160 (fun _ => 0)), (q_2, ar 1700 (fun _ => 0)), (q_3, ar 1700 (fun _ => 0)), (q_4, ar 5 (fun _ => 0)), (q_5, ar 5 (fun _ => 0)), (q_6, ar 450 (fun _ => 0))]) rfl ?_
  refine S_aload_n X dX12_init_54 rfl rfl ?_
  refine S_sipush X dX12_init_55 rfl ?_
  refine S_newa (N := 450) X m130 (by decide) (nle rfl) (nle rfl) dX12_init_58 (fun q_7 => ?_)
  refine S_w (ws' := [(h0, ob 11 (uF (uF (uF (uF (uF (uF fzX12 1 (rv q_1)) 6 (rv q_2)) 7 (rv q_3)) 8 (rv q_4)) 9 (rv q_5)) 10 (rv q_6))), (q_1, ar 160 (fun _ => 0)), (q_2, ar 1700 (fun _ => 0)), (q_3, ar 1700 (fun _ => 0)), (q_4, ar 5 (fun _ => 0)), (q_5, ar 5 (fun _ => 0)), (q_6, ar 450 (fun _ => 0)), (q_7, ar 450 (fun _ => 0))]) rfl ?_
  refine S_putF X hnm fpX12_28_11 0 rfl FT_a dX12_init_60 ?_
  refine S_w (ws' := [(h0, ob 11 (uF (uF (uF (uF (uF (uF (uF fzX12 1 (rv q_1)) 6 (rv q_2)) 7 (rv q_3)) 8 (rv q_4)) 9 (rv q_5)) 10 (rv q_6)) 11 (rv q_7))), (q_1, ar 160 (fun _ => 0)), (q_2, ar 1700 (fun _ => 0)), (q_3, ar 1700 (fun _ => 0)), (q_4, ar 5 (fun _ => 0)), (q_5, ar 5 (fun _ => 0)), (q_6, ar 450 (fun _ => 0)), (q_7, ar 450 (fun _ => 0))]) rfl ?_
  refine S_aload_n X dX12_init_63 rfl rfl ?_
  refine S_sipush X dX12_init_64 rfl ?_
  refine S_newa (N := 450) X m130 (by decide) (nle rfl) (nle rfl) dX12_init_67 (fun q_8 => ?_)
  refine S_w (ws' := [(h0, ob 11 (uF (uF (uF (uF (uF (uF (uF fzX12 1 (rv q_1)) 6 (rv q_2)) 7 (rv q_3)) 8 (rv q_4)) 9 (rv q_5)) 10 (rv q_6)) 11 (rv q_7))), (q_1, ar 160 (fun _ => 0)), (q_2, ar 1700 (fun _ => 0)), (q_3, ar 1700 (fun _ => 0)), (q_4, ar 5 (fun _ => 0)), (q_5, ar 5 (fun _ => 0)), (q_6, ar 450 (fun _ => 0)), (q_7, ar 450 (fun _ => 0)), (q_8, ar 450 (fun _ => 0))]) rfl ?_
  refine S_putF X hnm fpX12_31_11 0 rfl FT_a dX12_init_69 ?_
  refine S_w (ws' := [(h0, ob 11 (uF (uF (uF (uF (uF (uF (uF (uF fzX12 1 (rv q_1)) 6 (rv q_2)) 7 (rv q_3)) 8 (rv q_4)) 9 (rv q_5)) 10 (rv q_6)) 11 (rv q_7)) 12 (rv q_8))), (q_1, ar 160 (fun _ => 0)), (q_2, ar 1700 (fun _ => 0)), (q_3, ar 1700 (fun _ => 0)), (q_4, ar 5 (fun _ => 0)), (q_5, ar 5 (fun _ => 0)), (q_6, ar 450 (fun _ => 0)), (q_7, ar 450 (fun _ => 0)), (q_8, ar 450 (fun _ => 0))]) rfl ?_
  refine S_aload_n X dX12_init_72 rfl rfl ?_
  refine S_iconst X dX12_init_73 ?_
  refine S_newa (N := 5) X m130 (by decide) (nle rfl) (nle rfl) dX12_init_74 (fun q_9 => ?_)
  refine S_w (ws' := [(h0, ob 11 (uF (uF (uF (uF (uF (uF (uF (uF fzX12 1 (rv q_1)) 6 (rv q_2)) 7 (rv q_3)) 8 (rv q_4)) 9 (rv q_5)) 10 (rv q_6)) 11 (rv q_7)) 12 (rv q_8))), (q_1, ar 160 (fun _ => 0)), (q_2, ar 1700 (fun _ => 0)), (q_3, ar 1700 (fun _ => 0)), (q_4, ar 5 (fun _ => 0)), (q_5, ar 5 (fun _ => 0)), (q_6, ar 450 (fun _ => 0)), (q_7, ar 450 (fun _ => 0)), (q_8, ar 450 (fun _ => 0)), (q_9, ar 5 (fun _ => 0))]) rfl ?_
  refine S_putF X hnm fpX12_34_11 0 rfl FT_a dX12_init_76 ?_
  refine S_w (ws' := [(h0, ob 11 (uF (uF (uF (uF (uF (uF (uF (uF (uF fzX12 1 (rv q_1)) 6 (rv q_2)) 7 (rv q_3)) 8 (rv q_4)) 9 (rv q_5)) 10 (rv q_6)) 11 (rv q_7)) 12 (rv q_8)) 15 (rv q_9))), (q_1, ar 160 (fun _ => 0)), (q_2, ar 1700 (fun _ => 0)), (q_3, ar 1700 (fun _ => 0)), (q_4, ar 5 (fun _ => 0)), (q_5, ar 5 (fun _ => 0)), (q_6, ar 450 (fun _ => 0)), (q_7, ar 450 (fun _ => 0)), (q_8, ar 450 (fun _ => 0)), (q_9, ar 5 (fun _ => 0))]) rfl ?_
  refine S_aload_n X dX12_init_79 rfl rfl ?_
  refine S_bipush X dX12_init_80 rfl ?_
  refine S_newa (N := 80) X m130 (by decide) (nle rfl) (nle rfl) dX12_init_82 (fun q_10 => ?_)
  refine S_w (ws' := [(h0, ob 11 (uF (uF (uF (uF (uF (uF (uF (uF (uF fzX12 1 (rv q_1)) 6 (rv q_2)) 7 (rv q_3)) 8 (rv q_4)) 9 (rv q_5)) 10 (rv q_6)) 11 (rv q_7)) 12 (rv q_8)) 15 (rv q_9))), (q_1, ar 160 (fun _ => 0)), (q_2, ar 1700 (fun _ => 0)), (q_3, ar 1700 (fun _ => 0)), (q_4, ar 5 (fun _ => 0)), (q_5, ar 5 (fun _ => 0)), (q_6, ar 450 (fun _ => 0)), (q_7, ar 450 (fun _ => 0)), (q_8, ar 450 (fun _ => 0)), (q_9, ar 5 (fun _ => 0)), (q_10, ar 80 (fun _ => 0))]) rfl ?_
  refine S_putF X hnm fpX12_37_11 0 rfl FT_a dX12_init_84 ?_
  refine S_w (ws' := [(h0, ob 11 (uF (uF (uF (uF (uF (uF (uF (uF (uF (uF fzX12 1 (rv q_1)) 6 (rv q_2)) 7 (rv q_3)) 8 (rv q_4)) 9 (rv q_5)) 10 (rv q_6)) 11 (rv q_7)) 12 (rv q_8)) 15 (rv q_9)) 16 (rv q_10))), (q_1, ar 160 (fun _ => 0)), (q_2, ar 1700 (fun _ => 0)), (q_3, ar 1700 (fun _ => 0)), (q_4, ar 5 (fun _ => 0)), (q_5, ar 5 (fun _ => 0)), (q_6, ar 450 (fun _ => 0)), (q_7, ar 450 (fun _ => 0)), (q_8, ar 450 (fun _ => 0)), (q_9, ar 5 (fun _ => 0)), (q_10, ar 80 (fun _ => 0))]) rfl ?_
  refine S_aload_n X dX12_init_87 rfl rfl ?_
  refine S_bipush X dX12_init_88 rfl ?_
  refine S_newa (N := 30) X m130 (by decide) (nle rfl) (nle rfl) dX12_init_90 (fun q_11 => ?_)
  refine S_w (ws' := [(h0, ob 11 (uF (uF (uF (uF (uF (uF (uF (uF (uF (uF fzX12 1 (rv q_1)) 6 (rv q_2)) 7 (rv q_3)) 8 (rv q_4)) 9 (rv q_5)) 10 (rv q_6)) 11 (rv q_7)) 12 (rv q_8)) 15 (rv q_9)) 16 (rv q_10))), (q_1, ar 160 (fun _ => 0)), (q_2, ar 1700 (fun _ => 0)), (q_3, ar 1700 (fun _ => 0)), (q_4, ar 5 (fun _ => 0)), (q_5, ar 5 (fun _ => 0)), (q_6, ar 450 (fun _ => 0)), (q_7, ar 450 (fun _ => 0)), (q_8, ar 450 (fun _ => 0)), (q_9, ar 5 (fun _ => 0)), (q_10, ar 80 (fun _ => 0)), (q_11, ar 30 (fun _ => 0))]) rfl ?_
  refine S_putF X hnm fpX12_40_11 0 rfl FT_a dX12_init_92 ?_
  refine S_w (ws' := [(h0, ob 11 (uF (uF (uF (uF (uF (uF (uF (uF (uF (uF (uF fzX12 1 (rv q_1)) 6 (rv q_2)) 7 (rv q_3)) 8 (rv q_4)) 9 (rv q_5)) 10 (rv q_6)) 11 (rv q_7)) 12 (rv q_8)) 15 (rv q_9)) 16 (rv q_10)) 17 (rv q_11))), (q_1, ar 160 (fun _ => 0)), (q_2, ar 1700 (fun _ => 0)), (q_3, ar 1700 (fun _ => 0)), (q_4, ar 5 (fun _ => 0)), (q_5, ar 5 (fun _ => 0)), (q_6, ar 450 (fun _ => 0)), (q_7, ar 450 (fun _ => 0)), (q_8, ar 450 (fun _ => 0)), (q_9, ar 5 (fun _ => 0)), (q_10, ar 80 (fun _ => 0)), (q_11, ar 30 (fun _ => 0))]) rfl ?_
  refine S_aload_n X dX12_init_95 rfl rfl ?_
  refine S_bipush X dX12_init_96 rfl ?_
  refine S_newa (N := 30) X m130 (by decide) (nle rfl) (nle rfl) dX12_init_98 (fun q_12 => ?_)
  refine S_w (ws' := [(h0, ob 11 (uF (uF (uF (uF (uF (uF (uF (uF (uF (uF (uF fzX12 1 (rv q_1)) 6 (rv q_2)) 7 (rv q_3)) 8 (rv q_4)) 9 (rv q_5)) 10 (rv q_6)) 11 (rv q_7)) 12 (rv q_8)) 15 (rv q_9)) 16 (rv q_10)) 17 (rv q_11))), (q_1, ar 160 (fun _ => 0)), (q_2, ar 1700 (fun _ => 0)), (q_3, ar 1700 (fun _ => 0)), (q_4, ar 5 (fun _ => 0)), (q_5, ar 5 (fun _ => 0)), (q_6, ar 450 (fun _ => 0)), (q_7, ar 450 (fun _ => 0)), (q_8, ar 450 (fun _ => 0)), (q_9, ar 5 (fun _ => 0)), (q_10, ar 80 (fun _ => 0)), (q_11, ar 30 (fun _ => 0)), (q_12, ar 30 (fun _ => 0))]) rfl ?_
  refine S_putF X hnm fpX12_43_11 0 rfl FT_a dX12_init_100 ?_
  refine S_w (ws' := [(h0, ob 11 (uF (uF (uF (uF (uF (uF (uF (uF (uF (uF (uF (uF fzX12 1 (rv q_1)) 6 (rv q_2)) 7 (rv q_3)) 8 (rv q_4)) 9 (rv q_5)) 10 (rv q_6)) 11 (rv q_7)) 12 (rv q_8)) 15 (rv q_9)) 16 (rv q_10)) 17 (rv q_11)) 20 (rv q_12))), (q_1, ar 160 (fun _ => 0)), (q_2, ar 1700 (fun _ => 0)), (q_3, ar 1700 (fun _ => 0)), (q_4, ar 5 (fun _ => 0)), (q_5, ar 5 (fun _ => 0)), (q_6, ar 450 (fun _ => 0)), (q_7, ar 450 (fun _ => 0)), (q_8, ar 450 (fun _ => 0)), (q_9, ar 5 (fun _ => 0)), (q_10, ar 80 (fun _ => 0)), (q_11, ar 30 (fun _ => 0)), (q_12, ar 30 (fun _ => 0))]) rfl ?_
  refine S_aload_n X dX12_init_103 rfl rfl ?_
  refine S_bipush X dX12_init_104 rfl ?_
  refine S_newa (N := 6) X m130 (by decide) (nle rfl) (nle rfl) dX12_init_106 (fun q_13 => ?_)
  refine S_w (ws' := [(h0, ob 11 (uF (uF (uF (uF (uF (uF (uF (uF (uF (uF (uF (uF fzX12 1 (rv q_1)) 6 (rv q_2)) 7 (rv q_3)) 8 (rv q_4)) 9 (rv q_5)) 10 (rv q_6)) 11 (rv q_7)) 12 (rv q_8)) 15 (rv q_9)) 16 (rv q_10)) 17 (rv q_11)) 20 (rv q_12))), (q_1, ar 160 (fun _ => 0)), (q_2, ar 1700 (fun _ => 0)), (q_3, ar 1700 (fun _ => 0)), (q_4, ar 5 (fun _ => 0)), (q_5, ar 5 (fun _ => 0)), (q_6, ar 450 (fun _ => 0)), (q_7, ar 450 (fun _ => 0)), (q_8, ar 450 (fun _ => 0)), (q_9, ar 5 (fun _ => 0)), (q_10, ar 80 (fun _ => 0)), (q_11, ar 30 (fun _ => 0)), (q_12, ar 30 (fun _ => 0)), (q_13, ar 6 (fun _ => 0))]) rfl ?_
  refine S_putF X hnm fpX12_46_11 0 rfl FT_a dX12_init_108 ?_
  refine S_w (ws' := [(h0, ob 11 (uF (uF (uF (uF (uF (uF (uF (uF (uF (uF (uF (uF (uF fzX12 1 (rv q_1)) 6 (rv q_2)) 7 (rv q_3)) 8 (rv q_4)) 9 (rv q_5)) 10 (rv q_6)) 11 (rv q_7)) 12 (rv q_8)) 15 (rv q_9)) 16 (rv q_10)) 17 (rv q_11)) 20 (rv q_12)) 23 (rv q_13))), (q_1, ar 160 (fun _ => 0)), (q_2, ar 1700 (fun _ => 0)), (q_3, ar 1700 (fun _ => 0)), (q_4, ar 5 (fun _ => 0)), (q_5, ar 5 (fun _ => 0)), (q_6, ar 450 (fun _ => 0)), (q_7, ar 450 (fun _ => 0)), (q_8, ar 450 (fun _ => 0)), (q_9, ar 5 (fun _ => 0)), (q_10, ar 80 (fun _ => 0)), (q_11, ar 30 (fun _ => 0)), (q_12, ar 30 (fun _ => 0)), (q_13, ar 6 (fun _ => 0))]) rfl ?_
  refine S_aload_n X dX12_init_111 rfl rfl ?_
  refine S_bipush X dX12_init_112 rfl ?_
  refine S_newa (N := 6) X m130 (by decide) (nle rfl) (nle rfl) dX12_init_114 (fun q_14 => ?_)
  refine S_w (ws' := [(h0, ob 11 (uF (uF (uF (uF (uF (uF (uF (uF (uF (uF (uF (uF (uF fzX12 1 (rv q_1)) 6 (rv q_2)) 7 (rv q_3)) 8 (rv q_4)) 9 (rv q_5)) 10 (rv q_6)) 11 (rv q_7)) 12 (rv q_8)) 15 (rv q_9)) 16 (rv q_10)) 17 (rv q_11)) 20 (rv q_12)) 23 (rv q_13))), (q_1, ar 160 (fun _ => 0)), (q_2, ar 1700 (fun _ => 0)), (q_3, ar 1700 (fun _ => 0)), (q_4, ar 5 (fun _ => 0)), (q_5, ar 5 (fun _ => 0)), (q_6, ar 450 (fun _ => 0)), (q_7, ar 450 (fun _ => 0)), (q_8, ar 450 (fun _ => 0)), (q_9, ar 5 (fun _ => 0)), (q_10, ar 80 (fun _ => 0)), (q_11, ar 30 (fun _ => 0)), (q_12, ar 30 (fun _ => 0)), (q_13, ar 6 (fun _ => 0)), (q_14, ar 6 (fun _ => 0))]) rfl ?_
  refine S_putF X hnm fpX12_49_11 0 rfl FT_a dX12_init_116 ?_
  refine S_w (ws' := [(h0, ob 11 (uF (uF (uF (uF (uF (uF (uF (uF (uF (uF (uF (uF (uF (uF fzX12 1 (rv q_1)) 6 (rv q_2)) 7 (rv q_3)) 8 (rv q_4)) 9 (rv q_5)) 10 (rv q_6)) 11 (rv q_7)) 12 (rv q_8)) 15 (rv q_9)) 16 (rv q_10)) 17 (rv q_11)) 20 (rv q_12)) 23 (rv q_13)) 24 (rv q_14))), (q_1, ar 160 (fun _ => 0)), (q_2, ar 1700 (fun _ => 0)), (q_3, ar 1700 (fun _ => 0)), (q_4, ar 5 (fun _ => 0)), (q_5, ar 5 (fun _ => 0)), (q_6, ar 450 (fun _ => 0)), (q_7, ar 450 (fun _ => 0)), (q_8, ar 450 (fun _ => 0)), (q_9, ar 5 (fun _ => 0)), (q_10, ar 80 (fun _ => 0)), (q_11, ar 30 (fun _ => 0)), (q_12, ar 30 (fun _ => 0)), (q_13, ar 6 (fun _ => 0)), (q_14, ar 6 (fun _ => 0))]) rfl ?_
  refine S_aload_n X dX12_init_119 rfl rfl ?_
  refine S_iconst X dX12_init_120 ?_
  refine S_put X fpX12_52_11 0 rfl FT_i dX12_init_121 ?_
  refine S_w (ws' := [(h0, ob 11 (uF (uF (uF (uF (uF (uF (uF (uF (uF (uF (uF (uF (uF (uF (uF fzX12 1 (rv q_1)) 6 (rv q_2)) 7 (rv q_3)) 8 (rv q_4)) 9 (rv q_5)) 10 (rv q_6)) 11 (rv q_7)) 12 (rv q_8)) 15 (rv q_9)) 16 (rv q_10)) 17 (rv q_11)) 20 (rv q_12)) 23 (rv q_13)) 24 (rv q_14)) 27 (iv (-1)))), (q_1, ar 160 (fun _ => 0)), (q_2, ar 1700 (fun _ => 0)), (q_3, ar 1700 (fun _ => 0)), (q_4, ar 5 (fun _ => 0)), (q_5, ar 5 (fun _ => 0)), (q_6, ar 450 (fun _ => 0)), (q_7, ar 450 (fun _ => 0)), (q_8, ar 450 (fun _ => 0)), (q_9, ar 5 (fun _ => 0)), (q_10, ar 80 (fun _ => 0)), (q_11, ar 30 (fun _ => 0)), (q_12, ar 30 (fun _ => 0)), (q_13, ar 6 (fun _ => 0)), (q_14, ar 6 (fun _ => 0))]) rfl ?_
  refine S_aload_n X dX12_init_124 rfl rfl ?_
  refine S_bipush X dX12_init_125 rfl ?_
  refine S_put X fpX12_56_11 0 rfl FT_i dX12_init_127 ?_
  refine S_w (ws' := [(h0, ob 11 (uF (uF (uF (uF (uF (uF (uF (uF (uF (uF (uF (uF (uF (uF (uF (uF fzX12 1 (rv q_1)) 6 (rv q_2)) 7 (rv q_3)) 8 (rv q_4)) 9 (rv q_5)) 10 (rv q_6)) 11 (rv q_7)) 12 (rv q_8)) 15 (rv q_9)) 16 (rv q_10)) 17 (rv q_11)) 20 (rv q_12)) 23 (rv q_13)) 24 (rv q_14)) 27 (iv (-1))) 28 (iv 9))), (q_1, ar 160 (fun _ => 0)), (q_2, ar 1700 (fun _ => 0)), (q_3, ar 1700 (fun _ => 0)), (q_4, ar 5 (fun _ => 0)), (q_5, ar 5 (fun _ => 0)), (q_6, ar 450 (fun _ => 0)), (q_7, ar 450 (fun _ => 0)), (q_8, ar 450 (fun _ => 0)), (q_9, ar 5 (fun _ => 0)), (q_10, ar 80 (fun _ => 0)), (q_11, ar 30 (fun _ => 0)), (q_12, ar 30 (fun _ => 0)), (q_13, ar 6 (fun _ => 0)), (q_14, ar 6 (fun _ => 0))]) rfl ?_
  refine S_aload_n X dX12_init_130 rfl rfl ?_
  refine S_bipush X dX12_init_131 rfl ?_
  refine S_put X fpX12_59_11 0 rfl FT_i dX12_init_133 ?_
  refine S_w (ws' := [(h0, ob 11 (uF (uF (uF (uF (uF (uF (uF (uF (uF (uF (uF (uF (uF (uF (uF (uF (uF fzX12 1 (rv q_1)) 6 (rv q_2)) 7 (rv q_3)) 8 (rv q_4)) 9 (rv q_5)) 10 (rv q_6)) 11 (rv q_7)) 12 (rv q_8)) 15 (rv q_9)) 16 (rv q_10)) 17 (rv q_11)) 20 (rv q_12)) 23 (rv q_13)) 24 (rv q_14)) 27 (iv (-1))) 28 (iv 9)) 30 (iv 20))), (q_1, ar 160 (fun _ => 0)), (q_2, ar 1700 (fun _ => 0)), (q_3, ar 1700 (fun _ => 0)), (q_4, ar 5 (fun _ => 0)), (q_5, ar 5 (fun _ => 0)), (q_6, ar 450 (fun _ => 0)), (q_7, ar 450 (fun _ => 0)), (q_8, ar 450 (fun _ => 0)), (q_9, ar 5 (fun _ => 0)), (q_10, ar 80 (fun _ => 0)), (q_11, ar 30 (fun _ => 0)), (q_12, ar 30 (fun _ => 0)), (q_13, ar 6 (fun _ => 0)), (q_14, ar 6 (fun _ => 0))]) rfl ?_
  refine S_aload_n X dX12_init_136 rfl rfl ?_
  refine S_sipush X dX12_init_137 rfl ?_
  refine S_newa (N := 360) X m130 (by decide) (nle rfl) (nle rfl) dX12_init_140 (fun q_15 => ?_)
  refine S_w (ws' := [(h0, ob 11 (uF (uF (uF (uF (uF (uF (uF (uF (uF (uF (uF (uF (uF (uF (uF (uF (uF fzX12 1 (rv q_1)) 6 (rv q_2)) 7 (rv q_3)) 8 (rv q_4)) 9 (rv q_5)) 10 (rv q_6)) 11 (rv q_7)) 12 (rv q_8)) 15 (rv q_9)) 16 (rv q_10)) 17 (rv q_11)) 20 (rv q_12)) 23 (rv q_13)) 24 (rv q_14)) 27 (iv (-1))) 28 (iv 9)) 30 (iv 20))), (q_1, ar 160 (fun _ => 0)), (q_2, ar 1700 (fun _ => 0)), (q_3, ar 1700 (fun _ => 0)), (q_4, ar 5 (fun _ => 0)), (q_5, ar 5 (fun _ => 0)), (q_6, ar 450 (fun _ => 0)), (q_7, ar 450 (fun _ => 0)), (q_8, ar 450 (fun _ => 0)), (q_9, ar 5 (fun _ => 0)), (q_10, ar 80 (fun _ => 0)), (q_11, ar 30 (fun _ => 0)), (q_12, ar 30 (fun _ => 0)), (q_13, ar 6 (fun _ => 0)), (q_14, ar 6 (fun _ => 0)), (q_15, ar 360 (fun _ => 0))]) rfl ?_
  refine S_putF X hnm fpX12_62_11 0 rfl FT_a dX12_init_142 ?_
  refine S_w (ws' := [(h0, ob 11 (uF (uF (uF (uF (uF (uF (uF (uF (uF (uF (uF (uF (uF (uF (uF (uF (uF (uF fzX12 1 (rv q_1)) 6 (rv q_2)) 7 (rv q_3)) 8 (rv q_4)) 9 (rv q_5)) 10 (rv q_6)) 11 (rv q_7)) 12 (rv q_8)) 15 (rv q_9)) 16 (rv q_10)) 17 (rv q_11)) 20 (rv q_12)) 23 (rv q_13)) 24 (rv q_14)) 27 (iv (-1))) 28 (iv 9)) 30 (iv 20)) 31 (rv q_15))), (q_1, ar 160 (fun _ => 0)), (q_2, ar 1700 (fun _ => 0)), (q_3, ar 1700 (fun _ => 0)), (q_4, ar 5 (fun _ => 0)), (q_5, ar 5 (fun _ => 0)), (q_6, ar 450 (fun _ => 0)), (q_7, ar 450 (fun _ => 0)), (q_8, ar 450 (fun _ => 0)), (q_9, ar 5 (fun _ => 0)), (q_10, ar 80 (fun _ => 0)), (q_11, ar 30 (fun _ => 0)), (q_12, ar 30 (fun _ => 0)), (q_13, ar 6 (fun _ => 0)), (q_14, ar 6 (fun _ => 0)), (q_15, ar 360 (fun _ => 0))]) rfl ?_
  refine S_aload_n X dX12_init_145 rfl rfl ?_
  refine S_sipush X dX12_init_146 rfl ?_
  refine S_newa (N := 1206) X m130 (by decide) (nle rfl) (nle rfl) dX12_init_149 (fun q_16 => ?_)
  refine S_w (ws' := [(h0, ob 11 (uF (uF (uF (uF (uF (uF (uF (uF (uF (uF (uF (uF (uF (uF (uF (uF (uF (uF fzX12 1 (rv q_1)) 6 (rv q_2)) 7 (rv q_3)) 8 (rv q_4)) 9 (rv q_5)) 10 (rv q_6)) 11 (rv q_7)) 12 (rv q_8)) 15 (rv q_9)) 16 (rv q_10)) 17 (rv q_11)) 20 (rv q_12)) 23 (rv q_13)) 24 (rv q_14)) 27 (iv (-1))) 28 (iv 9)) 30 (iv 20)) 31 (rv q_15))), (q_1, ar 160 (fun _ => 0)), (q_2, ar 1700 (fun _ => 0)), (q_3, ar 1700 (fun _ => 0)), (q_4, ar 5 (fun _ => 0)), (q_5, ar 5 (fun _ => 0)), (q_6, ar 450 (fun _ => 0)), (q_7, ar 450 (fun _ => 0)), (q_8, ar 450 (fun _ => 0)), (q_9, ar 5 (fun _ => 0)), (q_10, ar 80 (fun _ => 0)), (q_11, ar 30 (fun _ => 0)), (q_12, ar 30 (fun _ => 0)), (q_13, ar 6 (fun _ => 0)), (q_14, ar 6 (fun _ => 0)), (q_15, ar 360 (fun _ => 0)), (q_16, ar 1206 (fun _ => 0))]) rfl ?_
  refine S_putF X hnm fpX12_65_11 0 rfl FT_a dX12_init_151 ?_
  refine S_w (ws' := [(h0, ob 11 (uF (uF (uF (uF (uF (uF (uF (uF (uF (uF (uF (uF (uF (uF (uF (uF (uF (uF (uF fzX12 1 (rv q_1)) 6 (rv q_2)) 7 (rv q_3)) 8 (rv q_4)) 9 (rv q_5)) 10 (rv q_6)) 11 (rv q_7)) 12 (rv q_8)) 15 (rv q_9)) 16 (rv q_10)) 17 (rv q_11)) 20 (rv q_12)) 23 (rv q_13)) 24 (rv q_14)) 27 (iv (-1))) 28 (iv 9)) 30 (iv 20)) 31 (rv q_15)) 33 (rv q_16))), (q_1, ar 160 (fun _ => 0)), (q_2, ar 1700 (fun _ => 0)), (q_3, ar 1700 (fun _ => 0)), (q_4, ar 5 (fun _ => 0)), (q_5, ar 5 (fun _ => 0)), (q_6, ar 450 (fun _ => 0)), (q_7, ar 450 (fun _ => 0)), (q_8, ar 450 (fun _ => 0)), (q_9, ar 5 (fun _ => 0)), (q_10, ar 80 (fun _ => 0)), (q_11, ar 30 (fun _ => 0)), (q_12, ar 30 (fun _ => 0)), (q_13, ar 6 (fun _ => 0)), (q_14, ar 6 (fun _ => 0)), (q_15, ar 360 (fun _ => 0)), (q_16, ar 1206 (fun _ => 0))]) rfl ?_
  refine S_aload_n X dX12_init_154 rfl rfl ?_
  refine S_sipush X dX12_init_155 rfl ?_
  refine S_newa (N := 180) X m130 (by decide) (nle rfl) (nle rfl) dX12_init_158 (fun q_17 => ?_)
  refine S_w (ws' := [(h0, ob 11 (uF (uF (uF (uF (uF (uF (uF (uF (uF (uF (uF (uF (uF (uF (uF (uF (uF (uF (uF fzX12 1 (rv q_1)) 6 (rv q_2)) 7 (rv q_3)) 8 (rv q_4)) 9 (rv q_5)) 10 (rv q_6)) 11 (rv q_7)) 12 (rv q_8)) 15 (rv q_9)) 16 (rv q_10)) 17 (rv q_11)) 20 (rv q_12)) 23 (rv q_13)) 24 (rv q_14)) 27 (iv (-1))) 28 (iv 9)) 30 (iv 20)) 31 (rv q_15)) 33 (rv q_16))), (q_1, ar 160 (fun _ => 0)), (q_2, ar 1700 (fun _ => 0)), (q_3, ar 1700 (fun _ => 0)), (q_4, ar 5 (fun _ => 0)), (q_5, ar 5 (fun _ => 0)), (q_6, ar 450 (fun _ => 0)), (q_7, ar 450 (fun _ => 0)), (q_8, ar 450 (fun _ => 0)), (q_9, ar 5 (fun _ => 0)), (q_10, ar 80 (fun _ => 0)), (q_11, ar 30 (fun _ => 0)), (q_12, ar 30 (fun _ => 0)), (q_13, ar 6 (fun _ => 0)), (q_14, ar 6 (fun _ => 0)), (q_15, ar 360 (fun _ => 0)), (q_16, ar 1206 (fun _ => 0)), (q_17, ar 180 (fun _ => 0))]) rfl ?_
  refine S_putF X hnm fpX12_68_11 0 rfl FT_a dX12_init_160 ?_
  refine S_w (ws' := [(h0, ob 11 (uF (uF (uF (uF (uF (uF (uF (uF (uF (uF (uF (uF (uF (uF (uF (uF (uF (uF (uF (uF fzX12 1 (rv q_1)) 6 (rv q_2)) 7 (rv q_3)) 8 (rv q_4)) 9 (rv q_5)) 10 (rv q_6)) 11 (rv q_7)) 12 (rv q_8)) 15 (rv q_9)) 16 (rv q_10)) 17 (rv q_11)) 20 (rv q_12)) 23 (rv q_13)) 24 (rv q_14)) 27 (iv (-1))) 28 (iv 9)) 30 (iv 20)) 31 (rv q_15)) 33 (rv q_16)) 34 (rv q_17))), (q_1, ar 160 (fun _ => 0)), (q_2, ar 1700 (fun _ => 0)), (q_3, ar 1700 (fun _ => 0)), (q_4, ar 5 (fun _ => 0)), (q_5, ar 5 (fun _ => 0)), (q_6, ar 450 (fun _ => 0)), (q_7, ar 450 (fun _ => 0)), (q_8, ar 450 (fun _ => 0)), (q_9, ar 5 (fun _ => 0)), (q_10, ar 80 (fun _ => 0)), (q_11, ar 30 (fun _ => 0)), (q_12, ar 30 (fun _ => 0)), (q_13, ar 6 (fun _ => 0)), (q_14, ar 6 (fun _ => 0)), (q_15, ar 360 (fun _ => 0)), (q_16, ar 1206 (fun _ => 0)), (q_17, ar 180 (fun _ => 0))]) rfl ?_
  refine S_aload_n X dX12_init_163 rfl rfl ?_
  refine S_sipush X dX12_init_164 rfl ?_
  refine S_newa (N := 180) X m130 (by decide) (nle rfl) (nle rfl) dX12_init_167 (fun q_18 => ?_)
  refine S_w (ws' := [(h0, ob 11 (uF (uF (uF (uF (uF (uF (uF (uF (uF (uF (uF (uF (uF (uF (uF (uF (uF (uF (uF (uF fzX12 1 (rv q_1)) 6 (rv q_2)) 7 (rv q_3)) 8 (rv q_4)) 9 (rv q_5)) 10 (rv q_6)) 11 (rv q_7)) 12 (rv q_8)) 15 (rv q_9)) 16 (rv q_10)) 17 (rv q_11)) 20 (rv q_12)) 23 (rv q_13)) 24 (rv q_14)) 27 (iv (-1))) 28 (iv 9)) 30 (iv 20)) 31 (rv q_15)) 33 (rv q_16)) 34 (rv q_17))), (q_1, ar 160 (fun _ => 0)), (q_2, ar 1700 (fun _ => 0)), (q_3, ar 1700 (fun _ => 0)), (q_4, ar 5 (fun _ => 0)), (q_5, ar 5 (fun _ => 0)), (q_6, ar 450 (fun _ => 0)), (q_7, ar 450 (fun _ => 0)), (q_8, ar 450 (fun _ => 0)), (q_9, ar 5 (fun _ => 0)), (q_10, ar 80 (fun _ => 0)), (q_11, ar 30 (fun _ => 0)), (q_12, ar 30 (fun _ => 0)), (q_13, ar 6 (fun _ => 0)), (q_14, ar 6 (fun _ => 0)), (q_15, ar 360 (fun _ => 0)), (q_16, ar 1206 (fun _ => 0)), (q_17, ar 180 (fun _ => 0)), (q_18, ar 180 (fun _ => 0))]) rfl ?_
  refine S_putF X hnm fpX12_71_11 0 rfl FT_a dX12_init_169 ?_
  refine S_w (ws' := [(h0, ob 11 (uF (uF (uF (uF (uF (uF (uF (uF (uF (uF (uF (uF (uF (uF (uF (uF (uF (uF (uF (uF (uF fzX12 1 (rv q_1)) 6 (rv q_2)) 7 (rv q_3)) 8 (rv q_4)) 9 (rv q_5)) 10 (rv q_6)) 11 (rv q_7)) 12 (rv q_8)) 15 (rv q_9)) 16 (rv q_10)) 17 (rv q_11)) 20 (rv q_12)) 23 (rv q_13)) 24 (rv q_14)) 27 (iv (-1))) 28 (iv 9)) 30 (iv 20)) 31 (rv q_15)) 33 (rv q_16)) 34 (rv q_17)) 35 (rv q_18))), (q_1, ar 160 (fun _ => 0)), (q_2, ar 1700 (fun _ => 0)), (q_3, ar 1700 (fun _ => 0)), (q_4, ar 5 (fun _ => 0)), (q_5, ar 5 (fun _ => 0)), (q_6, ar 450 (fun _ => 0)), (q_7, ar 450 (fun _ => 0)), (q_8, ar 450 (fun _ => 0)), (q_9, ar 5 (fun _ => 0)), (q_10, ar 80 (fun _ => 0)), (q_11, ar 30 (fun _ => 0)), (q_12, ar 30 (fun _ => 0)), (q_13, ar 6 (fun _ => 0)), (q_14, ar 6 (fun _ => 0)), (q_15, ar 360 (fun _ => 0)), (q_16, ar 1206 (fun _ => 0)), (q_17, ar 180 (fun _ => 0)), (q_18, ar 180 (fun _ => 0))]) rfl ?_
  refine S_aload_n X dX12_init_172 rfl rfl ?_
  refine S_bipush X dX12_init_173 rfl ?_
  refine S_newa (N := 42) X m130 (by decide) (nle rfl) (nle rfl) dX12_init_175 (fun q_19 => ?_)
  refine S_w (ws' := [(h0, ob 11 (uF (uF (uF (uF (uF (uF (uF (uF (uF (uF (uF (uF (uF (uF (uF (uF (uF (uF (uF (uF (uF fzX12 1 (rv q_1)) 6 (rv q_2)) 7 (rv q_3)) 8 (rv q_4)) 9 (rv q_5)) 10 (rv q_6)) 11 (rv q_7)) 12 (rv q_8)) 15 (rv q_9)) 16 (rv q_10)) 17 (rv q_11)) 20 (rv q_12)) 23 (rv q_13)) 24 (rv q_14)) 27 (iv (-1))) 28 (iv 9)) 30 (iv 20)) 31 (rv q_15)) 33 (rv q_16)) 34 (rv q_17)) 35 (rv q_18))), (q_1, ar 160 (fun _ => 0)), (q_2, ar 1700 (fun _ => 0)), (q_3, ar 1700 (fun _ => 0)), (q_4, ar 5 (fun _ => 0)), (q_5, ar 5 (fun _ => 0)), (q_6, ar 450 (fun _ => 0)), (q_7, ar 450 (fun _ => 0)), (q_8, ar 450 (fun _ => 0)), (q_9, ar 5 (fun _ => 0)), (q_10, ar 80 (fun _ => 0)), (q_11, ar 30 (fun _ => 0)), (q_12, ar 30 (fun _ => 0)), (q_13, ar 6 (fun _ => 0)), (q_14, ar 6 (fun _ => 0)), (q_15, ar 360 (fun _ => 0)), (q_16, ar 1206 (fun _ => 0)), (q_17, ar 180 (fun _ => 0)), (q_18, ar 180 (fun _ => 0)), (q_19, ar 42 (fun _ => 0))]) rfl ?_
  refine S_putF X hnm fpX12_74_11 0 rfl FT_a dX12_init_177 ?_
  refine S_w (ws' := [(h0, ob 11 (uF (uF (uF (uF (uF (uF (uF (uF (uF (uF (uF (uF (uF (uF (uF (uF (uF (uF (uF (uF (uF (uF fzX12 1 (rv q_1)) 6 (rv q_2)) 7 (rv q_3)) 8 (rv q_4)) 9 (rv q_5)) 10 (rv q_6)) 11 (rv q_7)) 12 (rv q_8)) 15 (rv q_9)) 16 (rv q_10)) 17 (rv q_11)) 20 (rv q_12)) 23 (rv q_13)) 24 (rv q_14)) 27 (iv (-1))) 28 (iv 9)) 30 (iv 20)) 31 (rv q_15)) 33 (rv q_16)) 34 (rv q_17)) 35 (rv q_18)) 36 (rv q_19))), (q_1, ar 160 (fun _ => 0)), (q_2, ar 1700 (fun _ => 0)), (q_3, ar 1700 (fun _ => 0)), (q_4, ar 5 (fun _ => 0)), (q_5, ar 5 (fun _ => 0)), (q_6, ar 450 (fun _ => 0)), (q_7, ar 450 (fun _ => 0)), (q_8, ar 450 (fun _ => 0)), (q_9, ar 5 (fun _ => 0)), (q_10, ar 80 (fun _ => 0)), (q_11, ar 30 (fun _ => 0)), (q_12, ar 30 (fun _ => 0)), (q_13, ar 6 (fun _ => 0)), (q_14, ar 6 (fun _ => 0)), (q_15, ar 360 (fun _ => 0)), (q_16, ar 1206 (fun _ => 0)), (q_17, ar 180 (fun _ => 0)), (q_18, ar 180 (fun _ => 0)), (q_19, ar 42 (fun _ => 0))]) rfl ?_
  refine S_aload_n X dX12_init_180 rfl rfl ?_
  refine S_bipush X dX12_init_181 rfl ?_
  refine S_newa (N := 6) X m130 (by decide) (nle rfl) (nle rfl) dX12_init_183 (fun q_20 => ?_)
  refine S_w (ws' := [(h0, ob 11 (uF (uF (uF (uF (uF (uF (uF (uF (uF (uF (uF (uF (uF (uF (uF (uF (uF (uF (uF (uF (uF (uF fzX12 1 (rv q_1)) 6 (rv q_2)) 7 (rv q_3)) 8 (rv q_4)) 9 (rv q_5)) 10 (rv q_6)) 11 (rv q_7)) 12 (rv q_8)) 15 (rv q_9)) 16 (rv q_10)) 17 (rv q_11)) 20 (rv q_12)) 23 (rv q_13)) 24 (rv q_14)) 27 (iv (-1))) 28 (iv 9)) 30 (iv 20)) 31 (rv q_15)) 33 (rv q_16)) 34 (rv q_17)) 35 (rv q_18)) 36 (rv q_19))), (q_1, ar 160 (fun _ => 0)), (q_2, ar 1700 (fun _ => 0)), (q_3, ar 1700 (fun _ => 0)), (q_4, ar 5 (fun _ => 0)), (q_5, ar 5 (fun _ => 0)), (q_6, ar 450 (fun _ => 0)), (q_7, ar 450 (fun _ => 0)), (q_8, ar 450 (fun _ => 0)), (q_9, ar 5 (fun _ => 0)), (q_10, ar 80 (fun _ => 0)), (q_11, ar 30 (fun _ => 0)), (q_12, ar 30 (fun _ => 0)), (q_13, ar 6 (fun _ => 0)), (q_14, ar 6 (fun _ => 0)), (q_15, ar 360 (fun _ => 0)), (q_16, ar 1206 (fun _ => 0)), (q_17, ar 180 (fun _ => 0)), (q_18, ar 180 (fun _ => 0)), (q_19, ar 42 (fun _ => 0)), (q_20, ar 6 (fun _ => 0))]) rfl ?_
  refine S_putF X hnm fpX12_77_11 0 rfl FT_a dX12_init_185 ?_
  refine S_w (ws' := [(h0, ob 11 (uF (uF (uF (uF (uF (uF (uF (uF (uF (uF (uF (uF (uF (uF (uF (uF (uF (uF (uF (uF (uF (uF (uF fzX12 1 (rv q_1)) 6 (rv q_2)) 7 (rv q_3)) 8 (rv q_4)) 9 (rv q_5)) 10 (rv q_6)) 11 (rv q_7)) 12 (rv q_8)) 15 (rv q_9)) 16 (rv q_10)) 17 (rv q_11)) 20 (rv q_12)) 23 (rv q_13)) 24 (rv q_14)) 27 (iv (-1))) 28 (iv 9)) 30 (iv 20)) 31 (rv q_15)) 33 (rv q_16)) 34 (rv q_17)) 35 (rv q_18)) 36 (rv q_19)) 37 (rv q_20))), (q_1, ar 160 (fun _ => 0)), (q_2, ar 1700 (fun _ => 0)), (q_3, ar 1700 (fun _ => 0)), (q_4, ar 5 (fun _ => 0)), (q_5, ar 5 (fun _ => 0)), (q_6, ar 450 (fun _ => 0)), (q_7, ar 450 (fun _ => 0)), (q_8, ar 450 (fun _ => 0)), (q_9, ar 5 (fun _ => 0)), (q_10, ar 80 (fun _ => 0)), (q_11, ar 30 (fun _ => 0)), (q_12, ar 30 (fun _ => 0)), (q_13, ar 6 (fun _ => 0)), (q_14, ar 6 (fun _ => 0)), (q_15, ar 360 (fun _ => 0)), (q_16, ar 1206 (fun _ => 0)), (q_17, ar 180 (fun _ => 0)), (q_18, ar 180 (fun _ => 0)), (q_19, ar 42 (fun _ => 0)), (q_20, ar 6 (fun _ => 0))]) rfl ?_
  refine S_aload_n X dX12_init_188 rfl rfl ?_
  refine S_bipush X dX12_init_189 rfl ?_
  refine S_newa (N := 31) X m130 (by decide) (nle rfl) (nle rfl) dX12_init_191 (fun q_21 => ?_)
  refine S_w (ws' := [(h0, ob 11 (uF (uF (uF (uF (uF (uF (uF (uF (uF (uF (uF (uF (uF (uF (uF (uF (uF (uF (uF (uF (uF (uF (uF fzX12 1 (rv q_1)) 6 (rv q_2)) 7 (rv q_3)) 8 (rv q_4)) 9 (rv q_5)) 10 (rv q_6)) 11 (rv q_7)) 12 (rv q_8)) 15 (rv q_9)) 16 (rv q_10)) 17 (rv q_11)) 20 (rv q_12)) 23 (rv q_13)) 24 (rv q_14)) 27 (iv (-1))) 28 (iv 9)) 30 (iv 20)) 31 (rv q_15)) 33 (rv q_16)) 34 (rv q_17)) 35 (rv q_18)) 36 (rv q_19)) 37 (rv q_20))), (q_1, ar 160 (fun _ => 0)), (q_2, ar 1700 (fun _ => 0)), (q_3, ar 1700 (fun _ => 0)), (q_4, ar 5 (fun _ => 0)), (q_5, ar 5 (fun _ => 0)), (q_6, ar 450 (fun _ => 0)), (q_7, ar 450 (fun _ => 0)), (q_8, ar 450 (fun _ => 0)), (q_9, ar 5 (fun _ => 0)), (q_10, ar 80 (fun _ => 0)), (q_11, ar 30 (fun _ => 0)), (q_12, ar 30 (fun _ => 0)), (q_13, ar 6 (fun _ => 0)), (q_14, ar 6 (fun _ => 0)), (q_15, ar 360 (fun _ => 0)), (q_16, ar 1206 (fun _ => 0)), (q_17, ar 180 (fun _ => 0)), (q_18, ar 180 (fun _ => 0)), (q_19, ar 42 (fun _ => 0)), (q_20, ar 6 (fun _ => 0)), (q_21, ar 31 (fun _ => 0))]) rfl ?_
  refine S_putF X hnm fpX12_80_11 0 rfl FT_a dX12_init_193 ?_
  refine S_w (ws' := [(h0, ob 11 (uF (uF (uF (uF (uF (uF (uF (uF (uF (uF (uF (uF (uF (uF (uF (uF (uF (uF (uF (uF (uF (uF (uF (uF fzX12 1 (rv q_1)) 6 (rv q_2)) 7 (rv q_3)) 8 (rv q_4)) 9 (rv q_5)) 10 (rv q_6)) 11 (rv q_7)) 12 (rv q_8)) 15 (rv q_9)) 16 (rv q_10)) 17 (rv q_11)) 20 (rv q_12)) 23 (rv q_13)) 24 (rv q_14)) 27 (iv (-1))) 28 (iv 9)) 30 (iv 20)) 31 (rv q_15)) 33 (rv q_16)) 34 (rv q_17)) 35 (rv q_18)) 36 (rv q_19)) 37 (rv q_20)) 40 (rv q_21))), (q_1, ar 160 (fun _ => 0)), (q_2, ar 1700 (fun _ => 0)), (q_3, ar 1700 (fun _ => 0)), (q_4, ar 5 (fun _ => 0)), (q_5, ar 5 (fun _ => 0)), (q_6, ar 450 (fun _ => 0)), (q_7, ar 450 (fun _ => 0)), (q_8, ar 450 (fun _ => 0)), (q_9, ar 5 (fun _ => 0)), (q_10, ar 80 (fun _ => 0)), (q_11, ar 30 (fun _ => 0)), (q_12, ar 30 (fun _ => 0)), (q_13, ar 6 (fun _ => 0)), (q_14, ar 6 (fun _ => 0)), (q_15, ar 360 (fun _ => 0)), (q_16, ar 1206 (fun _ => 0)), (q_17, ar 180 (fun _ => 0)), (q_18, ar 180 (fun _ => 0)), (q_19, ar 42 (fun _ => 0)), (q_20, ar 6 (fun _ => 0)), (q_21, ar 31 (fun _ => 0))]) rfl ?_
  refine S_aload_n X dX12_init_196 rfl rfl ?_
  refine S_bipush X dX12_init_197 rfl ?_
  refine S_newa (N := 31) X m130 (by decide) (nle rfl) (nle rfl) dX12_init_199 (fun q_22 => ?_)
  refine S_w (ws' := [(h0, ob 11 (uF (uF (uF (uF (uF (uF (uF (uF (uF (uF (uF (uF (uF (uF (uF (uF (uF (uF (uF (uF (uF (uF (uF (uF fzX12 1 (rv q_1)) 6 (rv q_2)) 7 (rv q_3)) 8 (rv q_4)) 9 (rv q_5)) 10 (rv q_6)) 11 (rv q_7)) 12 (rv q_8)) 15 (rv q_9)) 16 (rv q_10)) 17 (rv q_11)) 20 (rv q_12)) 23 (rv q_13)) 24 (rv q_14)) 27 (iv (-1))) 28 (iv 9)) 30 (iv 20)) 31 (rv q_15)) 33 (rv q_16)) 34 (rv q_17)) 35 (rv q_18)) 36 (rv q_19)) 37 (rv q_20)) 40 (rv q_21))), (q_1, ar 160 (fun _ => 0)), (q_2, ar 1700 (fun _ => 0)), (q_3, ar 1700 (fun _ => 0)), (q_4, ar 5 (fun _ => 0)), (q_5, ar 5 (fun _ => 0)), (q_6, ar 450 (fun _ => 0)), (q_7, ar 450 (fun _ => 0)), (q_8, ar 450 (fun _ => 0)), (q_9, ar 5 (fun _ => 0)), (q_10, ar 80 (fun _ => 0)), (q_11, ar 30 (fun _ => 0)), (q_12, ar 30 (fun _ => 0)), (q_13, ar 6 (fun _ => 0)), (q_14, ar 6 (fun _ => 0)), (q_15, ar 360 (fun _ => 0)), (q_16, ar 1206 (fun _ => 0)), (q_17, ar 180 (fun _ => 0)), (q_18, ar 180 (fun _ => 0)), (q_19, ar 42 (fun _ => 0)), (q_20, ar 6 (fun _ => 0)), (q_21, ar 31 (fun _ => 0)), (q_22, ar 31 (fun _ => 0))]) rfl ?_
  refine S_putF X hnm fpX12_83_11 0 rfl FT_a dX12_init_201 ?_
  refine S_w (ws' := [(h0, ob 11 (uF (uF (uF (uF (uF (uF (uF (uF (uF (uF (uF (uF (uF (uF (uF (uF (uF (uF (uF (uF (uF (uF (uF (uF (uF fzX12 1 (rv q_1)) 6 (rv q_2)) 7 (rv q_3)) 8 (rv q_4)) 9 (rv q_5)) 10 (rv q_6)) 11 (rv q_7)) 12 (rv q_8)) 15 (rv q_9)) 16 (rv q_10)) 17 (rv q_11)) 20 (rv q_12)) 23 (rv q_13)) 24 (rv q_14)) 27 (iv (-1))) 28 (iv 9)) 30 (iv 20)) 31 (rv q_15)) 33 (rv q_16)) 34 (rv q_17)) 35 (rv q_18)) 36 (rv q_19)) 37 (rv q_20)) 40 (rv q_21)) 41 (rv q_22))), (q_1, ar 160 (fun _ => 0)), (q_2, ar 1700 (fun _ => 0)), (q_3, ar 1700 (fun _ => 0)), (q_4, ar 5 (fun _ => 0)), (q_5, ar 5 (fun _ => 0)), (q_6, ar 450 (fun _ => 0)), (q_7, ar 450 (fun _ => 0)), (q_8, ar 450 (fun _ => 0)), (q_9, ar 5 (fun _ => 0)), (q_10, ar 80 (fun _ => 0)), (q_11, ar 30 (fun _ => 0)), (q_12, ar 30 (fun _ => 0)), (q_13, ar 6 (fun _ => 0)), (q_14, ar 6 (fun _ => 0)), (q_15, ar 360 (fun _ => 0)), (q_16, ar 1206 (fun _ => 0)), (q_17, ar 180 (fun _ => 0)), (q_18, ar 180 (fun _ => 0)), (q_19, ar 42 (fun _ => 0)), (q_20, ar 6 (fun _ => 0)), (q_21, ar 31 (fun _ => 0)), (q_22, ar 31 (fun _ => 0))]) rfl ?_
  refine S_aload_n X dX12_init_204 rfl rfl ?_
  refine S_bipush X dX12_init_205 rfl ?_
  refine S_newa (N := 6) X m130 (by decide) (nle rfl) (nle rfl) dX12_init_207 (fun q_23 => ?_)
  refine S_w (ws' := [(h0, ob 11 (uF (uF (uF (uF (uF (uF (uF (uF (uF (uF (uF (uF (uF (uF (uF (uF (uF (uF (uF (uF (uF (uF (uF (uF (uF fzX12 1 (rv q_1)) 6 (rv q_2)) 7 (rv q_3)) 8 (rv q_4)) 9 (rv q_5)) 10 (rv q_6)) 11 (rv q_7)) 12 (rv q_8)) 15 (rv q_9)) 16 (rv q_10)) 17 (rv q_11)) 20 (rv q_12)) 23 (rv q_13)) 24 (rv q_14)) 27 (iv (-1))) 28 (iv 9)) 30 (iv 20)) 31 (rv q_15)) 33 (rv q_16)) 34 (rv q_17)) 35 (rv q_18)) 36 (rv q_19)) 37 (rv q_20)) 40 (rv q_21)) 41 (rv q_22))), (q_1, ar 160 (fun _ => 0)), (q_2, ar 1700 (fun _ => 0)), (q_3, ar 1700 (fun _ => 0)), (q_4, ar 5 (fun _ => 0)), (q_5, ar 5 (fun _ => 0)), (q_6, ar 450 (fun _ => 0)), (q_7, ar 450 (fun _ => 0)), (q_8, ar 450 (fun _ => 0)), (q_9, ar 5 (fun _ => 0)), (q_10, ar 80 (fun _ => 0)), (q_11, ar 30 (fun _ => 0)), (q_12, ar 30 (fun _ => 0)), (q_13, ar 6 (fun _ => 0)), (q_14, ar 6 (fun _ => 0)), (q_15, ar 360 (fun _ => 0)), (q_16, ar 1206 (fun _ => 0)), (q_17, ar 180 (fun _ => 0)), (q_18, ar 180 (fun _ => 0)), (q_19, ar 42 (fun _ => 0)), (q_20, ar 6 (fun _ => 0)), (q_21, ar 31 (fun _ => 0)), (q_22, ar 31 (fun _ => 0)), (q_23, ar 6 (fun _ => 0))]) rfl ?_
  refine S_putF X hnm fpX12_86_11 0 rfl FT_a dX12_init_209 ?_
  refine S_w (ws' := [(h0, ob 11 (uF (uF (uF (uF (uF (uF (uF (uF (uF (uF (uF (uF (uF (uF (uF (uF (uF (uF (uF (uF (uF (uF (uF (uF (uF (uF fzX12 1 (rv q_1)) 6 (rv q_2)) 7 (rv q_3)) 8 (rv q_4)) 9 (rv q_5)) 10 (rv q_6)) 11 (rv q_7)) 12 (rv q_8)) 15 (rv q_9)) 16 (rv q_10)) 17 (rv q_11)) 20 (rv q_12)) 23 (rv q_13)) 24 (rv q_14)) 27 (iv (-1))) 28 (iv 9)) 30 (iv 20)) 31 (rv q_15)) 33 (rv q_16)) 34 (rv q_17)) 35 (rv q_18)) 36 (rv q_19)) 37 (rv q_20)) 40 (rv q_21)) 41 (rv q_22)) 42 (rv q_23))), (q_1, ar 160 (fun _ => 0)), (q_2, ar 1700 (fun _ => 0)), (q_3, ar 1700 (fun _ => 0)), (q_4, ar 5 (fun _ => 0)), (q_5, ar 5 (fun _ => 0)), (q_6, ar 450 (fun _ => 0)), (q_7, ar 450 (fun _ => 0)), (q_8, ar 450 (fun _ => 0)), (q_9, ar 5 (fun _ => 0)), (q_10, ar 80 (fun _ => 0)), (q_11, ar 30 (fun _ => 0)), (q_12, ar 30 (fun _ => 0)), (q_13, ar 6 (fun _ => 0)), (q_14, ar 6 (fun _ => 0)), (q_15, ar 360 (fun _ => 0)), (q_16, ar 1206 (fun _ => 0)), (q_17, ar 180 (fun _ => 0)), (q_18, ar 180 (fun _ => 0)), (q_19, ar 42 (fun _ => 0)), (q_20, ar 6 (fun _ => 0)), (q_21, ar 31 (fun _ => 0)), (q_22, ar 31 (fun _ => 0)), (q_23, ar 6 (fun _ => 0))]) rfl ?_
  refine S_aload_n X dX12_init_212 rfl rfl ?_
  refine S_bipush X dX12_init_213 rfl ?_
  refine S_newa (N := 20) X m130 (by decide) (nle rfl) (nle rfl) dX12_init_215 (fun q_24 => ?_)
  refine S_w (ws' := [(h0, ob 11 (uF (uF (uF (uF (uF (uF (uF (uF (uF (uF (uF (uF (uF (uF (uF (uF (uF (uF (uF (uF (uF (uF (uF (uF (uF (uF fzX12 1 (rv q_1)) 6 (rv q_2)) 7 (rv q_3)) 8 (rv q_4)) 9 (rv q_5)) 10 (rv q_6)) 11 (rv q_7)) 12 (rv q_8)) 15 (rv q_9)) 16 (rv q_10)) 17 (rv q_11)) 20 (rv q_12)) 23 (rv q_13)) 24 (rv q_14)) 27 (iv (-1))) 28 (iv 9)) 30 (iv 20)) 31 (rv q_15)) 33 (rv q_16)) 34 (rv q_17)) 35 (rv q_18)) 36 (rv q_19)) 37 (rv q_20)) 40 (rv q_21)) 41 (rv q_22)) 42 (rv q_23))), (q_1, ar 160 (fun _ => 0)), (q_2, ar 1700 (fun _ => 0)), (q_3, ar 1700 (fun _ => 0)), (q_4, ar 5 (fun _ => 0)), (q_5, ar 5 (fun _ => 0)), (q_6, ar 450 (fun _ => 0)), (q_7, ar 450 (fun _ => 0)), (q_8, ar 450 (fun _ => 0)), (q_9, ar 5 (fun _ => 0)), (q_10, ar 80 (fun _ => 0)), (q_11, ar 30 (fun _ => 0)), (q_12, ar 30 (fun _ => 0)), (q_13, ar 6 (fun _ => 0)), (q_14, ar 6 (fun _ => 0)), (q_15, ar 360 (fun _ => 0)), (q_16, ar 1206 (fun _ => 0)), (q_17, ar 180 (fun _ => 0)), (q_18, ar 180 (fun _ => 0)), (q_19, ar 42 (fun _ => 0)), (q_20, ar 6 (fun _ => 0)), (q_21, ar 31 (fun _ => 0)), (q_22, ar 31 (fun _ => 0)), (q_23, ar 6 (fun _ => 0)), (q_24, ar 20 (fun _ => 0))]) rfl ?_
  refine S_putF X hnm fpX12_89_11 0 rfl FT_a dX12_init_217 ?_
  refine S_w (ws' := [(h0, ob 11 (uF (uF (uF (uF (uF (uF (uF (uF (uF (uF (uF (uF (uF (uF (uF (uF (uF (uF (uF (uF (uF (uF (uF (uF (uF (uF (uF fzX12 1 (rv q_1)) 6 (rv q_2)) 7 (rv q_3)) 8 (rv q_4)) 9 (rv q_5)) 10 (rv q_6)) 11 (rv q_7)) 12 (rv q_8)) 15 (rv q_9)) 16 (rv q_10)) 17 (rv q_11)) 20 (rv q_12)) 23 (rv q_13)) 24 (rv q_14)) 27 (iv (-1))) 28 (iv 9)) 30 (iv 20)) 31 (rv q_15)) 33 (rv q_16)) 34 (rv q_17)) 35 (rv q_18)) 36 (rv q_19)) 37 (rv q_20)) 40 (rv q_21)) 41 (rv q_22)) 42 (rv q_23)) 43 (rv q_24))), (q_1, ar 160 (fun _ => 0)), (q_2, ar 1700 (fun _ => 0)), (q_3, ar 1700 (fun _ => 0)), (q_4, ar 5 (fun _ => 0)), (q_5, ar 5 (fun _ => 0)), (q_6, ar 450 (fun _ => 0)), (q_7, ar 450 (fun _ => 0)), (q_8, ar 450 (fun _ => 0)), (q_9, ar 5 (fun _ => 0)), (q_10, ar 80 (fun _ => 0)), (q_11, ar 30 (fun _ => 0)), (q_12, ar 30 (fun _ => 0)), (q_13, ar 6 (fun _ => 0)), (q_14, ar 6 (fun _ => 0)), (q_15, ar 360 (fun _ => 0)), (q_16, ar 1206 (fun _ => 0)), (q_17, ar 180 (fun _ => 0)), (q_18, ar 180 (fun _ => 0)), (q_19, ar 42 (fun _ => 0)), (q_20, ar 6 (fun _ => 0)), (q_21, ar 31 (fun _ => 0)), (q_22, ar 31 (fun _ => 0)), (q_23, ar 6 (fun _ => 0)), (q_24, ar 20 (fun _ => 0))]) rfl ?_
  refine S_aload_n X dX12_init_220 rfl rfl ?_
  refine S_bipush X dX12_init_221 rfl ?_
  refine S_newa (N := 20) X m130 (by decide) (nle rfl) (nle rfl) dX12_init_223 (fun q_25 => ?_)
  refine S_w (ws' := [(h0, ob 11 (uF (uF (uF (uF (uF (uF (uF (uF (uF (uF (uF (uF (uF (uF (uF (uF (uF (uF (uF (uF (uF (uF (uF (uF (uF (uF (uF fzX12 1 (rv q_1)) 6 (rv q_2)) 7 (rv q_3)) 8 (rv q_4)) 9 (rv q_5)) 10 (rv q_6)) 11 (rv q_7)) 12 (rv q_8)) 15 (rv q_9)) 16 (rv q_10)) 17 (rv q_11)) 20 (rv q_12)) 23 (rv q_13)) 24 (rv q_14)) 27 (iv (-1))) 28 (iv 9)) 30 (iv 20)) 31 (rv q_15)) 33 (rv q_16)) 34 (rv q_17)) 35 (rv q_18)) 36 (rv q_19)) 37 (rv q_20)) 40 (rv q_21)) 41 (rv q_22)) 42 (rv q_23)) 43 (rv q_24))), (q_1, ar 160 (fun _ => 0)), (q_2, ar 1700 (fun _ => 0)), (q_3, ar 1700 (fun _ => 0)), (q_4, ar 5 (fun _ => 0)), (q_5, ar 5 (fun _ => 0)), (q_6, ar 450 (fun _ => 0)), (q_7, ar 450 (fun _ => 0)), (q_8, ar 450 (fun _ => 0)), (q_9, ar 5 (fun _ => 0)), (q_10, ar 80 (fun _ => 0)), (q_11, ar 30 (fun _ => 0)), (q_12, ar 30 (fun _ => 0)), (q_13, ar 6 (fun _ => 0)), (q_14, ar 6 (fun _ => 0)), (q_15, ar 360 (fun _ => 0)), (q_16, ar 1206 (fun _ => 0)), (q_17, ar 180 (fun _ => 0)), (q_18, ar 180 (fun _ => 0)), (q_19, ar 42 (fun _ => 0)), (q_20, ar 6 (fun _ => 0)), (q_21, ar 31 (fun _ => 0)), (q_22, ar 31 (fun _ => 0)), (q_23, ar 6 (fun _ => 0)), (q_24, ar 20 (fun _ => 0)), (q_25, ar 20 (fun _ => 0))]) rfl ?_
  refine S_putF X hnm fpX12_92_11 0 rfl FT_a dX12_init_225 ?_
  refine S_w (ws' := [(h0, ob 11 (uF (uF (uF (uF (uF (uF (uF (uF (uF (uF (uF (uF (uF (uF (uF (uF (uF (uF (uF (uF (uF (uF (uF (uF (uF (uF (uF (uF fzX12 1 (rv q_1)) 6 (rv q_2)) 7 (rv q_3)) 8 (rv q_4)) 9 (rv q_5)) 10 (rv q_6)) 11 (rv q_7)) 12 (rv q_8)) 15 (rv q_9)) 16 (rv q_10)) 17 (rv q_11)) 20 (rv q_12)) 23 (rv q_13)) 24 (rv q_14)) 27 (iv (-1))) 28 (iv 9)) 30 (iv 20)) 31 (rv q_15)) 33 (rv q_16)) 34 (rv q_17)) 35 (rv q_18)) 36 (rv q_19)) 37 (rv q_20)) 40 (rv q_21)) 41 (rv q_22)) 42 (rv q_23)) 43 (rv q_24)) 44 (rv q_25))), (q_1, ar 160 (fun _ => 0)), (q_2, ar 1700 (fun _ => 0)), (q_3, ar 1700 (fun _ => 0)), (q_4, ar 5 (fun _ => 0)), (q_5, ar 5 (fun _ => 0)), (q_6, ar 450 (fun _ => 0)), (q_7, ar 450 (fun _ => 0)), (q_8, ar 450 (fun _ => 0)), (q_9, ar 5 (fun _ => 0)), (q_10, ar 80 (fun _ => 0)), (q_11, ar 30 (fun _ => 0)), (q_12, ar 30 (fun _ => 0)), (q_13, ar 6 (fun _ => 0)), (q_14, ar 6 (fun _ => 0)), (q_15, ar 360 (fun _ => 0)), (q_16, ar 1206 (fun _ => 0)), (q_17, ar 180 (fun _ => 0)), (q_18, ar 180 (fun _ => 0)), (q_19, ar 42 (fun _ => 0)), (q_20, ar 6 (fun _ => 0)), (q_21, ar 31 (fun _ => 0)), (q_22, ar 31 (fun _ => 0)), (q_23, ar 6 (fun _ => 0)), (q_24, ar 20 (fun _ => 0)), (q_25, ar 20 (fun _ => 0))]) rfl ?_
  refine S_aload_n X dX12_init_228 rfl rfl ?_
  refine S_bipush X dX12_init_229 rfl ?_
  refine S_newa (N := 20) X m130 (by decide) (nle rfl) (nle rfl) dX12_init_231 (fun q_26 => ?_)
  refine S_w (ws' := [(h0, ob 11 (uF (uF (uF (uF (uF (uF (uF (uF (uF (uF (uF (uF (uF (uF (uF (uF (uF (uF (uF (uF (uF (uF (uF (uF (uF (uF (uF (uF fzX12 1 (rv q_1)) 6 (rv q_2)) 7 (rv q_3)) 8 (rv q_4)) 9 (rv q_5)) 10 (rv q_6)) 11 (rv q_7)) 12 (rv q_8)) 15 (rv q_9)) 16 (rv q_10)) 17 (rv q_11)) 20 (rv q_12)) 23 (rv q_13)) 24 (rv q_14)) 27 (iv (-1))) 28 (iv 9)) 30 (iv 20)) 31 (rv q_15)) 33 (rv q_16)) 34 (rv q_17)) 35 (rv q_18)) 36 (rv q_19)) 37 (rv q_20)) 40 (rv q_21)) 41 (rv q_22)) 42 (rv q_23)) 43 (rv q_24)) 44 (rv q_25))), (q_1, ar 160 (fun _ => 0)), (q_2, ar 1700 (fun _ => 0)), (q_3, ar 1700 (fun _ => 0)), (q_4, ar 5 (fun _ => 0)), (q_5, ar 5 (fun _ => 0)), (q_6, ar 450 (fun _ => 0)), (q_7, ar 450 (fun _ => 0)), (q_8, ar 450 (fun _ => 0)), (q_9, ar 5 (fun _ => 0)), (q_10, ar 80 (fun _ => 0)), (q_11, ar 30 (fun _ => 0)), (q_12, ar 30 (fun _ => 0)), (q_13, ar 6 (fun _ => 0)), (q_14, ar 6 (fun _ => 0)), (q_15, ar 360 (fun _ => 0)), (q_16, ar 1206 (fun _ => 0)), (q_17, ar 180 (fun _ => 0)), (q_18, ar 180 (fun _ => 0)), (q_19, ar 42 (fun _ => 0)), (q_20, ar 6 (fun _ => 0)), (q_21, ar 31 (fun _ => 0)), (q_22, ar 31 (fun _ => 0)), (q_23, ar 6 (fun _ => 0)), (q_24, ar 20 (fun _ => 0)), (q_25, ar 20 (fun _ => 0)), (q_26, ar 20 (fun _ => 0))]) rfl ?_
  refine S_putF X hnm fpX12_95_11 0 rfl FT_a dX12_init_233 ?_
  refine S_w (ws' := [(h0, ob 11 (uF (uF (uF (uF (uF (uF (uF (uF (uF (uF (uF (uF (uF (uF (uF (uF (uF (uF (uF (uF (uF (uF (uF (uF (uF (uF (uF (uF (uF fzX12 1 (rv q_1)) 6 (rv q_2)) 7 (rv q_3)) 8 (rv q_4)) 9 (rv q_5)) 10 (rv q_6)) 11 (rv q_7)) 12 (rv q_8)) 15 (rv q_9)) 16 (rv q_10)) 17 (rv q_11)) 20 (rv q_12)) 23 (rv q_13)) 24 (rv q_14)) 27 (iv (-1))) 28 (iv 9)) 30 (iv 20)) 31 (rv q_15)) 33 (rv q_16)) 34 (rv q_17)) 35 (rv q_18)) 36 (rv q_19)) 37 (rv q_20)) 40 (rv q_21)) 41 (rv q_22)) 42 (rv q_23)) 43 (rv q_24)) 44 (rv q_25)) 45 (rv q_26))), (q_1, ar 160 (fun _ => 0)), (q_2, ar 1700 (fun _ => 0)), (q_3, ar 1700 (fun _ => 0)), (q_4, ar 5 (fun _ => 0)), (q_5, ar 5 (fun _ => 0)), (q_6, ar 450 (fun _ => 0)), (q_7, ar 450 (fun _ => 0)), (q_8, ar 450 (fun _ => 0)), (q_9, ar 5 (fun _ => 0)), (q_10, ar 80 (fun _ => 0)), (q_11, ar 30 (fun _ => 0)), (q_12, ar 30 (fun _ => 0)), (q_13, ar 6 (fun _ => 0)), (q_14, ar 6 (fun _ => 0)), (q_15, ar 360 (fun _ => 0)), (q_16, ar 1206 (fun _ => 0)), (q_17, ar 180 (fun _ => 0)), (q_18, ar 180 (fun _ => 0)), (q_19, ar 42 (fun _ => 0)), (q_20, ar 6 (fun _ => 0)), (q_21, ar 31 (fun _ => 0)), (q_22, ar 31 (fun _ => 0)), (q_23, ar 6 (fun _ => 0)), (q_24, ar 20 (fun _ => 0)), (q_25, ar 20 (fun _ => 0)), (q_26, ar 20 (fun _ => 0))]) rfl ?_
  refine S_aload_n X dX12_init_236 rfl rfl ?_
  refine S_bipush X dX12_init_237 rfl ?_
  refine S_newa (N := 6) X m130 (by decide) (nle rfl) (nle rfl) dX12_init_239 (fun q_27 => ?_)
  refine S_w (ws' := [(h0, ob 11 (uF (uF (uF (uF (uF (uF (uF (uF (uF (uF (uF (uF (uF (uF (uF (uF (uF (uF (uF (uF (uF (uF (uF (uF (uF (uF (uF (uF (uF fzX12 1 (rv q_1)) 6 (rv q_2)) 7 (rv q_3)) 8 (rv q_4)) 9 (rv q_5)) 10 (rv q_6)) 11 (rv q_7)) 12 (rv q_8)) 15 (rv q_9)) 16 (rv q_10)) 17 (rv q_11)) 20 (rv q_12)) 23 (rv q_13)) 24 (rv q_14)) 27 (iv (-1))) 28 (iv 9)) 30 (iv 20)) 31 (rv q_15)) 33 (rv q_16)) 34 (rv q_17)) 35 (rv q_18)) 36 (rv q_19)) 37 (rv q_20)) 40 (rv q_21)) 41 (rv q_22)) 42 (rv q_23)) 43 (rv q_24)) 44 (rv q_25)) 45 (rv q_26))), (q_1, ar 160 (fun _ => 0)), (q_2, ar 1700 (fun _ => 0)), (q_3, ar 1700 (fun _ => 0)), (q_4, ar 5 (fun _ => 0)), (q_5, ar 5 (fun _ => 0)), (q_6, ar 450 (fun _ => 0)), (q_7, ar 450 (fun _ => 0)), (q_8, ar 450 (fun _ => 0)), (q_9, ar 5 (fun _ => 0)), (q_10, ar 80 (fun _ => 0)), (q_11, ar 30 (fun _ => 0)), (q_12, ar 30 (fun _ => 0)), (q_13, ar 6 (fun _ => 0)), (q_14, ar 6 (fun _ => 0)), (q_15, ar 360 (fun _ => 0)), (q_16, ar 1206 (fun _ => 0)), (q_17, ar 180 (fun _ => 0)), (q_18, ar 180 (fun _ => 0)), (q_19, ar 42 (fun _ => 0)), (q_20, ar 6 (fun _ => 0)), (q_21, ar 31 (fun _ => 0)), (q_22, ar 31 (fun _ => 0)), (q_23, ar 6 (fun _ => 0)), (q_24, ar 20 (fun _ => 0)), (q_25, ar 20 (fun _ => 0)), (q_26, ar 20 (fun _ => 0)), (q_27, ar 6 (fun _ => 0))]) rfl ?_
  refine S_putF X hnm fpX12_98_11 0 rfl FT_a dX12_init_241 ?_
  refine S_w (ws' := [(h0, ob 11 (uF (uF (uF (uF (uF (uF (uF (uF (uF (uF (uF (uF (uF (uF (uF (uF (uF (uF (uF (uF (uF (uF (uF (uF (uF (uF (uF (uF (uF (uF fzX12 1 (rv q_1)) 6 (rv q_2)) 7 (rv q_3)) 8 (rv q_4)) 9 (rv q_5)) 10 (rv q_6)) 11 (rv q_7)) 12 (rv q_8)) 15 (rv q_9)) 16 (rv q_10)) 17 (rv q_11)) 20 (rv q_12)) 23 (rv q_13)) 24 (rv q_14)) 27 (iv (-1))) 28 (iv 9)) 30 (iv 20)) 31 (rv q_15)) 33 (rv q_16)) 34 (rv q_17)) 35 (rv q_18)) 36 (rv q_19)) 37 (rv q_20)) 40 (rv q_21)) 41 (rv q_22)) 42 (rv q_23)) 43 (rv q_24)) 44 (rv q_25)) 45 (rv q_26)) 47 (rv q_27))), (q_1, ar 160 (fun _ => 0)), (q_2, ar 1700 (fun _ => 0)), (q_3, ar 1700 (fun _ => 0)), (q_4, ar 5 (fun _ => 0)), (q_5, ar 5 (fun _ => 0)), (q_6, ar 450 (fun _ => 0)), (q_7, ar 450 (fun _ => 0)), (q_8, ar 450 (fun _ => 0)), (q_9, ar 5 (fun _ => 0)), (q_10, ar 80 (fun _ => 0)), (q_11, ar 30 (fun _ => 0)), (q_12, ar 30 (fun _ => 0)), (q_13, ar 6 (fun _ => 0)), (q_14, ar 6 (fun _ => 0)), (q_15, ar 360 (fun _ => 0)), (q_16, ar 1206 (fun _ => 0)), (q_17, ar 180 (fun _ => 0)), (q_18, ar 180 (fun _ => 0)), (q_19, ar 42 (fun _ => 0)), (q_20, ar 6 (fun _ => 0)), (q_21, ar 31 (fun _ => 0)), (q_22, ar 31 (fun _ => 0)), (q_23, ar 6 (fun _ => 0)), (q_24, ar 20 (fun _ => 0)), (q_25, ar 20 (fun _ => 0)), (q_26, ar 20 (fun _ => 0)), (q_27, ar 6 (fun _ => 0))]) rfl ?_
  exact S_vret X (nle rfl) (nle rfl) dX12_init_244 (hPo _ (⟨_, _, _, _, _, _, _, _, _, _, _, _, _, _, _, _, _, _, _, _, _, _, _, _, _, _, _, rfl⟩))
end pt_77cinit2
/- 78.copen.lean.txt -/
section pt_78copen
theorem okW.new {ds : List LwS} {ys yv : Nat → LwY} {mt pl mt2 pl2 i : Int} (h : okW ds ys mt pl) (hk : ∀ (j : Nat) x, ds[j]? = some x → (yv j).kn = 0) : okW ds yv mt2 pl2 := fun j x hx => ⟨(h j x hx).1, by have e := hk j x hx; unfold lwYok; rw [e]; exact ⟨⟨Int.le_refl _, by omega⟩, fun a a0 a1 => by omega⟩⟩
set_option maxHeartbeats 4000000 in
set_option maxRecDepth 100000 in
theorem kX11_openTown (l : Launch) (h0 : Nat) (f : Nat → AV) (rl : Int) (oW : Nat) (fW : Nat → AV) (p0 : Int) (m0 : Int) (wB : Nat) (wD : Nat) (wK : Nat) (wF : Nat) (wH : Nat) (WB : Int → Int) (WD : Int → Int) (WK : Int → Int) (WF : Int → Int) (WH : Int → Int) (oR : Nat) (fR : Nat → AV) (od : Nat) (fd : Nat → AV) (pl : Int) (mt : Int) (dB : Nat) (dD : Nat) (dK : Nat) (dF : Nat) (dH : Nat) (EB : Int → Int) (ED : Int → Int) (EK : Int → Int) (EF : Int → Int) (EH : Int → Int) (oS : Nat) (fS : Nat → AV) (s0 : Int) (n : Int) (ec : Int) (mk : Int) (aB : Nat) (aF : Nat) (aH : Nat) (aL : Nat) (B : Int → Int) (Fo : Int → Int) (Ho : Int → Int) (Lt : Int → Int) (oD : Nat) (fD : Nat → AV) (td : Int) (un : Int) (hi : Int) (im : Int) (nx : Int) (oK : Nat) (fK : Nat → AV) (kk : Int) (ht : Nat) (ft : Nat → AV) (tn : Int) (ds : List LwS) (ys : Nat → LwY) (mt0 : Int) (pl0 : Int) (lw : Int) (oA : Nat) (hf0 : f 0 = rv ht) (hf1 : f 1 = rv oR) (hf2 : f 3 = rv oW) (hf3 : f 4 = rv oA) (hf4 : f 5 = rv oD) (hf5 : f 7 = rv oS) (hf6 : f 11 = rv oK) (hf7 : fR 3 = rv od) (hf8 : fW 2 = rv wB) (hf9 : fW 3 = rv wD) (hf10 : fW 4 = rv wK) (hf11 : fW 5 = rv wF) (hf12 : fW 6 = rv wH) (hf13 : fd 2 = rv dB) (hf14 : fd 3 = rv dD) (hf15 : fd 4 = rv dK) (hf16 : fd 5 = rv dF) (hf17 : fd 6 = rv dH) (hf18 : fS 4 = rv aB) (hf19 : fS 5 = rv aF) (hf20 : fS 6 = rv aH) (hf21 : fS 7 = rv aL) (hds : (ds.length : Int) = lw ∧ 0 ≤ lw ∧ lw ≤ 4) (hdy : okW ds ys mt0 pl0) : AMv l yX11_openTown cX11_openTown 3 2 0 0 [rv h0] ([(h0, ob 10 (uF f 15 (iv rl))), (oW, ob 7 (uF (uF fW 0 (iv p0)) 1 (iv m0))), (wB, ar 6 WB), (wD, ar 6 WD), (wK, ar 6 WK), (wF, ar 6 WF), (wH, ar 6 WH), (oR, ob 8 fR), (od, ob 7 (uF (uF fd 0 (iv pl)) 1 (iv mt))), (dB, ar 6 EB), (dD, ar 6 ED), (dK, ar 6 EK), (dF, ar 6 EF), (dH, ar 6 EH), (oS, ob 5 (uF (uF (uF (uF fS 0 (iv s0)) 1 (iv n)) 2 (iv ec)) 3 (iv mk))), (aB, ar 6 B), (aF, ar 6 Fo), (aH, ar 6 Ho), (aL, ar 6 Lt), (oD, ob 0 (uF (uF (uF (uF (uF fD 0 (iv td)) 1 (iv un)) 2 (iv hi)) 3 (iv im)) 4 (iv nx))), (oK, ob 9 (uF fK 0 (iv kk))), (ht, ob 6 (uF ft 1 (iv tn))), (oA, aq 4 (lwR ds))] ++ (lwT ds ys)) (fun u => ∃ B2 : Int → Int, ∃ D2 : Int → Int, ∃ K2 : Int → Int, ∃ F2 : Int → Int, ∃ H2 : Int → Int, ∃ B3 : Int → Int, ∃ F3 : Int → Int, ∃ H3 : Int → Int, ∃ L3 : Int → Int, ∃ y2 : Nat → LwY, u = ([(h0, ob 10 (uF f 15 (iv 0))), (oW, ob 7 (uF (uF fW 0 (iv pl)) 1 (iv mt))), (wB, ar 6 B2), (wD, ar 6 D2), (wK, ar 6 K2), (wF, ar 6 F2), (wH, ar 6 H2), (oR, ob 8 fR), (od, ob 7 (uF (uF fd 0 (iv pl)) 1 (iv mt))), (dB, ar 6 EB), (dD, ar 6 ED), (dK, ar 6 EK), (dF, ar 6 EF), (dH, ar 6 EH), (oS, ob 5 (uF (uF (uF (uF fS 0 (iv pl)) 1 (iv n)) 2 (iv ec)) 3 (iv 0))), (aB, ar 6 B3), (aF, ar 6 F3), (aH, ar 6 H3), (aL, ar 6 L3), (oD, ob 0 (uF (uF (uF (uF (uF fD 0 (iv 0)) 1 (iv 0)) 2 (iv 0)) 3 (iv im)) 4 (iv 0))), (oK, ob 9 (uF fK 0 (iv 0))), (ht, ob 6 (uF ft 1 (iv 0))), (oA, aq 4 (lwR ds))] ++ (lwT ds y2)) ∧ (∀ x, 0 ≤ x → x < 6 → B2 x = EB x) ∧ (∀ x, 0 ≤ x → x < 6 → D2 x = ED x) ∧ (∀ x, 0 ≤ x → x < 6 → K2 x = EK x) ∧ (∀ x, 0 ≤ x → x < 6 → F2 x = EF x) ∧ (∀ x, 0 ≤ x → x < 6 → H2 x = EH x) ∧ (∀ x, 0 ≤ x → x < 6 → B3 x = EB x) ∧ (∀ x, 0 ≤ x → x < 6 → F3 x = EF x) ∧ (∀ x, 0 ≤ x → x < 6 → H3 x = EH x) ∧ (∀ x, 0 ≤ x → x < 6 → L3 x = 0) ∧ okW ds y2 mt pl) := by
  refine AMv.of2 rfl (nle rfl) ?_
  intro D G A p e s m args below meth c Po hPo hnm X
  refine S_aload_n X dX11_openTown_0 rfl rfl ?_
  refine S_get X fgX11_35_10 0 rfl hf2 dX11_openTown_1 ?_
  refine S_aload_n X dX11_openTown_4 rfl rfl ?_
  refine S_get X fgX11_21_10 0 rfl hf1 dX11_openTown_5 ?_
  refine S_get X fgX11_125_8 7 rfl hf7 dX11_openTown_8 ?_
  refine S_callv X (kX8_copyFrom l od dB dD dK dF dH (uF (uF fd 0 (iv pl)) 1 (iv mt)) EB ED EK EF EH pl mt oW wB wD wK wF wH fW WB WD WK WF WH p0 m0 hf8 hf9 hf10 hf11 hf12 hf13 hf14 hf15 hf16 hf17 rfl rfl) (is := [1, 2, 3, 4, 5, 6, 8, 9, 10, 11, 12, 13]) rfl (run_V X lkX11_128 1 rfl rfl (is := [1, 2, 3, 4, 5, 6, 8, 9, 10, 11, 12, 13]) (avs := [rv od]) (rest := []) rfl rfl (nle rfl) ⟨nle rfl, nle rfl⟩ ⟨nle rfl, nle rfl⟩ dX11_openTown_11 (by decide) rfl) (fun u_1 hp_2 => ?_)
  obtain ⟨B2_4, D2_5, K2_6, F2_7, H2_8, hu_10, hB2_11, hD2_12, hK2_13, hF2_14, hH2_15⟩ := hp_2
  subst hu_10
  refine ⟨rfl, ?_⟩
  refine S_w (ws' := ([(h0, ob 10 (uF f 15 (iv rl))), (oW, ob 7 (uF (uF fW 0 (iv pl)) 1 (iv mt))), (wB, ar 6 B2_4), (wD, ar 6 D2_5), (wK, ar 6 K2_6), (wF, ar 6 F2_7), (wH, ar 6 H2_8), (oR, ob 8 fR), (od, ob 7 (uF (uF fd 0 (iv pl)) 1 (iv mt))), (dB, ar 6 EB), (dD, ar 6 ED), (dK, ar 6 EK), (dF, ar 6 EF), (dH, ar 6 EH), (oS, ob 5 (uF (uF (uF (uF fS 0 (iv s0)) 1 (iv n)) 2 (iv ec)) 3 (iv mk))), (aB, ar 6 B), (aF, ar 6 Fo), (aH, ar 6 Ho), (aL, ar 6 Lt), (oD, ob 0 (uF (uF (uF (uF (uF fD 0 (iv td)) 1 (iv un)) 2 (iv hi)) 3 (iv im)) 4 (iv nx))), (oK, ob 9 (uF fK 0 (iv kk))), (ht, ob 6 (uF ft 1 (iv tn))), (oA, aq 4 (lwR ds))] ++ (lwT ds ys))) (by simp only [putC, List.set, List.append_nil, List.cons_append, List.nil_append]) ?_
  have g0 := hB2_11
  have g1 := hD2_12
  have g2 := hK2_13
  have g3 := hF2_14
  have g4 := hH2_15
  refine S_aload_n X dX11_openTown_14 rfl rfl ?_
  refine S_get X fgX11_59_10 0 rfl hf5 dX11_openTown_15 ?_
  refine S_aload_n X dX11_openTown_18 rfl rfl ?_
  refine S_get X fgX11_35_10 0 rfl hf2 dX11_openTown_19 ?_
  refine S_callv X (kX6_open l oW wB wF wH (uF (uF fW 0 (iv pl)) 1 (iv mt)) B2_4 F2_7 H2_8 pl oS aB aF aH aL fS B Fo Ho Lt s0 n ec mk hf18 hf19 hf20 hf21 hf8 hf11 hf12 rfl) (is := [14, 15, 16, 17, 18, 1, 2, 5, 6]) rfl (run_V X lkX11_132 14 rfl rfl (is := [14, 15, 16, 17, 18, 1, 2, 5, 6]) (avs := [rv oW]) (rest := []) rfl rfl (nle rfl) ⟨nle rfl, nle rfl⟩ ⟨nle rfl, nle rfl⟩ dX11_openTown_22 (by decide) rfl) (fun u_16 hp_17 => ?_)
  obtain ⟨B2_19, F2_20, H2_21, L2_22, hu_24, hB2_25, hF2_26, hH2_27, hL2_28⟩ := hp_17
  subst hu_24
  refine ⟨rfl, ?_⟩
  refine S_w (ws' := ([(h0, ob 10 (uF f 15 (iv rl))), (oW, ob 7 (uF (uF fW 0 (iv pl)) 1 (iv mt))), (wB, ar 6 B2_4), (wD, ar 6 D2_5), (wK, ar 6 K2_6), (wF, ar 6 F2_7), (wH, ar 6 H2_8), (oR, ob 8 fR), (od, ob 7 (uF (uF fd 0 (iv pl)) 1 (iv mt))), (dB, ar 6 EB), (dD, ar 6 ED), (dK, ar 6 EK), (dF, ar 6 EF), (dH, ar 6 EH), (oS, ob 5 (uF (uF (uF (uF fS 0 (iv pl)) 1 (iv n)) 2 (iv ec)) 3 (iv 0))), (aB, ar 6 B2_19), (aF, ar 6 F2_20), (aH, ar 6 H2_21), (aL, ar 6 L2_22), (oD, ob 0 (uF (uF (uF (uF (uF fD 0 (iv td)) 1 (iv un)) 2 (iv hi)) 3 (iv im)) 4 (iv nx))), (oK, ob 9 (uF fK 0 (iv kk))), (ht, ob 6 (uF ft 1 (iv tn))), (oA, aq 4 (lwR ds))] ++ (lwT ds ys))) (by simp only [putC, List.set, List.append_nil, List.cons_append, List.nil_append]) ?_
  have k0 := hB2_25
  have k1 := hF2_26
  have k2 := hH2_27
  have k3 := hL2_28
  refine S_aload_n X dX11_openTown_25 rfl rfl ?_
  refine S_get X fgX11_48_10 0 rfl hf4 dX11_openTown_26 ?_
  refine S_callv X (kX0_open l oD fD td un hi im nx ) (is := [19]) rfl (run_V X lkX11_135 19 rfl rfl (is := [19]) (avs := []) (rest := []) rfl rfl (nle rfl) ⟨nle rfl, nle rfl⟩ ⟨nle rfl, nle rfl⟩ dX11_openTown_29 (by decide) rfl) (fun u_29 hp_30 => ?_)
  have hu_33 := hp_30
  subst hu_33
  refine ⟨rfl, ?_⟩
  refine S_w (ws' := ([(h0, ob 10 (uF f 15 (iv rl))), (oW, ob 7 (uF (uF fW 0 (iv pl)) 1 (iv mt))), (wB, ar 6 B2_4), (wD, ar 6 D2_5), (wK, ar 6 K2_6), (wF, ar 6 F2_7), (wH, ar 6 H2_8), (oR, ob 8 fR), (od, ob 7 (uF (uF fd 0 (iv pl)) 1 (iv mt))), (dB, ar 6 EB), (dD, ar 6 ED), (dK, ar 6 EK), (dF, ar 6 EF), (dH, ar 6 EH), (oS, ob 5 (uF (uF (uF (uF fS 0 (iv pl)) 1 (iv n)) 2 (iv ec)) 3 (iv 0))), (aB, ar 6 B2_19), (aF, ar 6 F2_20), (aH, ar 6 H2_21), (aL, ar 6 L2_22), (oD, ob 0 (uF (uF (uF (uF (uF fD 0 (iv 0)) 1 (iv 0)) 2 (iv 0)) 3 (iv im)) 4 (iv 0))), (oK, ob 9 (uF fK 0 (iv kk))), (ht, ob 6 (uF ft 1 (iv tn))), (oA, aq 4 (lwR ds))] ++ (lwT ds ys))) (by simp only [putC, List.set, List.append_nil, List.cons_append, List.nil_append]) ?_
  refine S_aload_n X dX11_openTown_32 rfl rfl ?_
  refine S_iconst X dX11_openTown_33 ?_
  refine S_put X fpX11_137_10 0 rfl FT_i dX11_openTown_34 ?_
  refine S_w (ws' := ([(h0, ob 10 (uF f 15 (iv 0))), (oW, ob 7 (uF (uF fW 0 (iv pl)) 1 (iv mt))), (wB, ar 6 B2_4), (wD, ar 6 D2_5), (wK, ar 6 K2_6), (wF, ar 6 F2_7), (wH, ar 6 H2_8), (oR, ob 8 fR), (od, ob 7 (uF (uF fd 0 (iv pl)) 1 (iv mt))), (dB, ar 6 EB), (dD, ar 6 ED), (dK, ar 6 EK), (dF, ar 6 EF), (dH, ar 6 EH), (oS, ob 5 (uF (uF (uF (uF fS 0 (iv pl)) 1 (iv n)) 2 (iv ec)) 3 (iv 0))), (aB, ar 6 B2_19), (aF, ar 6 F2_20), (aH, ar 6 H2_21), (aL, ar 6 L2_22), (oD, ob 0 (uF (uF (uF (uF (uF fD 0 (iv 0)) 1 (iv 0)) 2 (iv 0)) 3 (iv im)) 4 (iv 0))), (oK, ob 9 (uF fK 0 (iv kk))), (ht, ob 6 (uF ft 1 (iv tn))), (oA, aq 4 (lwR ds))] ++ (lwT ds ys))) (by simp only [List.set, List.cons_append, List.nil_append]; rw [uF_same (k := 15)]) ?_
  refine S_iconst X dX11_openTown_37 ?_
  refine S_istore_n X dX11_openTown_38 rfl (nle rfl) ?_
  have lp39_0 : ∀ (N : Nat) (i : Int) (yv : Nat → LwY) (L : Nat → Option AV), 0 ≤ i ∧ i ≤ 4 → (∀ (j : Nat) x, (j : Int) < i → ds[j]? = some x → (yv j).kn = 0) → L 0 = some (rv h0) → L 1 = some (iv i) → 5 - i < (N : Int) → S_ p l e (rmD 2 0 0) s m args below meth c (MQ below (QcV D G A Po) args s 0 0 A) D G A 3 0 0 39 L [] ([(h0, ob 10 (uF f 15 (iv 0))), (oW, ob 7 (uF (uF fW 0 (iv pl)) 1 (iv mt))), (wB, ar 6 B2_4), (wD, ar 6 D2_5), (wK, ar 6 K2_6), (wF, ar 6 F2_7), (wH, ar 6 H2_8), (oR, ob 8 fR), (od, ob 7 (uF (uF fd 0 (iv pl)) 1 (iv mt))), (dB, ar 6 EB), (dD, ar 6 ED), (dK, ar 6 EK), (dF, ar 6 EF), (dH, ar 6 EH), (oS, ob 5 (uF (uF (uF (uF fS 0 (iv pl)) 1 (iv n)) 2 (iv ec)) 3 (iv 0))), (aB, ar 6 B2_19), (aF, ar 6 F2_20), (aH, ar 6 H2_21), (aL, ar 6 L2_22), (oD, ob 0 (uF (uF (uF (uF (uF fD 0 (iv 0)) 1 (iv 0)) 2 (iv 0)) 3 (iv im)) 4 (iv 0))), (oK, ob 9 (uF fK 0 (iv kk))), (ht, ob 6 (uF ft 1 (iv tn))), (oA, aq 4 (lwR ds))] ++ (lwT ds yv)) := by
    intro N
    induction N with
    | zero =>
      intro i yv L39 hi hkn hL39_0 hL39_1 hN39
      exfalso; omega
    | succ N ih39 =>
      intro i yv L39 hi hkn hL39_0 hL39_1 hN39
      refine S_iload_n X dX11_openTown_39 rfl hL39_1 ?_
      refine S_iconst X dX11_openTown_40 ?_
      refine S_icmp_ge (tgt := 65) X dX11_openTown_41 (by decide) (by omega) (by decide) (fun c_34 => ?_) (fun c_34 => ?_)
      ·
        refine S_aload_n X dX11_openTown_65 rfl hL39_0 ?_
        refine S_get X fgX11_85_10 0 rfl hf6 dX11_openTown_66 ?_
        refine S_iconst X dX11_openTown_69 ?_
        refine S_put X fpX11_143_9 20 rfl (FT_b (Or.inl rfl)) dX11_openTown_70 ?_
        refine S_w (ws' := ([(h0, ob 10 (uF f 15 (iv 0))), (oW, ob 7 (uF (uF fW 0 (iv pl)) 1 (iv mt))), (wB, ar 6 B2_4), (wD, ar 6 D2_5), (wK, ar 6 K2_6), (wF, ar 6 F2_7), (wH, ar 6 H2_8), (oR, ob 8 fR), (od, ob 7 (uF (uF fd 0 (iv pl)) 1 (iv mt))), (dB, ar 6 EB), (dD, ar 6 ED), (dK, ar 6 EK), (dF, ar 6 EF), (dH, ar 6 EH), (oS, ob 5 (uF (uF (uF (uF fS 0 (iv pl)) 1 (iv n)) 2 (iv ec)) 3 (iv 0))), (aB, ar 6 B2_19), (aF, ar 6 F2_20), (aH, ar 6 H2_21), (aL, ar 6 L2_22), (oD, ob 0 (uF (uF (uF (uF (uF fD 0 (iv 0)) 1 (iv 0)) 2 (iv 0)) 3 (iv im)) 4 (iv 0))), (oK, ob 9 (uF fK 0 (iv 0))), (ht, ob 6 (uF ft 1 (iv tn))), (oA, aq 4 (lwR ds))] ++ (lwT ds yv))) (by simp only [List.set, List.cons_append, List.nil_append]; rw [uF_same (k := 0)]) ?_
        refine S_aload_n X dX11_openTown_73 rfl hL39_0 ?_
        refine S_get X fgX11_10_10 0 rfl hf0 dX11_openTown_74 ?_
        refine S_iconst X dX11_openTown_77 ?_
        refine S_put X fpX11_100_6 21 rfl FT_i dX11_openTown_78 ?_
        refine S_w (ws' := ([(h0, ob 10 (uF f 15 (iv 0))), (oW, ob 7 (uF (uF fW 0 (iv pl)) 1 (iv mt))), (wB, ar 6 B2_4), (wD, ar 6 D2_5), (wK, ar 6 K2_6), (wF, ar 6 F2_7), (wH, ar 6 H2_8), (oR, ob 8 fR), (od, ob 7 (uF (uF fd 0 (iv pl)) 1 (iv mt))), (dB, ar 6 EB), (dD, ar 6 ED), (dK, ar 6 EK), (dF, ar 6 EF), (dH, ar 6 EH), (oS, ob 5 (uF (uF (uF (uF fS 0 (iv pl)) 1 (iv n)) 2 (iv ec)) 3 (iv 0))), (aB, ar 6 B2_19), (aF, ar 6 F2_20), (aH, ar 6 H2_21), (aL, ar 6 L2_22), (oD, ob 0 (uF (uF (uF (uF (uF fD 0 (iv 0)) 1 (iv 0)) 2 (iv 0)) 3 (iv im)) 4 (iv 0))), (oK, ob 9 (uF fK 0 (iv 0))), (ht, ob 6 (uF ft 1 (iv 0))), (oA, aq 4 (lwR ds))] ++ (lwT ds yv))) (by simp only [List.set, List.cons_append, List.nil_append]; rw [uF_same (k := 1)]) ?_
        exact S_vret X (nle rfl) (nle rfl) dX11_openTown_81 (hPo _ (⟨_, _, _, _, _, _, _, _, _, _, rfl, g0, g1, g2, g3, g4, fun x h0 h1 => (k0 x h0 h1).trans (g0 x h0 h1), fun x h0 h1 => (k1 x h0 h1).trans (g3 x h0 h1), fun x h0 h1 => (k2 x h0 h1).trans (g4 x h0 h1), k3, hdy.new (i := 0) (fun j x h => hkn j x (by have := (List.getElem?_eq_some_iff.mp h).1; omega) h)⟩))
      ·
        refine S_aload_n X dX11_openTown_44 rfl hL39_0 ?_
        refine S_get X fgX11_41_10 0 rfl hf3 dX11_openTown_45 ?_
        refine S_iload_n X dX11_openTown_48 rfl hL39_1 ?_
        by_cases hil : i < lw
        ·
          obtain ⟨x9, hx9, hr9⟩ := lwR_at (ds := ds) (j := i) (by omega) (by omega)
          obtain ⟨rs9, hp9, hb9⟩ := lw_front (y := yv) hx9
          obtain ⟨⟨⟨hg0, hg1, hg2⟩, hg3, hg4, hg5, hg6, hg7⟩, hg8⟩ := hdy _ _ hx9
          refine S_aald X 22 rfl (by omega) (by omega) (nle rfl) dX11_openTown_49 ?_
          rw [hr9]
          refine S_perm (hp9 _) ?_
          refine S_w (ws' := ([(h0, ob 10 (uF f 15 (iv 0))), (oW, ob 7 (uF (uF fW 0 (iv pl)) 1 (iv mt))), (wB, ar 6 B2_4), (wD, ar 6 D2_5), (wK, ar 6 K2_6), (wF, ar 6 F2_7), (wH, ar 6 H2_8), (oR, ob 8 fR), (od, ob 7 (uF (uF fd 0 (iv pl)) 1 (iv mt))), (dB, ar 6 EB), (dD, ar 6 ED), (dK, ar 6 EK), (dF, ar 6 EF), (dH, ar 6 EH), (oS, ob 5 (uF (uF (uF (uF fS 0 (iv pl)) 1 (iv n)) 2 (iv ec)) 3 (iv 0))), (aB, ar 6 B2_19), (aF, ar 6 F2_20), (aH, ar 6 H2_21), (aL, ar 6 L2_22), (oD, ob 0 (uF (uF (uF (uF (uF fD 0 (iv 0)) 1 (iv 0)) 2 (iv 0)) 3 (iv im)) 4 (iv 0))), (oK, ob 9 (uF fK 0 (iv kk))), (ht, ob 6 (uF ft 1 (iv tn))), (oA, aq 4 (lwR ds)), (x9.o, ob 1 (uF (uF x9.f 3 (iv ((yv i.toNat).tp))) 4 (iv ((yv i.toNat).kn)))), (x9.c, ar x9.nc x9.CC), (x9.s, ar x9.nc ((yv i.toNat).S)), (x9.k, ar x9.nk ((yv i.toNat).K))] ++ rs9)) rfl ?_
          refine S_astore_n X dX11_openTown_50 rfl (nle rfl) ?_
          refine S_aload_n X dX11_openTown_51 rfl rfl ?_
          refine S_ifnull (tgt := 59) X dX11_openTown_52 (by decide) (fun h9 => by cases h9) (fun _ _ => ?_)
          refine S_aload_n X dX11_openTown_55 rfl rfl ?_
          refine S_callv X (kX1_forget l x9.o x9.f ((yv i.toNat).tp) ((yv i.toNat).kn) ) (is := [23]) rfl (run_V X lkX11_140 23 rfl rfl (is := [23]) (avs := []) (rest := []) rfl rfl (nle rfl) ⟨nle rfl, nle rfl⟩ ⟨nle rfl, nle rfl⟩ dX11_openTown_56 (by decide) rfl) (fun u_35 hp_36 => ?_)
          have hu_39 := hp_36
          subst hu_39
          refine ⟨rfl, ?_⟩
          refine S_w (ws' := ([(h0, ob 10 (uF f 15 (iv 0))), (oW, ob 7 (uF (uF fW 0 (iv pl)) 1 (iv mt))), (wB, ar 6 B2_4), (wD, ar 6 D2_5), (wK, ar 6 K2_6), (wF, ar 6 F2_7), (wH, ar 6 H2_8), (oR, ob 8 fR), (od, ob 7 (uF (uF fd 0 (iv pl)) 1 (iv mt))), (dB, ar 6 EB), (dD, ar 6 ED), (dK, ar 6 EK), (dF, ar 6 EF), (dH, ar 6 EH), (oS, ob 5 (uF (uF (uF (uF fS 0 (iv pl)) 1 (iv n)) 2 (iv ec)) 3 (iv 0))), (aB, ar 6 B2_19), (aF, ar 6 F2_20), (aH, ar 6 H2_21), (aL, ar 6 L2_22), (oD, ob 0 (uF (uF (uF (uF (uF fD 0 (iv 0)) 1 (iv 0)) 2 (iv 0)) 3 (iv im)) 4 (iv 0))), (oK, ob 9 (uF fK 0 (iv kk))), (ht, ob 6 (uF ft 1 (iv tn))), (oA, aq 4 (lwR ds)), (x9.o, ob 1 (uF (uF x9.f 3 (iv ((yv i.toNat).tp))) 4 (iv 0))), (x9.c, ar x9.nc x9.CC), (x9.s, ar x9.nc ((yv i.toNat).S)), (x9.k, ar x9.nk ((yv i.toNat).K))] ++ rs9)) (by simp only [putC, List.set, List.append_nil, List.cons_append, List.nil_append]) ?_
          refine S_perm (hb9 [(h0, ob 10 (uF f 15 (iv 0))), (oW, ob 7 (uF (uF fW 0 (iv pl)) 1 (iv mt))), (wB, ar 6 B2_4), (wD, ar 6 D2_5), (wK, ar 6 K2_6), (wF, ar 6 F2_7), (wH, ar 6 H2_8), (oR, ob 8 fR), (od, ob 7 (uF (uF fd 0 (iv pl)) 1 (iv mt))), (dB, ar 6 EB), (dD, ar 6 ED), (dK, ar 6 EK), (dF, ar 6 EF), (dH, ar 6 EH), (oS, ob 5 (uF (uF (uF (uF fS 0 (iv pl)) 1 (iv n)) 2 (iv ec)) 3 (iv 0))), (aB, ar 6 B2_19), (aF, ar 6 F2_20), (aH, ar 6 H2_21), (aL, ar 6 L2_22), (oD, ob 0 (uF (uF (uF (uF (uF fD 0 (iv 0)) 1 (iv 0)) 2 (iv 0)) 3 (iv im)) 4 (iv 0))), (oK, ob 9 (uF fK 0 (iv kk))), (ht, ob 6 (uF ft 1 (iv tn))), (oA, aq 4 (lwR ds))] (lwY0 (yv i.toNat).S (yv i.toNat).K (yv i.toNat).tp 0)) ?_
          refine S_iinc X dX11_openTown_59 (nle rfl) hL39_1 ?_
          refine S_goto (tgt := 39) X dX11_openTown_62 (by decide) ?_
          exact ih39 (i + 1) (uN yv i.toNat (lwY0 (yv i.toNat).S (yv i.toNat).K (yv i.toNat).tp 0)) _ (by omega) (fun j x h0 h1 => by unfold uN; split; rfl; exact hkn j x (by omega) h1) hL39_0 rfl (by omega)
        ·
          have hr9 := lwR_no (ds := ds) (j := i) (by omega)
          refine S_aald X 22 rfl (by omega) (by omega) (nle rfl) dX11_openTown_49 ?_
          rw [hr9]
          refine S_astore_nN X dX11_openTown_50 rfl (nle rfl) ?_
          refine S_aload_nN X dX11_openTown_51 rfl rfl ?_
          refine S_ifnull (tgt := 59) X dX11_openTown_52 (by decide) (fun _ => ?_) (fun a9 h9 => by cases h9)
          refine S_iinc X dX11_openTown_59 (nle rfl) hL39_1 ?_
          refine S_goto (tgt := 39) X dX11_openTown_62 (by decide) ?_
          exact ih39 (i + 1) yv _ (by omega) (fun j x h0 h1 => (by omega : (j : Int) < i ∨ i = j).elim (fun q9 => hkn j x q9 h1) (fun q9 => by exfalso; have := (List.getElem?_eq_some_iff.mp h1).1; omega)) hL39_0 rfl (by omega)
  exact lp39_0 (Int.toNat (5 - 0) + 1) 0 ys _ (by omega) (fun j x h0 h1 => by omega) rfl rfl (by omega)
end pt_78copen
/- 79.cfault.lean.txt -/
section pt_79cfault

set_option maxHeartbeats 4000000 in
set_option maxRecDepth 100000 in
theorem kX11_fault (l : Launch) (h0 : Nat) (f : Nat → AV) (oR : Nat) (fR : Nat → AV) (a1 : Int) (w1 : Int) (x1 : Int) (ht : Nat) (ft : Nat → AV) (hb : Nat) (T : Int → Int) (n : Int) (od : Nat) (fd : Nat → AV) (pl : Int) (mt : Int) (dB : Nat) (dD : Nat) (dK : Nat) (dF : Nat) (dH : Nat) (R : Int → Int → Int) (oZ : Nat) (fZ : Nat → AV) (a3 : Int) (w3 : Int) (x3 : Int) (hC : Nat) (C : Int → Int) (v : Int) (hf0 : f 0 = rv ht) (hf1 : f 1 = rv oR) (hf2 : f 2 = rv oZ) (hf3 : fR 0 = rv ht) (hf4 : fR 3 = rv od) (hf5 : fZ 0 = rv ht) (hf6 : fZ 3 = rv hC) (hf7 : ft 0 = rv hb) (hf8 : fd 2 = rv dB) (hf9 : fd 3 = rv dD) (hf10 : fd 4 = rv dK) (hf11 : fd 5 = rv dF) (hf12 : fd 6 = rv dH) (hT : okT T n) (hx_v : inR v) : AMi l yX11_fault cX11_fault 2 .int 33 0 0 [rv h0, iv v] [(h0, ob 10 f), (ht, ob 6 (uF ft 1 (iv n))), (hb, ar 160 T), (oR, ob 8 (uF (uF (uF fR 1 (iv a1)) 2 (iv w1)) 4 (iv x1))), (od, ob 7 (uF (uF fd 0 (iv pl)) 1 (iv mt))), (dB, ar 6 (colR R 0)), (dD, ar 6 (colR R 1)), (dK, ar 6 (colR R 2)), (dF, ar 6 (colR R 3)), (dH, ar 6 (colR R 4)), (oZ, ob 2 (uF (uF (uF fZ 1 (iv a3)) 2 (iv w3)) 4 (iv x3))), (hC, ar 160 C)] (fun z u => (∃ fl : Int, ∃ a2 : Int, ∃ x2 : Int, ∃ p2 : Int, ∃ m2 : Int, ∃ R2 : Int → Int → Int, z = fl ∧ u = [(h0, ob 10 f), (ht, ob 6 (uF ft 1 (iv n))), (hb, ar 160 T), (oR, ob 8 (uF (uF (uF fR 1 (iv a2)) 2 (iv fl)) 4 (iv x2))), (od, ob 7 (uF (uF fd 0 (iv p2)) 1 (iv m2))), (dB, ar 6 (colR R2 0)), (dD, ar 6 (colR R2 1)), (dK, ar 6 (colR R2 2)), (dF, ar 6 (colR R2 3)), (dH, ar 6 (colR R2 4)), (oZ, ob 2 (uF (uF (uF fZ 1 (iv a3)) 2 (iv w3)) 4 (iv x3))), (hC, ar 160 C)] ∧ v = 0 ∧ tnRes T n R = .inl fl ∧ (0 ≤ fl ∧ fl ≤ 160)) ∨ (∃ a2 : Int, ∃ x2 : Int, ∃ p2 : Int, ∃ m2 : Int, ∃ R2 : Int → Int → Int, z = -1 ∧ u = [(h0, ob 10 f), (ht, ob 6 (uF ft 1 (iv n))), (hb, ar 160 T), (oR, ob 8 (uF (uF (uF fR 1 (iv a2)) 2 (iv (-1))) 4 (iv x2))), (od, ob 7 (uF (uF fd 0 (iv p2)) 1 (iv m2))), (dB, ar 6 (colR R2 0)), (dD, ar 6 (colR R2 1)), (dK, ar 6 (colR R2 2)), (dF, ar 6 (colR R2 3)), (dH, ar 6 (colR R2 4)), (oZ, ob 2 (uF (uF (uF fZ 1 (iv a3)) 2 (iv w3)) 4 (iv x3))), (hC, ar 160 C)] ∧ v = 0 ∧ tnRes T n R = .inr (p2, m2, x2, R2) ∧ okTS (p2, m2, x2, R2)) ∨ (∃ fl : Int, ∃ a2 : Int, ∃ x2 : Int, ∃ C2 : Int → Int, z = fl ∧ u = [(h0, ob 10 f), (ht, ob 6 (uF ft 1 (iv n))), (hb, ar 160 T), (oR, ob 8 (uF (uF (uF fR 1 (iv a1)) 2 (iv w1)) 4 (iv x1))), (od, ob 7 (uF (uF fd 0 (iv pl)) 1 (iv mt))), (dB, ar 6 (colR R 0)), (dD, ar 6 (colR R 1)), (dK, ar 6 (colR R 2)), (dF, ar 6 (colR R 3)), (dH, ar 6 (colR R 4)), (oZ, ob 2 (uF (uF (uF fZ 1 (iv a2)) 2 (iv fl)) 4 (iv x2))), (hC, ar 160 C2)] ∧ v = 1 ∧ lwRes T n = .inl fl ∧ (0 ≤ fl ∧ fl ≤ 160)) ∨ (∃ a2 : Int, ∃ ts : List Int, z = -1 ∧ u = [(h0, ob 10 f), (ht, ob 6 (uF ft 1 (iv n))), (hb, ar 160 T), (oR, ob 8 (uF (uF (uF fR 1 (iv a1)) 2 (iv w1)) 4 (iv x1))), (od, ob 7 (uF (uF fd 0 (iv pl)) 1 (iv mt))), (dB, ar 6 (colR R 0)), (dD, ar 6 (colR R 1)), (dK, ar 6 (colR R 2)), (dF, ar 6 (colR R 3)), (dH, ar 6 (colR R 4)), (oZ, ob 2 (uF (uF (uF fZ 1 (iv a2)) 2 (iv (-1))) 4 (iv (0 + ((ts).length : Int))))), (hC, ar 160 (wrL C 0 (ts)))] ∧ v = 1 ∧ lwRes T n = .inr ts ∧ (ts.length : Int) ≤ 160 ∧ (∀ t ∈ ts, -200 ≤ t ∧ t ≤ 9999)) ∨ (z = -2 ∧ u = [(h0, ob 10 f), (ht, ob 6 (uF ft 1 (iv n))), (hb, ar 160 T), (oR, ob 8 (uF (uF (uF fR 1 (iv a1)) 2 (iv w1)) 4 (iv x1))), (od, ob 7 (uF (uF fd 0 (iv pl)) 1 (iv mt))), (dB, ar 6 (colR R 0)), (dD, ar 6 (colR R 1)), (dK, ar 6 (colR R 2)), (dF, ar 6 (colR R 3)), (dH, ar 6 (colR R 4)), (oZ, ob 2 (uF (uF (uF fZ 1 (iv a3)) 2 (iv w3)) 4 (iv x3))), (hC, ar 160 C)] ∧ (v ≠ 0 ∧ v ≠ 1))) := by
  refine AMi.of2 rfl (nle rfl) ?_
  intro D G A p e s m args below meth c Po hPo X
  refine S_iload_n X dX11_fault_0 rfl rfl ?_
  refine S_if_ne (tgt := 12) X dX11_fault_1 (by decide) (by omega) (fun c_1 => ?_) (fun c_1 => ?_)
  ·
    refine S_iload_n X dX11_fault_12 rfl rfl ?_
    refine S_iconst X dX11_fault_13 ?_
    refine S_icmp_ne (tgt := 25) X dX11_fault_14 (by decide) (by omega) (by decide) (fun c_2 => ?_) (fun c_2 => ?_)
    ·
      refine S_bipush X dX11_fault_25 rfl ?_
      exact S_iret X (nle rfl) (nle rfl) dX11_fault_27 (hPo _ _ (Or.inr (Or.inr (Or.inr (Or.inr ⟨rfl, rfl, by omega⟩)))))
    ·
      refine S_aload_n X dX11_fault_17 rfl rfl ?_
      refine S_get X fgX11_28_10 0 rfl hf2 dX11_fault_18 ?_
      refine S_calli X (kX5_read_2 l oZ ht hb fZ (uF ft 1 (iv n)) T n a3 w3 x3 hC C hf5 hf7 rfl hf6 hT) (is := [10, 1, 2, 11]) rfl (run_U X lkX11_111_2 10 rfl rfl (is := [10, 1, 2, 11]) (avs := []) (rest := []) rfl rfl (nle rfl) ⟨nle rfl, nle rfl⟩ ⟨nle rfl, nle rfl⟩ dX11_fault_21 (by decide) rfl) (fun z_5 u_3 hp_4 => ?_)
      rcases hp_4 with ⟨a2_6, fl_7, x2_8, C2_9, hz_10, hu_11, hq_12, hr_13⟩ | ⟨a2_14, ts_15, hz_16, hu_17, hq_18, hl_19, ht2_20⟩
      ·
        subst hz_10
        subst hu_11
        refine ⟨rfl, ?_⟩
        refine S_w (ws' := [(h0, ob 10 f), (ht, ob 6 (uF ft 1 (iv n))), (hb, ar 160 T), (oR, ob 8 (uF (uF (uF fR 1 (iv a1)) 2 (iv w1)) 4 (iv x1))), (od, ob 7 (uF (uF fd 0 (iv pl)) 1 (iv mt))), (dB, ar 6 (colR R 0)), (dD, ar 6 (colR R 1)), (dK, ar 6 (colR R 2)), (dF, ar 6 (colR R 3)), (dH, ar 6 (colR R 4)), (oZ, ob 2 (uF (uF (uF fZ 1 (iv a2_6)) 2 (iv z_5)) 4 (iv x2_8))), (hC, ar 160 C2_9)]) rfl ?_
        exact S_iret X (nle rfl) (nle rfl) dX11_fault_24 (hPo _ _ (Or.inr (Or.inr (Or.inl ⟨_, _, _, _, rfl, rfl, by omega, hq_12, hr_13⟩))))
      ·
        subst hz_16
        subst hu_17
        refine ⟨rfl, ?_⟩
        refine S_w (ws' := [(h0, ob 10 f), (ht, ob 6 (uF ft 1 (iv n))), (hb, ar 160 T), (oR, ob 8 (uF (uF (uF fR 1 (iv a1)) 2 (iv w1)) 4 (iv x1))), (od, ob 7 (uF (uF fd 0 (iv pl)) 1 (iv mt))), (dB, ar 6 (colR R 0)), (dD, ar 6 (colR R 1)), (dK, ar 6 (colR R 2)), (dF, ar 6 (colR R 3)), (dH, ar 6 (colR R 4)), (oZ, ob 2 (uF (uF (uF fZ 1 (iv a2_14)) 2 (iv (-1))) 4 (iv (0 + ((ts_15).length : Int))))), (hC, ar 160 (wrL C 0 (ts_15)))]) rfl ?_
        exact S_iret X (nle rfl) (nle rfl) dX11_fault_24 (hPo _ _ (Or.inr (Or.inr (Or.inr (Or.inl ⟨_, _, rfl, rfl, by omega, hq_18, hl_19, ht2_20⟩)))))
  ·
    refine S_aload_n X dX11_fault_4 rfl rfl ?_
    refine S_get X fgX11_21_10 0 rfl hf1 dX11_fault_5 ?_
    refine S_calli X (kX5_read_8 l oR ht hb fR (uF ft 1 (iv n)) T n a1 w1 x1 od fd dB dD dK dF dH pl mt R hf3 hf7 rfl hf4 hf8 hf9 hf10 hf11 hf12 hT) (is := [3, 1, 2, 4, 5, 6, 7, 8, 9]) rfl (run_U X lkX11_107_8 3 rfl rfl (is := [3, 1, 2, 4, 5, 6, 7, 8, 9]) (avs := []) (rest := []) rfl rfl (nle rfl) ⟨nle rfl, nle rfl⟩ ⟨nle rfl, nle rfl⟩ dX11_fault_8 (by decide) rfl) (fun z_23 u_21 hp_22 => ?_)
    rcases hp_22 with ⟨a2_24, fl_25, x2_26, pl2_27, mt2_28, R2_29, hz_30, hu_31, hq_32, hr_33⟩ | ⟨a2_34, x2_35, pl2_36, mt2_37, R2_38, hz_39, hu_40, hq_41, hr_42⟩
    ·
      subst hz_30
      subst hu_31
      refine ⟨rfl, ?_⟩
      refine S_w (ws' := [(h0, ob 10 f), (ht, ob 6 (uF ft 1 (iv n))), (hb, ar 160 T), (oR, ob 8 (uF (uF (uF fR 1 (iv a2_24)) 2 (iv z_23)) 4 (iv x2_26))), (od, ob 7 (uF (uF fd 0 (iv pl2_27)) 1 (iv mt2_28))), (dB, ar 6 (colR R2_29 0)), (dD, ar 6 (colR R2_29 1)), (dK, ar 6 (colR R2_29 2)), (dF, ar 6 (colR R2_29 3)), (dH, ar 6 (colR R2_29 4)), (oZ, ob 2 (uF (uF (uF fZ 1 (iv a3)) 2 (iv w3)) 4 (iv x3))), (hC, ar 160 C)]) rfl ?_
      exact S_iret X (nle rfl) (nle rfl) dX11_fault_11 (hPo _ _ (Or.inl ⟨_, _, _, _, _, _, rfl, rfl, by omega, hq_32, hr_33⟩))
    ·
      subst hz_39
      subst hu_40
      refine ⟨rfl, ?_⟩
      refine S_w (ws' := [(h0, ob 10 f), (ht, ob 6 (uF ft 1 (iv n))), (hb, ar 160 T), (oR, ob 8 (uF (uF (uF fR 1 (iv a2_34)) 2 (iv (-1))) 4 (iv x2_35))), (od, ob 7 (uF (uF fd 0 (iv pl2_36)) 1 (iv mt2_37))), (dB, ar 6 (colR R2_38 0)), (dD, ar 6 (colR R2_38 1)), (dK, ar 6 (colR R2_38 2)), (dF, ar 6 (colR R2_38 3)), (dH, ar 6 (colR R2_38 4)), (oZ, ob 2 (uF (uF (uF fZ 1 (iv a3)) 2 (iv w3)) 4 (iv x3))), (hC, ar 160 C)]) rfl ?_
      exact S_iret X (nle rfl) (nle rfl) dX11_fault_11 (hPo _ _ (Or.inr (Or.inl ⟨_, _, _, _, _, rfl, rfl, by omega, hq_41, hr_42⟩)))
end pt_79cfault
