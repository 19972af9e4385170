def t3a (To : Int → Int) : Int → Int := fun k => To (k * 3)
def t3b (To : Int → Int) : Int → Int := fun k => To (k * 3 + 1)
def t3c (To : Int → Int) : Int → Int := fun k => To (k * 3 + 2)
theorem fb_nb2 {pl n ec mk rl q f st : Int} {Fo Ho B0 Lt P1 B1 T1 : Int → Int} (hf : -1 ≤ f) (h : (f = -1 ∧ st = 0) ∨ (0 ≤ f ∧ st = fiB pl n ec mk Fo Ho B0 Lt rl P1 B1 T1 q f.toNat)) (e : f = -1) (hr : inR st) (hq : agB pl n ec mk Fo Ho B0 Lt rl P1 B1 T1 q f = true) : (f + 1 = -1 ∧ zOr st 64 = 0) ∨ (0 ≤ f + 1 ∧ zOr st 64 = fiB pl n ec mk Fo Ho B0 Lt rl P1 B1 T1 q (f + 1).toNat) := by
  have h9 : zShl 1 6 = 64 := by decide
  have := fb_nb hf h e hr hq
  rwa [h9] at this
set_option maxHeartbeats 4000000 in
set_option maxRecDepth 100000 in
theorem kX11_isToldSo (l : Launch) (h0 : Nat) (f : Nat → AV) (fP : Nat → AV) (fS : Nat → AV) (pl : Int) (n : Int) (ec : Int) (mk : Int) (oP : Nat) (oS : Nat) (aA : Nat) (aT : Nat) (aW : Nat) (aS : Nat) (aB : Nat) (aF : Nat) (aH : Nat) (aL : Nat) (Ab : Int → Int) (Tm : Int → Int) (Wq : Int → Int) (Sp : Int → Int) (B : Int → Int) (Fo : Int → Int) (Ho : Int → Int) (Lt : Int → Int) (p0 : Int) (n0 : Int) (k0 : Int) (hTo : Nat) (To : Int → Int) (rl : Int) (hf0 : f 9 = rv oP) (hf1 : f 8 = rv oS) (hf2 : f 6 = rv hTo) (hf3 : f 15 = iv rl) (hf4 : fP 0 = rv aA) (hf5 : fP 1 = rv aT) (hf6 : fP 2 = rv aW) (hf7 : fP 3 = rv aS) (hf8 : fS 0 = iv pl) (hf9 : fS 1 = iv n) (hf10 : fS 2 = iv ec) (hf11 : fS 3 = iv mk) (hf12 : fS 4 = rv aB) (hf13 : fS 5 = rv aF) (hf14 : fS 6 = rv aH) (hf15 : fS 7 = rv aL) (hok : okS pl n ec Fo Ho B Lt) (hto : 0 ≤ rl ∧ rl ≤ 20 ∧ ∀ k, 0 ≤ k → k < rl → (0 ≤ t3a To k ∧ t3a To k < pl) ∧ (0 ≤ t3b To k ∧ t3b To k ≤ 29) ∧ (0 ≤ t3c To k ∧ t3c To k ≤ 9999)) : AMi l yX11_isToldSo cX11_isToldSo 4 .boolean 4 0 0 [rv h0] [(h0, ob 10 f), (oP, ob 4 (uF (uF (uF fP 6 (iv p0)) 7 (iv n0)) 8 (iv k0))), (aA, ar 1206 Ab), (aT, ar 180 Tm), (aW, ar 6 Wq), (aS, ar 30 Sp), (oS, ob 5 fS), (aB, ar 6 B), (aF, ar 6 Fo), (aH, ar 6 Ho), (aL, ar 6 Lt), (hTo, ar 60 To)] (fun z u => (∃ A2 : Int → Int, ∃ T2 : Int → Int, ∃ W2 : Int → Int, ∃ S2 : Int → Int, z = 0 ∧ u = [(h0, ob 10 f), (oP, ob 4 (uF (uF (uF fP 6 (iv pl)) 7 (iv n)) 8 (iv mk))), (aA, ar 1206 A2), (aT, ar 180 T2), (aW, ar 6 W2), (aS, ar 30 S2), (oS, ob 5 fS), (aB, ar 6 B), (aF, ar 6 Fo), (aH, ar 6 Ho), (aL, ar 6 Lt), (hTo, ar 60 To)] ∧ (¬ (∀ k, 0 ≤ k → k < rl → t3b To k < n ∧ wS pl ec mk Fo Ho B Lt (t3b To k) (t3a To k) = t3c To k))) ∨ (∃ A2 : Int → Int, ∃ T2 : Int → Int, ∃ W2 : Int → Int, ∃ S2 : Int → Int, z = 1 ∧ u = [(h0, ob 10 f), (oP, ob 4 (uF (uF (uF fP 6 (iv pl)) 7 (iv n)) 8 (iv mk))), (aA, ar 1206 A2), (aT, ar 180 T2), (aW, ar 6 W2), (aS, ar 30 S2), (oS, ob 5 fS), (aB, ar 6 B), (aF, ar 6 Fo), (aH, ar 6 Ho), (aL, ar 6 Lt), (hTo, ar 60 To)] ∧ (∀ k, 0 ≤ k → k < rl → t3b To k < n ∧ wS pl ec mk Fo Ho B Lt (t3b To k) (t3a To k) = t3c To k))) := by
  refine AMi.of2 rfl (nle rfl) ?_
  intro D G A p e s m args below meth c Po hPo X
  have hpl := hok.2.1
  have hpl1 := hok.1
  have hn1 := hok.2.2.1
  have hn2 := hok.2.2.2.1
  have hec := hok.2.2.2.2
  have hto1 := hto.1
  have hto2 := hto.2.1
  refine S_aload_n X dX11_isToldSo_0 rfl rfl ?_
  refine S_get X fgX11_69_10 0 rfl hf0 dX11_isToldSo_1 ?_
  refine S_aload_n X dX11_isToldSo_4 rfl rfl ?_
  refine S_get X fgX11_63_10 0 rfl hf1 dX11_isToldSo_5 ?_
  refine S_ldc (n := 1000000000) X m813 dX11_isToldSo_8 ?_
  refine S_calli X (kX4_performE l fP fS pl n ec mk oP oS aA aT aW aS aB aF aH aL Ab Tm Wq Sp B Fo Ho Lt p0 n0 k0 hf4 hf5 hf6 hf7 hf8 hf9 hf10 hf11 hf12 hf13 hf14 hf15 (by omega)) (is := [1, 2, 3, 4, 5, 6, 7, 8, 9, 10]) rfl (run_V X lkX11_235 1 rfl rfl (is := [1, 2, 3, 4, 5, 6, 7, 8, 9, 10]) (avs := [rv oS, iv 1000000000]) (rest := []) rfl rfl (nle rfl) ⟨nle rfl, nle rfl⟩ ⟨nle rfl, nle rfl⟩ dX11_isToldSo_10 (by decide) rfl) (fun z_3 u_1 hp_2 => ?_)
  obtain ⟨A2_4, T2_5, W2_6, S2_7, hz_8, hu_9, hq_10, hA2_11, hT2_12, hS2_13⟩ := hp_2
  subst hz_8
  subst hu_9
  refine ⟨rfl, ?_⟩
  refine S_w (ws' := [(h0, ob 10 f), (oP, ob 4 (uF (uF (uF fP 6 (iv pl)) 7 (iv n)) 8 (iv mk))), (aA, ar 1206 A2_4), (aT, ar 180 T2_5), (aW, ar 6 W2_6), (aS, ar 30 S2_7), (oS, ob 5 fS), (aB, ar 6 B), (aF, ar 6 Fo), (aH, ar 6 Ho), (aL, ar 6 Lt), (hTo, ar 60 To)]) rfl ?_
  have hTL := hT2_12
  refine S_pop X dX11_isToldSo_13 ?_
  refine S_iconst X dX11_isToldSo_14 ?_
  refine S_istore_n X dX11_isToldSo_15 rfl (nle rfl) ?_
  have lp16_0 : ∀ (N : Nat) (k : Int) (L : Nat → Option AV), 0 ≤ k ∧ k ≤ rl → (∀ x, 0 ≤ x → x < k → t3b To x < n ∧ wS pl ec mk Fo Ho B Lt (t3b To x) (t3a To x) = t3c To x) → L 0 = some (rv h0) → L 1 = some (iv k) → rl + 1 - k < (N : Int) → S_ p l e (rmD 4 0 0) s m args below meth c (MQ below (QcI D G A Po) args s 0 0 A) D G A 4 0 0 16 L [] [(h0, ob 10 f), (oP, ob 4 (uF (uF (uF fP 6 (iv pl)) 7 (iv n)) 8 (iv mk))), (aA, ar 1206 A2_4), (aT, ar 180 T2_5), (aW, ar 6 W2_6), (aS, ar 30 S2_7), (oS, ob 5 fS), (aB, ar 6 B), (aF, ar 6 Fo), (aH, ar 6 Ho), (aL, ar 6 Lt), (hTo, ar 60 To)] := by
    intro N
    induction N with
    | zero =>
      intro k L16 hk hag hL16_0 hL16_1 hN16
      exfalso; omega
    | succ N ih16 =>
      intro k L16 hk hag hL16_0 hL16_1 hN16
      refine S_iload_n X dX11_isToldSo_16 rfl hL16_1 ?_
      refine S_aload_n X dX11_isToldSo_17 rfl hL16_0 ?_
      refine S_get X fgX11_137_10 0 rfl hf3 dX11_isToldSo_18 ?_
      refine S_icmp_ge (tgt := 87) X dX11_isToldSo_21 (by decide) (by omega) (by omega) (fun c_14 => ?_) (fun c_14 => ?_)
      ·
        refine S_iconst X dX11_isToldSo_87 ?_
        exact S_zret X (Or.inr rfl) (nle rfl) (nle rfl) dX11_isToldSo_88 (hPo _ _ (Or.inr ⟨_, _, _, _, rfl, rfl, fun x h0 h1 => hag x h0 (by omega)⟩))
      ·
        refine S_iload_n X dX11_isToldSo_24 rfl hL16_1 ?_
        refine S_bipush X dX11_isToldSo_25 rfl ?_
        refine S_icmp_ge (tgt := 87) X dX11_isToldSo_27 (by decide) (by omega) (by decide) (fun c_15 => by exfalso; omega) (fun c_15 => ?_)
        have hr9 := hto.2.2 k (by omega) (by omega)
        unfold t3a t3b t3c at hr9
        refine S_iload_n X dX11_isToldSo_30 rfl hL16_1 ?_
        refine S_iconst X dX11_isToldSo_31 ?_
        refine S_imul X dX11_isToldSo_32 ?_
        refine S_istore_n X dX11_isToldSo_33 rfl (nle rfl) ?_
        refine S_aload_n X dX11_isToldSo_34 rfl hL16_0 ?_
        refine S_get X fgX11_52_10 0 rfl hf2 dX11_isToldSo_35 ?_
        refine S_iload_n X dX11_isToldSo_38 rfl rfl ?_
        refine S_iconst X dX11_isToldSo_39 ?_
        refine S_iadd X dX11_isToldSo_40 ?_
        refine S_iald X 11 rfl (by omega) (by omega) (nle rfl) dX11_isToldSo_41 ?_
        refine S_istore_n X dX11_isToldSo_42 rfl (nle rfl) ?_
        refine S_iload_n X dX11_isToldSo_43 rfl rfl ?_
        refine S_aload_n X dX11_isToldSo_44 rfl hL16_0 ?_
        refine S_get X fgX11_63_10 0 rfl hf1 dX11_isToldSo_45 ?_
        refine S_get X fgX11_182_5 6 rfl hf9 dX11_isToldSo_48 ?_
        refine S_icmp_ge (tgt := 79) X dX11_isToldSo_51 (by decide) (by omega) (by omega) (fun c_16 => ?_) (fun c_16 => ?_)
        ·
          refine S_iconst X dX11_isToldSo_79 ?_
          exact S_zret X (Or.inl rfl) (nle rfl) (nle rfl) dX11_isToldSo_80 (hPo _ _ (Or.inl ⟨_, _, _, _, rfl, rfl, fun h9 => by have := h9 k (by omega) (by omega); unfold t3a t3b t3c at this; omega⟩))
        ·
          refine S_aload_n X dX11_isToldSo_54 rfl hL16_0 ?_
          refine S_get X fgX11_69_10 0 rfl hf0 dX11_isToldSo_55 ?_
          refine S_aload_n X dX11_isToldSo_58 rfl hL16_0 ?_
          refine S_get X fgX11_52_10 0 rfl hf2 dX11_isToldSo_59 ?_
          refine S_iload_n X dX11_isToldSo_62 rfl rfl ?_
          refine S_iald X 11 rfl (by omega) (by omega) (nle rfl) dX11_isToldSo_63 ?_
          refine S_iload_n X dX11_isToldSo_64 rfl rfl ?_
          have hwr := hok.wait (mk := mk) (To (k * 3 + 1)) (To (k * 3)) (by omega) (by omega) (by omega)
          refine S_calli X (kX4_behindWaiting l (uF (uF (uF fP 6 (iv pl)) 7 (iv n)) 8 (iv mk)) pl n ec mk oP aT T2_5 B Fo Ho Lt (To (k * 3)) (To ((k * 3) + 1)) hf5 rfl rfl hok hTL (by omega) (by omega)) (is := [1, 3]) rfl (run_V X lkX11_243 1 rfl rfl (is := [1, 3]) (avs := [iv (To (k * 3)), iv (To ((k * 3) + 1))]) (rest := []) rfl rfl (nle rfl) ⟨nle rfl, nle rfl⟩ ⟨nle rfl, nle rfl⟩ dX11_isToldSo_65 (by decide) rfl) (fun z_19 u_17 hp_18 => ?_)
          obtain ⟨hz_20, hu_21⟩ := hp_18
          subst hz_20
          subst hu_21
          refine ⟨rfl, ?_⟩
          refine S_w (ws' := [(h0, ob 10 f), (oP, ob 4 (uF (uF (uF fP 6 (iv pl)) 7 (iv n)) 8 (iv mk))), (aA, ar 1206 A2_4), (aT, ar 180 T2_5), (aW, ar 6 W2_6), (aS, ar 30 S2_7), (oS, ob 5 fS), (aB, ar 6 B), (aF, ar 6 Fo), (aH, ar 6 Ho), (aL, ar 6 Lt), (hTo, ar 60 To)]) rfl ?_
          refine S_aload_n X dX11_isToldSo_68 rfl hL16_0 ?_
          refine S_get X fgX11_52_10 0 rfl hf2 dX11_isToldSo_69 ?_
          refine S_iload_n X dX11_isToldSo_72 rfl rfl ?_
          refine S_iconst X dX11_isToldSo_73 ?_
          refine S_iadd X dX11_isToldSo_74 ?_
          refine S_iald X 11 rfl (by omega) (by omega) (nle rfl) dX11_isToldSo_75 ?_
          refine S_icmp_eq (tgt := 81) X dX11_isToldSo_76 (by decide) (by omega) (by omega) (fun c_22 => ?_) (fun c_22 => ?_)
          ·
            refine S_iinc X dX11_isToldSo_81 (nle rfl) hL16_1 ?_
            refine S_goto (tgt := 16) X dX11_isToldSo_84 (by decide) ?_
            exact ih16 (k + 1) _ (by omega) (fun x h0 h1 => (by omega : x < k ∨ x = k).elim (fun q9 => hag x h0 q9) (fun q9 => by subst q9; exact ⟨by unfold t3b; omega, by unfold t3a t3b t3c; omega⟩)) hL16_0 rfl (by omega)
          ·
            refine S_iconst X dX11_isToldSo_79 ?_
            exact S_zret X (Or.inl rfl) (nle rfl) (nle rfl) dX11_isToldSo_80 (hPo _ _ (Or.inl ⟨_, _, _, _, rfl, rfl, fun h9 => by have := h9 k (by omega) (by omega); unfold t3a t3b t3c at this; omega⟩))
  exact lp16_0 (Int.toNat (rl + 1 - 0) + 1) 0 _ (by omega) (fun x h0 h1 => by omega) rfl rfl (by omega)
set_option maxHeartbeats 4000000 in
set_option maxRecDepth 100000 in
theorem kX11_fits (l : Launch) (h0 : Nat) (f : Nat → AV) (oW : Nat) (fW : Nat → AV) (fP : Nat → AV) (fS : Nat → AV) (pl : Int) (n : Int) (ec : Int) (mk : Int) (oP : Nat) (oS : Nat) (aA : Nat) (aT : Nat) (aW : Nat) (aS : Nat) (aB : Nat) (aF : Nat) (aH : Nat) (aL : Nat) (Ab : Int → Int) (Tm : Int → Int) (Wq : Int → Int) (Sp : Int → Int) (B : Int → Int) (Fo : Int → Int) (Ho : Int → Int) (Lt : Int → Int) (p0 : Int) (n0 : Int) (k0 : Int) (q : Int) (oT : Nat) (tB : Nat) (tF : Nat) (tH : Nat) (tL : Nat) (fT : Nat → AV) (TB : Int → Int) (TF : Int → Int) (TH : Int → Int) (TL : Int → Int) (t0 : Int) (t1 : Int) (t2 : Int) (t3 : Int) (hTo : Nat) (To : Int → Int) (rl : Int) (hf0 : f 3 = rv oW) (hf1 : f 7 = rv oS) (hf2 : f 9 = rv oP) (hf3 : f 8 = rv oT) (hf4 : fW 0 = iv pl) (hf5 : fP 0 = rv aA) (hf6 : fP 1 = rv aT) (hf7 : fP 2 = rv aW) (hf8 : fP 3 = rv aS) (hf9 : fS 0 = iv pl) (hf10 : fS 1 = iv n) (hf11 : fS 2 = iv ec) (hf12 : fS 3 = iv mk) (hf13 : fS 4 = rv aB) (hf14 : fS 5 = rv aF) (hf15 : fS 6 = rv aH) (hf16 : fS 7 = rv aL) (hf17 : fT 4 = rv tB) (hf18 : fT 5 = rv tF) (hf19 : fT 6 = rv tH) (hf20 : fT 7 = rv tL) (hf21 : f 6 = rv hTo) (hf22 : f 15 = iv rl) (hz : okZ pl n ec Fo Ho B Lt) (hx_q : inR q) (hto : 0 ≤ rl ∧ rl ≤ 20 ∧ ∀ k, 0 ≤ k → k < rl → (0 ≤ t3a To k ∧ t3a To k < pl) ∧ (0 ≤ t3b To k ∧ t3b To k ≤ 29) ∧ (0 ≤ t3c To k ∧ t3c To k ≤ 9999)) : AMi l yX11_fits cX11_fits 4 .int 5 0 0 [rv h0, iv q] [(h0, ob 10 f), (oW, ob 7 fW), (oP, ob 4 (uF (uF (uF fP 6 (iv p0)) 7 (iv n0)) 8 (iv k0))), (aA, ar 1206 Ab), (aT, ar 180 Tm), (aW, ar 6 Wq), (aS, ar 30 Sp), (oS, ob 5 fS), (aB, ar 6 B), (aF, ar 6 Fo), (aH, ar 6 Ho), (aL, ar 6 Lt), (oT, ob 5 (uF (uF (uF (uF fT 0 (iv t0)) 1 (iv t1)) 2 (iv t2)) 3 (iv t3))), (tB, ar 6 TB), (tF, ar 6 TF), (tH, ar 6 TH), (tL, ar 6 TL), (hTo, ar 60 To)] (fun z u => ∃ p9 : Int, ∃ n9 : Int, ∃ k9 : Int, ∃ A2 : Int → Int, ∃ T2 : Int → Int, ∃ W2 : Int → Int, ∃ S2 : Int → Int, ∃ t4 : Int, ∃ t5 : Int, ∃ t6 : Int, ∃ t7 : Int, ∃ B3 : Int → Int, ∃ F3 : Int → Int, ∃ H3 : Int → Int, ∃ L3 : Int → Int, z = aFits pl n ec mk Fo Ho B Lt rl (t3a To) (t3b To) (t3c To) q ∧ u = [(h0, ob 10 f), (oW, ob 7 fW), (oP, ob 4 (uF (uF (uF fP 6 (iv p9)) 7 (iv n9)) 8 (iv k9))), (aA, ar 1206 A2), (aT, ar 180 T2), (aW, ar 6 W2), (aS, ar 30 S2), (oS, ob 5 fS), (aB, ar 6 B), (aF, ar 6 Fo), (aH, ar 6 Ho), (aL, ar 6 Lt), (oT, ob 5 (uF (uF (uF (uF fT 0 (iv t4)) 1 (iv t5)) 2 (iv t6)) 3 (iv t7))), (tB, ar 6 B3), (tF, ar 6 F3), (tH, ar 6 H3), (tL, ar 6 L3), (hTo, ar 60 To)]) := by
  refine AMi.of2 rfl (nle rfl) ?_
  intro D G A p e s m args below meth c Po hPo X
  have hz6 := hz.2.1
  have hz0 := hz.1
  have hzn := hz.2.2.1
  have hzm := hz.2.2.2.1
  have hze := hz.2.2.2.2
  refine S_aload_n X dX11_fits_0 rfl rfl ?_
  refine S_iload_n X dX11_fits_1 rfl rfl ?_
  refine S_calli X (kX11_isPlayer l h0 f oW fW pl q hf0 hf4 (by omega) (by omega)) (is := [0, 1]) rfl (run_V X lkX11_147 0 rfl rfl (is := [0, 1]) (avs := [iv q]) (rest := []) rfl rfl (nle rfl) ⟨nle rfl, nle rfl⟩ ⟨nle rfl, nle rfl⟩ dX11_fits_2 (by decide) rfl) (fun z_3 u_1 hp_2 => ?_)
  rcases hp_2 with ⟨hz_4, hu_5, hp_6⟩ | ⟨hz_7, hu_8, hp_9⟩
  ·
    subst hz_4
    subst hu_5
    refine ⟨rfl, ?_⟩
    refine S_w (ws' := [(h0, ob 10 f), (oW, ob 7 fW), (oP, ob 4 (uF (uF (uF fP 6 (iv p0)) 7 (iv n0)) 8 (iv k0))), (aA, ar 1206 Ab), (aT, ar 180 Tm), (aW, ar 6 Wq), (aS, ar 30 Sp), (oS, ob 5 fS), (aB, ar 6 B), (aF, ar 6 Fo), (aH, ar 6 Ho), (aL, ar 6 Lt), (oT, ob 5 (uF (uF (uF (uF fT 0 (iv t0)) 1 (iv t1)) 2 (iv t2)) 3 (iv t3))), (tB, ar 6 TB), (tF, ar 6 TF), (tH, ar 6 TH), (tL, ar 6 TL), (hTo, ar 60 To)]) rfl ?_
    refine S_if_ne (tgt := 10) X dX11_fits_5 (by decide) (by decide) (fun h9 => absurd h9 (by decide)) (fun _ => ?_)
    refine S_iconst X dX11_fits_8 ?_
    exact S_iret X (nle rfl) (nle rfl) dX11_fits_9 (hPo _ _ (⟨_, _, _, _, _, _, _, _, _, _, _, _, _, _, _, by unfold aFits; rw [if_neg (by omega)], rfl⟩))
  ·
    subst hz_7
    subst hu_8
    refine ⟨rfl, ?_⟩
    refine S_w (ws' := [(h0, ob 10 f), (oW, ob 7 fW), (oP, ob 4 (uF (uF (uF fP 6 (iv p0)) 7 (iv n0)) 8 (iv k0))), (aA, ar 1206 Ab), (aT, ar 180 Tm), (aW, ar 6 Wq), (aS, ar 30 Sp), (oS, ob 5 fS), (aB, ar 6 B), (aF, ar 6 Fo), (aH, ar 6 Ho), (aL, ar 6 Lt), (oT, ob 5 (uF (uF (uF (uF fT 0 (iv t0)) 1 (iv t1)) 2 (iv t2)) 3 (iv t3))), (tB, ar 6 TB), (tF, ar 6 TF), (tH, ar 6 TH), (tL, ar 6 TL), (hTo, ar 60 To)]) rfl ?_
    refine S_if_ne (tgt := 10) X dX11_fits_5 (by decide) (by decide) (fun _ => ?_) (fun h9 => absurd h9 (by decide))
    have hok := hz.s (by omega)
    have hpl := hok.2.1
    have hpl1 := hok.1
    have hn1 := hok.2.2.1
    have hn2 := hok.2.2.2.1
    have hec := hok.2.2.2.2
    refine S_aload_n X dX11_fits_10 rfl rfl ?_
    refine S_get X fgX11_63_10 0 rfl hf3 dX11_fits_11 ?_
    refine S_aload_n X dX11_fits_14 rfl rfl ?_
    refine S_get X fgX11_59_10 0 rfl hf1 dX11_fits_15 ?_
    refine S_callv X (kX6_copyFrom l fS pl n ec mk oS aB aF aH aL B Fo Ho Lt oT tB tF tH tL fT TB TF TH TL t0 t1 t2 t3 hf9 hf10 hf11 hf12 hf13 hf14 hf15 hf16 hf17 hf18 hf19 hf20) (is := [12, 13, 14, 15, 16, 7, 8, 9, 10, 11]) rfl (run_V X lkX11_289 12 rfl rfl (is := [12, 13, 14, 15, 16, 7, 8, 9, 10, 11]) (avs := [rv oS]) (rest := []) rfl rfl (nle rfl) ⟨nle rfl, nle rfl⟩ ⟨nle rfl, nle rfl⟩ dX11_fits_18 (by decide) rfl) (fun u_12 hp_13 => ?_)
    obtain ⟨B2_15, F2_16, H2_17, L2_18, hu_20, hB2_21, hF2_22, hH2_23, hL2_24⟩ := hp_13
    subst hu_20
    refine ⟨rfl, ?_⟩
    refine S_w (ws' := [(h0, ob 10 f), (oW, ob 7 fW), (oP, ob 4 (uF (uF (uF fP 6 (iv p0)) 7 (iv n0)) 8 (iv k0))), (aA, ar 1206 Ab), (aT, ar 180 Tm), (aW, ar 6 Wq), (aS, ar 30 Sp), (oS, ob 5 fS), (aB, ar 6 B), (aF, ar 6 Fo), (aH, ar 6 Ho), (aL, ar 6 Lt), (oT, ob 5 (uF (uF (uF (uF fT 0 (iv pl)) 1 (iv n)) 2 (iv ec)) 3 (iv mk))), (tB, ar 6 B2_15), (tF, ar 6 F2_16), (tH, ar 6 H2_17), (tL, ar 6 L2_18), (hTo, ar 60 To)]) rfl ?_
    have hB9 := hB2_21
    have hF9 := hF2_22
    have hH9 := hH2_23
    have hL9 := hL2_24
    have hte := te_0 (pl := pl) (by omega) hB9 hF9 hH9 hL9
    refine S_iconst X dX11_fits_21 ?_
    refine S_istore_n X dX11_fits_22 rfl (nle rfl) ?_
    refine S_iconst X dX11_fits_23 ?_
    refine S_istore_n X dX11_fits_24 rfl (nle rfl) ?_
    have lp25_1 : ∀ (N : Nat) (fo : Int) (st : Int) (Fv : Int → Int) (Aw : Int → Int) (Tw : Int → Int) (Ww : Int → Int) (Sw : Int → Int) (pw : Int) (nw : Int) (kw : Int) (L : Nat → Option AV), -1 ≤ fo ∧ fo ≤ pl → (∀ x, uZ Fv q x = uZ F2_16 q x) → inR st → (fo = -1 ∧ st = 0) ∨ (0 ≤ fo ∧ st = fiB pl n ec mk Fo Ho B Lt rl (t3a To) (t3b To) (t3c To) q fo.toNat) → L 0 = some (rv h0) → L 1 = some (iv q) → L 2 = some (iv st) → L 3 = some (iv fo) → pl + 1 - fo < (N : Int) → S_ p l e (rmD 5 0 0) s m args below meth c (MQ below (QcI D G A Po) args s 0 0 A) D G A 4 0 0 25 L [] [(h0, ob 10 f), (oW, ob 7 fW), (oP, ob 4 (uF (uF (uF fP 6 (iv pw)) 7 (iv nw)) 8 (iv kw))), (aA, ar 1206 Aw), (aT, ar 180 Tw), (aW, ar 6 Ww), (aS, ar 30 Sw), (oS, ob 5 fS), (aB, ar 6 B), (aF, ar 6 Fo), (aH, ar 6 Ho), (aL, ar 6 Lt), (oT, ob 5 (uF (uF (uF (uF fT 0 (iv pl)) 1 (iv n)) 2 (iv ec)) 3 (iv mk))), (tB, ar 6 B2_15), (tF, ar 6 Fv), (tH, ar 6 H2_17), (tL, ar 6 L2_18), (hTo, ar 60 To)] := by
      intro N
      induction N with
      | zero =>
        intro fo st Fv Aw Tw Ww Sw pw nw kw L25 hf hFv hsr hfb hL25_0 hL25_1 hL25_2 hL25_3 hN25
        exfalso; omega
      | succ N ih25 =>
        intro fo st Fv Aw Tw Ww Sw pw nw kw L25 hf hFv hsr hfb hL25_0 hL25_1 hL25_2 hL25_3 hN25
        refine S_iload_n X dX11_fits_25 rfl hL25_3 ?_
        refine S_aload_n X dX11_fits_26 rfl hL25_0 ?_
        refine S_get X fgX11_35_10 0 rfl hf0 dX11_fits_27 ?_
        refine S_get X fgX11_115_7 1 rfl hf4 dX11_fits_30 ?_
        refine S_icmp_ge (tgt := 80) X dX11_fits_33 (by decide) (by omega) (by omega) (fun c_25 => ?_) (fun c_25 => ?_)
        ·
          refine S_iload_n X dX11_fits_80 rfl hL25_2 ?_
          exact S_iret X (nle rfl) (nle rfl) dX11_fits_81 (hPo _ _ (⟨_, _, _, _, _, _, _, _, _, _, _, _, _, _, _, by unfold aFits; rw [if_pos (by omega)]; rcases hfb with h9 | h9; (exfalso; omega); rw [h9.2, show fo = pl by omega], rfl⟩))
        ·
          refine S_aload_n X dX11_fits_36 rfl hL25_0 ?_
          refine S_get X fgX11_63_10 0 rfl hf3 dX11_fits_37 ?_
          refine S_get X fgX11_168_5 12 rfl hf18 dX11_fits_40 ?_
          refine S_iload_n X dX11_fits_43 rfl hL25_1 ?_
          refine S_iload_n X dX11_fits_44 rfl hL25_3 ?_
          refine S_iast X 14 rfl (by omega) (by omega) (nle rfl) dX11_fits_45 ?_
          refine S_w (ws' := [(h0, ob 10 f), (oW, ob 7 fW), (oP, ob 4 (uF (uF (uF fP 6 (iv pw)) 7 (iv nw)) 8 (iv kw))), (aA, ar 1206 Aw), (aT, ar 180 Tw), (aW, ar 6 Ww), (aS, ar 30 Sw), (oS, ob 5 fS), (aB, ar 6 B), (aF, ar 6 Fo), (aH, ar 6 Ho), (aL, ar 6 Lt), (oT, ob 5 (uF (uF (uF (uF fT 0 (iv pl)) 1 (iv n)) 2 (iv ec)) 3 (iv mk))), (tB, ar 6 B2_15), (tF, ar 6 (uZ Fv q fo)), (tH, ar 6 H2_17), (tL, ar 6 L2_18), (hTo, ar 60 To)]) rfl ?_
          refine S_iload_n X dX11_fits_46 rfl hL25_3 ?_
          refine S_iload_n X dX11_fits_47 rfl hL25_1 ?_
          refine S_icmp_eq (tgt := 74) X dX11_fits_48 (by decide) (by omega) (by omega) (fun c_26 => ?_) (fun c_26 => ?_)
          ·
            refine S_iinc X dX11_fits_74 (nle rfl) hL25_3 ?_
            refine S_goto (tgt := 25) X dX11_fits_77 (by decide) ?_
            exact ih25 (fo + 1) st (uZ Fv q fo) Aw Tw Ww Sw pw nw kw _ (by omega) (fun x => by first | (rw [uZ_twice]; exact hFv x) | exact hFv x) (by first | exact zOr_r _ _ | assumption) (fb_same (by omega) hfb (by omega)) hL25_0 hL25_1 hL25_2 rfl (by omega)
          ·
            refine S_aload_n X dX11_fits_51 rfl hL25_0 ?_
            refine S_calli X (kX11_isToldSo l h0 f fP (uF (uF (uF (uF fT 0 (iv pl)) 1 (iv n)) 2 (iv ec)) 3 (iv mk)) pl n ec mk oP oT aA aT aW aS tB tF tH tL Aw Tw Ww Sw B2_15 (uZ Fv q fo) H2_17 L2_18 pw nw kw hTo To rl hf2 hf3 hf21 hf22 hf5 hf6 hf7 hf8 rfl rfl rfl rfl hf17 hf18 hf19 hf20 (by rw [hFv]; exact (hok.fo (p := q) (v := fo) (by omega)).c (te_F hte)) hto) (is := [0, 2, 3, 4, 5, 6, 12, 13, 14, 15, 16, 17]) rfl (run_V X lkX11_292 0 rfl rfl (is := [0, 2, 3, 4, 5, 6, 12, 13, 14, 15, 16, 17]) (avs := []) (rest := []) rfl rfl (nle rfl) ⟨nle rfl, nle rfl⟩ ⟨nle rfl, nle rfl⟩ dX11_fits_52 (by decide) rfl) (fun z_29 u_27 hp_28 => ?_)
            rcases hp_28 with ⟨A2_30, T2_31, W2_32, S2_33, hz_34, hu_35, hq_36⟩ | ⟨A2_37, T2_38, W2_39, S2_40, hz_41, hu_42, hq_43⟩
            ·
              subst hz_34
              subst hu_35
              refine ⟨rfl, ?_⟩
              refine S_w (ws' := [(h0, ob 10 f), (oW, ob 7 fW), (oP, ob 4 (uF (uF (uF fP 6 (iv pl)) 7 (iv n)) 8 (iv mk))), (aA, ar 1206 A2_30), (aT, ar 180 T2_31), (aW, ar 6 W2_32), (aS, ar 30 S2_33), (oS, ob 5 fS), (aB, ar 6 B), (aF, ar 6 Fo), (aH, ar 6 Ho), (aL, ar 6 Lt), (oT, ob 5 (uF (uF (uF (uF fT 0 (iv pl)) 1 (iv n)) 2 (iv ec)) 3 (iv mk))), (tB, ar 6 B2_15), (tF, ar 6 (uZ Fv q fo)), (tH, ar 6 H2_17), (tL, ar 6 L2_18), (hTo, ar 60 To)]) rfl ?_
              have hq9 := hq_36
              rw [hFv, agR_c (hok.fo (p := q) (v := fo) (by omega)) (te_F hte) (fun k h0 h1 => ⟨(hto.2.2 k h0 h1).1, (hto.2.2 k h0 h1).2.1.1⟩)] at hq9
              have hq8 := agB_0 (pl := pl) (n := n) (ec := ec) (mk := mk) (Fo := Fo) (Ho := Ho) (B0 := B) (Lt := Lt) (rl := rl) (P1 := t3a To) (B1 := t3b To) (T1 := t3c To) (p := q) (f := fo) hq9
              refine S_if_eq (tgt := 74) X dX11_fits_55 (by decide) (by decide) (fun _ => ?_) (fun h9 => absurd h9 (by decide))
              refine S_iinc X dX11_fits_74 (nle rfl) hL25_3 ?_
              refine S_goto (tgt := 25) X dX11_fits_77 (by decide) ?_
              exact ih25 (fo + 1) st (uZ Fv q fo) A2_30 T2_31 W2_32 S2_33 pl n mk _ (by omega) (fun x => by first | (rw [uZ_twice]; exact hFv x) | exact hFv x) (by first | exact zOr_r _ _ | assumption) (fb_no2 (by omega) hfb hsr (by omega) hq8) hL25_0 hL25_1 hL25_2 rfl (by omega)
            ·
              subst hz_41
              subst hu_42
              refine ⟨rfl, ?_⟩
              refine S_w (ws' := [(h0, ob 10 f), (oW, ob 7 fW), (oP, ob 4 (uF (uF (uF fP 6 (iv pl)) 7 (iv n)) 8 (iv mk))), (aA, ar 1206 A2_37), (aT, ar 180 T2_38), (aW, ar 6 W2_39), (aS, ar 30 S2_40), (oS, ob 5 fS), (aB, ar 6 B), (aF, ar 6 Fo), (aH, ar 6 Ho), (aL, ar 6 Lt), (oT, ob 5 (uF (uF (uF (uF fT 0 (iv pl)) 1 (iv n)) 2 (iv ec)) 3 (iv mk))), (tB, ar 6 B2_15), (tF, ar 6 (uZ Fv q fo)), (tH, ar 6 H2_17), (tL, ar 6 L2_18), (hTo, ar 60 To)]) rfl ?_
              have hq9 := hq_43
              rw [hFv, agR_c (hok.fo (p := q) (v := fo) (by omega)) (te_F hte) (fun k h0 h1 => ⟨(hto.2.2 k h0 h1).1, (hto.2.2 k h0 h1).2.1.1⟩)] at hq9
              have hq8 := agB_1 (pl := pl) (n := n) (ec := ec) (mk := mk) (Fo := Fo) (Ho := Ho) (B0 := B) (Lt := Lt) (rl := rl) (P1 := t3a To) (B1 := t3b To) (T1 := t3c To) (p := q) (f := fo) hq9
              refine S_if_eq (tgt := 74) X dX11_fits_55 (by decide) (by decide) (fun h9 => absurd h9 (by decide)) (fun _ => ?_)
              refine S_iload_n X dX11_fits_58 rfl hL25_2 ?_
              refine S_iload_n X dX11_fits_59 rfl hL25_3 ?_
              refine S_iconst X dX11_fits_60 ?_
              refine S_icmp_ne (tgt := 69) X dX11_fits_61 (by decide) (by omega) (by decide) (fun c_46 => ?_) (fun c_46 => ?_)
              ·
                refine S_iconst X dX11_fits_69 ?_
                refine S_iload_n X dX11_fits_70 rfl hL25_3 ?_
                refine S_ishl X dX11_fits_71 ?_
                refine S_ior X dX11_fits_72 ?_
                refine S_istore_n X dX11_fits_73 rfl (nle rfl) ?_
                refine S_iinc X dX11_fits_74 (nle rfl) hL25_3 ?_
                refine S_goto (tgt := 25) X dX11_fits_77 (by decide) ?_
                exact ih25 (fo + 1) (zOr st (zShl 1 fo)) (uZ Fv q fo) A2_37 T2_38 W2_39 S2_40 pl n mk _ (by omega) (fun x => by first | (rw [uZ_twice]; exact hFv x) | exact hFv x) (by first | exact zOr_r _ _ | assumption) (fb_yes (by omega) hfb (by omega) hsr hq8) hL25_0 hL25_1 rfl rfl (by omega)
              ·
                refine S_bipush X dX11_fits_64 rfl ?_
                refine S_goto (tgt := 72) X dX11_fits_66 (by decide) ?_
                refine S_ior X dX11_fits_72 ?_
                refine S_istore_n X dX11_fits_73 rfl (nle rfl) ?_
                refine S_iinc X dX11_fits_74 (nle rfl) hL25_3 ?_
                refine S_goto (tgt := 25) X dX11_fits_77 (by decide) ?_
                exact ih25 (fo + 1) (zOr st 64) (uZ Fv q fo) A2_37 T2_38 W2_39 S2_40 pl n mk _ (by omega) (fun x => by first | (rw [uZ_twice]; exact hFv x) | exact hFv x) (by first | exact zOr_r _ _ | assumption) (fb_nb2 (by omega) hfb (by omega) hsr hq8) hL25_0 hL25_1 rfl rfl (by omega)
    exact lp25_1 (Int.toNat (pl + 1 - (-1)) + 1) (-1) 0 F2_16 Ab Tm Wq Sp p0 n0 k0 _ (by omega) (fun x => rfl) (by decide) (Or.inl ⟨rfl, rfl⟩) rfl rfl rfl rfl (by omega)
set_option maxHeartbeats 4000000 in
set_option maxRecDepth 100000 in
theorem kX3_endBetter (l : Launch) (oM : Nat) (fM : Nat → AV) (fe : Int) (bt : Int) (cn : Int) (b : Int) (hc : 0 ≤ cn ∧ cn ≤ 1000000000) (hb : inR b) (hfe : 0 ≤ fe ∧ fe ≤ 1000000000) (hbt : inR bt) : AMv l yX3_endBetter cX3_endBetter 3 0 0 0 [rv oM, iv cn, iv b] [(oM, ob 3 (uF (uF fM 0 (iv fe)) 1 (iv bt)))] (fun u => ∃ f2 : Int, ∃ b2 : Int, u = [(oM, ob 3 (uF (uF fM 0 (iv f2)) 1 (iv b2)))] ∧ (0 ≤ f2 ∧ f2 ≤ 1000000000) ∧ inR b2) := by
  refine AMv.of2 rfl (nle rfl) ?_
  intro D G A p e s m args below meth c Po hPo hnm X
  refine S_iload_n X dX3_endBetter_0 rfl rfl ?_
  refine S_aload_n X dX3_endBetter_1 rfl rfl ?_
  refine S_get (v := iv fe) X fgX3_28_3 0 rfl rfl dX3_endBetter_2 ?_
  refine S_icmp_lt (tgt := 24) X dX3_endBetter_5 (by decide) (by omega) (by omega) (fun c_1 => ?_) (fun c_1 => ?_)
  ·
    refine S_aload_n X dX3_endBetter_24 rfl rfl ?_
    refine S_iload_n X dX3_endBetter_25 rfl rfl ?_
    refine S_put X fpX3_28_3 0 rfl FT_i dX3_endBetter_26 ?_
    refine S_w (ws' := [(oM, ob 3 (uF (uF fM 0 (iv cn)) 1 (iv bt)))]) (by simp only [List.set]; rw [uF_mv (j := 1) (k := 0) (by decide), uF_same (k := 0)]) ?_
    refine S_aload_n X dX3_endBetter_29 rfl rfl ?_
    refine S_iload_n X dX3_endBetter_30 rfl rfl ?_
    refine S_put X fpX3_32_3 0 rfl FT_i dX3_endBetter_31 ?_
    refine S_w (ws' := [(oM, ob 3 (uF (uF fM 0 (iv cn)) 1 (iv b)))]) (by simp only [List.set]; rw [uF_same (k := 1)]) ?_
    exact S_vret X (nle rfl) (nle rfl) dX3_endBetter_34 (hPo _ (⟨_, _, rfl, by omega, by first | exact hb | exact hbt⟩))
  ·
    refine S_iload_n X dX3_endBetter_8 rfl rfl ?_
    refine S_aload_n X dX3_endBetter_9 rfl rfl ?_
    refine S_get (v := iv fe) X fgX3_28_3 0 rfl rfl dX3_endBetter_10 ?_
    refine S_icmp_ne (tgt := 34) X dX3_endBetter_13 (by decide) (by omega) (by omega) (fun c_2 => ?_) (fun c_2 => ?_)
    ·
      exact S_vret X (nle rfl) (nle rfl) dX3_endBetter_34 (hPo _ (⟨_, _, rfl, by omega, by first | exact hb | exact hbt⟩))
    ·
      refine S_iload_n X dX3_endBetter_16 rfl rfl ?_
      refine S_aload_n X dX3_endBetter_17 rfl rfl ?_
      refine S_get (v := iv bt) X fgX3_32_3 0 rfl rfl dX3_endBetter_18 ?_
      refine S_icmp_ge (tgt := 34) X dX3_endBetter_21 (by decide) (by omega) (by omega) (fun c_3 => ?_) (fun c_3 => ?_)
      ·
        exact S_vret X (nle rfl) (nle rfl) dX3_endBetter_34 (hPo _ (⟨_, _, rfl, by omega, by first | exact hb | exact hbt⟩))
      ·
        refine S_aload_n X dX3_endBetter_24 rfl rfl ?_
        refine S_iload_n X dX3_endBetter_25 rfl rfl ?_
        refine S_put X fpX3_28_3 0 rfl FT_i dX3_endBetter_26 ?_
        refine S_w (ws' := [(oM, ob 3 (uF (uF fM 0 (iv cn)) 1 (iv bt)))]) (by simp only [List.set]; rw [uF_mv (j := 1) (k := 0) (by decide), uF_same (k := 0)]) ?_
        refine S_aload_n X dX3_endBetter_29 rfl rfl ?_
        refine S_iload_n X dX3_endBetter_30 rfl rfl ?_
        refine S_put X fpX3_32_3 0 rfl FT_i dX3_endBetter_31 ?_
        refine S_w (ws' := [(oM, ob 3 (uF (uF fM 0 (iv cn)) 1 (iv b)))]) (by simp only [List.set]; rw [uF_same (k := 1)]) ?_
        exact S_vret X (nle rfl) (nle rfl) dX3_endBetter_34 (hPo _ (⟨_, _, rfl, by omega, by first | exact hb | exact hbt⟩))
set_option maxHeartbeats 4000000 in
set_option maxRecDepth 100000 in
theorem kX3_markBetter (l : Launch) (oM : Nat) (fM : Nat → AV) (mC : Nat) (mM : Nat) (Cn : Int → Int) (Mm : Int → Int) (fe : Int) (bt : Int) (b : Int) (cn : Int) (bs : Int) (hf0 : fM 2 = rv mC) (hf1 : fM 3 = rv mM) (hc : 0 ≤ cn ∧ cn ≤ 1000000000) (hb : inR bs) (hbr : 0 ≤ b ∧ b ≤ 29) (hCr : ∀ x, 0 ≤ x → x < 31 → 0 ≤ Cn x ∧ Cn x ≤ 1000000000) (hMr : ∀ x, 0 ≤ x → x < 31 → inR (Mm x)) : AMv l yX3_markBetter cX3_markBetter 4 0 0 0 [rv oM, iv b, iv cn, iv bs] [(oM, ob 3 (uF (uF fM 0 (iv fe)) 1 (iv bt))), (mC, ar 31 Cn), (mM, ar 31 Mm)] (fun u => ∃ Cn2 : Int → Int, ∃ Mm2 : Int → Int, u = [(oM, ob 3 (uF (uF fM 0 (iv fe)) 1 (iv bt))), (mC, ar 31 Cn2), (mM, ar 31 Mm2)] ∧ (∀ x, 0 ≤ x → x < 31 → 0 ≤ Cn2 x ∧ Cn2 x ≤ 1000000000) ∧ (∀ x, 0 ≤ x → x < 31 → inR (Mm2 x)) ∧ (∀ x, x ≤ b → Cn2 x = Cn x)) := by
  refine AMv.of2 rfl (nle rfl) ?_
  intro D G A p e s m args below meth c Po hPo hnm X
  have hC9 := hCr (b + 1) (by omega) (by omega)
  have hM9 := hMr (b + 1) (by omega) (by omega)
  refine S_iload_n X dX3_markBetter_0 rfl rfl ?_
  refine S_aload_n X dX3_markBetter_1 rfl rfl ?_
  refine S_get X fgX3_9_3 0 rfl hf0 dX3_markBetter_2 ?_
  refine S_iload_n X dX3_markBetter_5 rfl rfl ?_
  refine S_iconst X dX3_markBetter_6 ?_
  refine S_iadd X dX3_markBetter_7 ?_
  refine S_iald X 1 rfl (by omega) (by omega) (nle rfl) dX3_markBetter_8 ?_
  refine S_icmp_lt (tgt := 36) X dX3_markBetter_9 (by decide) (by omega) (by omega) (fun c_1 => ?_) (fun c_1 => ?_)
  ·
    refine S_aload_n X dX3_markBetter_36 rfl rfl ?_
    refine S_get X fgX3_9_3 0 rfl hf0 dX3_markBetter_37 ?_
    refine S_iload_n X dX3_markBetter_40 rfl rfl ?_
    refine S_iconst X dX3_markBetter_41 ?_
    refine S_iadd X dX3_markBetter_42 ?_
    refine S_iload_n X dX3_markBetter_43 rfl rfl ?_
    refine S_iast X 1 rfl (by omega) (by omega) (nle rfl) dX3_markBetter_44 ?_
    refine S_w (ws' := [(oM, ob 3 (uF (uF fM 0 (iv fe)) 1 (iv bt))), (mC, ar 31 (uZ Cn (b + 1) cn)), (mM, ar 31 Mm)]) rfl ?_
    refine S_aload_n X dX3_markBetter_45 rfl rfl ?_
    refine S_get X fgX3_15_3 0 rfl hf1 dX3_markBetter_46 ?_
    refine S_iload_n X dX3_markBetter_49 rfl rfl ?_
    refine S_iconst X dX3_markBetter_50 ?_
    refine S_iadd X dX3_markBetter_51 ?_
    refine S_iload_n X dX3_markBetter_52 rfl rfl ?_
    refine S_iast X 2 rfl (by omega) (by omega) (nle rfl) dX3_markBetter_53 ?_
    refine S_w (ws' := [(oM, ob 3 (uF (uF fM 0 (iv fe)) 1 (iv bt))), (mC, ar 31 (uZ Cn (b + 1) cn)), (mM, ar 31 (uZ Mm (b + 1) bs))]) rfl ?_
    exact S_vret X (nle rfl) (nle rfl) dX3_markBetter_54 (hPo _ (⟨_, _, rfl, fun x h0 h1 => by unfold uZ; split; omega; exact hCr x h0 h1, fun x h0 h1 => by unfold uZ; split; exact hb; exact hMr x h0 h1, fun x h => by rw [uZ_ne (by omega)]⟩))
  ·
    refine S_iload_n X dX3_markBetter_12 rfl rfl ?_
    refine S_aload_n X dX3_markBetter_13 rfl rfl ?_
    refine S_get X fgX3_9_3 0 rfl hf0 dX3_markBetter_14 ?_
    refine S_iload_n X dX3_markBetter_17 rfl rfl ?_
    refine S_iconst X dX3_markBetter_18 ?_
    refine S_iadd X dX3_markBetter_19 ?_
    refine S_iald X 1 rfl (by omega) (by omega) (nle rfl) dX3_markBetter_20 ?_
    refine S_icmp_ne (tgt := 54) X dX3_markBetter_21 (by decide) (by omega) (by omega) (fun c_2 => ?_) (fun c_2 => ?_)
    ·
      exact S_vret X (nle rfl) (nle rfl) dX3_markBetter_54 (hPo _ (⟨_, _, rfl, hCr, hMr, fun x h => by rfl⟩))
    ·
      refine S_iload_n X dX3_markBetter_24 rfl rfl ?_
      refine S_aload_n X dX3_markBetter_25 rfl rfl ?_
      refine S_get X fgX3_15_3 0 rfl hf1 dX3_markBetter_26 ?_
      refine S_iload_n X dX3_markBetter_29 rfl rfl ?_
      refine S_iconst X dX3_markBetter_30 ?_
      refine S_iadd X dX3_markBetter_31 ?_
      refine S_iald X 2 rfl (by omega) (by omega) (nle rfl) dX3_markBetter_32 ?_
      refine S_icmp_ge (tgt := 54) X dX3_markBetter_33 (by decide) (by omega) (by omega) (fun c_3 => ?_) (fun c_3 => ?_)
      ·
        exact S_vret X (nle rfl) (nle rfl) dX3_markBetter_54 (hPo _ (⟨_, _, rfl, hCr, hMr, fun x h => by rfl⟩))
      ·
        refine S_aload_n X dX3_markBetter_36 rfl rfl ?_
        refine S_get X fgX3_9_3 0 rfl hf0 dX3_markBetter_37 ?_
        refine S_iload_n X dX3_markBetter_40 rfl rfl ?_
        refine S_iconst X dX3_markBetter_41 ?_
        refine S_iadd X dX3_markBetter_42 ?_
        refine S_iload_n X dX3_markBetter_43 rfl rfl ?_
        refine S_iast X 1 rfl (by omega) (by omega) (nle rfl) dX3_markBetter_44 ?_
        refine S_w (ws' := [(oM, ob 3 (uF (uF fM 0 (iv fe)) 1 (iv bt))), (mC, ar 31 (uZ Cn (b + 1) cn)), (mM, ar 31 Mm)]) rfl ?_
        refine S_aload_n X dX3_markBetter_45 rfl rfl ?_
        refine S_get X fgX3_15_3 0 rfl hf1 dX3_markBetter_46 ?_
        refine S_iload_n X dX3_markBetter_49 rfl rfl ?_
        refine S_iconst X dX3_markBetter_50 ?_
        refine S_iadd X dX3_markBetter_51 ?_
        refine S_iload_n X dX3_markBetter_52 rfl rfl ?_
        refine S_iast X 2 rfl (by omega) (by omega) (nle rfl) dX3_markBetter_53 ?_
        refine S_w (ws' := [(oM, ob 3 (uF (uF fM 0 (iv fe)) 1 (iv bt))), (mC, ar 31 (uZ Cn (b + 1) cn)), (mM, ar 31 (uZ Mm (b + 1) bs))]) rfl ?_
        exact S_vret X (nle rfl) (nle rfl) dX3_markBetter_54 (hPo _ (⟨_, _, rfl, fun x h0 h1 => by unfold uZ; split; omega; exact hCr x h0 h1, fun x h0 h1 => by unfold uZ; split; exact hb; exact hMr x h0 h1, fun x h => by rw [uZ_ne (by omega)]⟩))
set_option maxHeartbeats 4000000 in
set_option maxRecDepth 100000 in
theorem kX3_spreadBehind (l : Launch) (oM : Nat) (fM : Nat → AV) (mS : Nat) (Sm : Int → Int) (fP : Nat → AV) (fS : Nat → AV) (pl : Int) (n : Int) (ec : Int) (oP : Nat) (oS : Nat) (aA : Nat) (aL : Nat) (Ab : Int → Int) (B : Int → Int) (Fo : Int → Int) (Ho : Int → Int) (Lt : Int → Int) (b : Int) (hf0 : fM 4 = rv mS) (hf1 : fP 0 = rv aA) (hf2 : fS 0 = iv pl) (hf3 : fS 7 = rv aL) (hok : okS pl n ec Fo Ho B Lt) (hA2 : reg Ab (bF ec Fo Ho B) pl n 0) (hb : 0 ≤ b ∧ b < n) (hS : ∀ x, 0 ≤ x → x < 6 → 0 ≤ Sm x ∧ Sm x ≤ 1000 * b) : AMi l yX3_spreadBehind cX3_spreadBehind 7 .int 1 0 0 [rv oM, iv b, rv oP, rv oS] [(oM, ob 3 fM), (mS, ar 6 Sm), (oP, ob 4 fP), (aA, ar 1206 Ab), (oS, ob 5 fS), (aL, ar 6 Lt)] (fun z u => ∃ z9 : Int, ∃ Sm2 : Int → Int, z = z9 ∧ u = [(oM, ob 3 fM), (mS, ar 6 Sm2), (oP, ob 4 fP), (aA, ar 1206 Ab), (oS, ob 5 fS), (aL, ar 6 Lt)] ∧ inR z9 ∧ (∀ x, 0 ≤ x → x < 6 → 0 ≤ Sm2 x ∧ Sm2 x ≤ 1000 * (b + 1))) := by
  refine AMi.of2 rfl (nle rfl) ?_
  intro D G A p e s m args below meth c Po hPo X
  have hpl := hok.2.1
  have hpl1 := hok.1
  have hn1 := hok.2.2.1
  have hn2 := hok.2.2.2.1
  have hec := hok.2.2.2.2
  refine S_iconst X dX3_spreadBehind_0 ?_
  refine S_istore X dX3_spreadBehind_1 (nle rfl) ?_
  refine S_ldc (n := 1000000000) X m1011 dX3_spreadBehind_3 ?_
  refine S_istore X dX3_spreadBehind_5 (nle rfl) ?_
  refine S_iconst X dX3_spreadBehind_7 ?_
  refine S_istore X dX3_spreadBehind_8 (nle rfl) ?_
  have lp10_0 : ∀ (N : Nat) (i : Int) (g : Int) (le : Int) (Sv : Int → Int) (L : Nat → Option AV), 0 ≤ i ∧ i ≤ pl → 0 ≤ g ∧ g ≤ 100000 → 0 ≤ le ∧ le ≤ 1000000000 → (∀ x, 0 ≤ x → x < 6 → 0 ≤ Sv x ∧ Sv x ≤ 1000 * (b + 1) ∧ (i ≤ x → Sv x ≤ 1000 * b)) → L 0 = some (rv oM) → L 1 = some (iv b) → L 2 = some (rv oP) → L 3 = some (rv oS) → L 4 = some (iv g) → L 5 = some (iv le) → L 6 = some (iv i) → pl + 1 - i < (N : Int) → S_ p l e (rmD 1 0 0) s m args below meth c (MQ below (QcI D G A Po) args s 0 0 A) D G A 7 0 0 10 L [] [(oM, ob 3 fM), (mS, ar 6 Sv), (oP, ob 4 fP), (aA, ar 1206 Ab), (oS, ob 5 fS), (aL, ar 6 Lt)] := by
    intro N
    induction N with
    | zero =>
      intro i g le Sv L10 hi hg hle hSv hL10_0 hL10_1 hL10_2 hL10_3 hL10_4 hL10_5 hL10_6 hN10
      exfalso; omega
    | succ N ih10 =>
      intro i g le Sv L10 hi hg hle hSv hL10_0 hL10_1 hL10_2 hL10_3 hL10_4 hL10_5 hL10_6 hN10
      refine S_iload X dX3_spreadBehind_10 hL10_6 ?_
      refine S_aload_n X dX3_spreadBehind_12 rfl hL10_3 ?_
      refine S_get X fgX3_56_5 4 rfl hf2 dX3_spreadBehind_13 ?_
      refine S_icmp_ge (tgt := 78) X dX3_spreadBehind_16 (by decide) (by omega) (by omega) (fun c_1 => ?_) (fun c_1 => ?_)
      ·
        refine S_iload X dX3_spreadBehind_78 hL10_4 ?_
        refine S_iload X dX3_spreadBehind_80 hL10_5 ?_
        refine S_isub X dX3_spreadBehind_82 ?_
        exact S_iret X (nle rfl) (nle rfl) dX3_spreadBehind_83 (hPo _ _ (⟨_, _, rfl, rfl, by omega, fun x h0 h1 => by have := hSv x h0 h1; omega⟩))
      ·
        have hS9 := hSv i (by omega) (by omega)
        have hL1 := (hok.2.2.2.2.2.2 i (by omega) (by omega)).2.2.2
        have hB1 := hok.beat b i (by omega) (by omega) (by omega)
        have hA1 := hA2.at (z := b * 6 + i) (x := b) (y := i) (by omega) (by omega) (by omega) (by omega) (by omega)
        refine S_aload_n X dX3_spreadBehind_19 rfl hL10_0 ?_
        refine S_get X fgX3_18_3 0 rfl hf0 dX3_spreadBehind_20 ?_
        refine S_iload X dX3_spreadBehind_23 hL10_6 ?_
        refine S_dup2 X dX3_spreadBehind_25 ?_
        refine S_iald X 1 rfl (by omega) (by omega) (nle rfl) dX3_spreadBehind_26 ?_
        refine S_aload_n X dX3_spreadBehind_27 rfl hL10_2 ?_
        refine S_iload X dX3_spreadBehind_28 hL10_6 ?_
        refine S_iload_n X dX3_spreadBehind_30 rfl hL10_1 ?_
        refine S_calli X (kX4_beatIn l fP oP aA Ab i b hf1 (by omega)) (is := [2, 3]) rfl (run_V X lkX3_59 2 rfl rfl (is := [2, 3]) (avs := [iv i, iv b]) (rest := [iv (Sv i), iv i, rv mS]) rfl rfl (nle rfl) ⟨nle rfl, nle rfl⟩ ⟨nle rfl, nle rfl⟩ dX3_spreadBehind_31 (by decide) rfl) (fun z_4 u_2 hp_3 => ?_)
        obtain ⟨hz_5, hu_6⟩ := hp_3
        subst hz_5
        subst hu_6
        refine ⟨rfl, ?_⟩
        refine S_w (ws' := [(oM, ob 3 fM), (mS, ar 6 Sv), (oP, ob 4 fP), (aA, ar 1206 Ab), (oS, ob 5 fS), (aL, ar 6 Lt)]) rfl ?_
        refine S_aload_n X dX3_spreadBehind_34 rfl hL10_3 ?_
        refine S_get X fgX3_65_5 4 rfl hf3 dX3_spreadBehind_35 ?_
        refine S_iload X dX3_spreadBehind_38 hL10_6 ?_
        refine S_iald X 5 rfl (by omega) (by omega) (nle rfl) dX3_spreadBehind_40 ?_
        refine S_iadd X dX3_spreadBehind_41 ?_
        refine S_iadd X dX3_spreadBehind_42 ?_
        refine S_iast X 1 rfl (by omega) (by omega) (nle rfl) dX3_spreadBehind_43 ?_
        refine S_w (ws' := [(oM, ob 3 fM), (mS, ar 6 (uZ Sv i ((Sv i) + ((Ab (b * 6 + i)) + (Lt i))))), (oP, ob 4 fP), (aA, ar 1206 Ab), (oS, ob 5 fS), (aL, ar 6 Lt)]) rfl ?_
        have hu9 : (uZ Sv i ((Sv i) + ((Ab (b * 6 + i)) + (Lt i)))) i = ((Sv i) + ((Ab (b * 6 + i)) + (Lt i))) := uZ_at
        refine S_iload X dX3_spreadBehind_44 hL10_4 ?_
        refine S_aload_n X dX3_spreadBehind_46 rfl hL10_0 ?_
        refine S_get X fgX3_18_3 0 rfl hf0 dX3_spreadBehind_47 ?_
        refine S_iload X dX3_spreadBehind_50 hL10_6 ?_
        refine S_iald X 1 rfl (by omega) (by omega) (nle rfl) dX3_spreadBehind_52 ?_
        refine S_mmax X lkX3_68 rfl rfl (by omega) (by omega) (nle rfl) (nle rfl) (nle rfl) (nle rfl) dX3_spreadBehind_53 ?_
        refine S_istore X dX3_spreadBehind_56 (nle rfl) ?_
        refine S_iload X dX3_spreadBehind_58 hL10_5 ?_
        refine S_aload_n X dX3_spreadBehind_60 rfl hL10_0 ?_
        refine S_get X fgX3_18_3 0 rfl hf0 dX3_spreadBehind_61 ?_
        refine S_iload X dX3_spreadBehind_64 hL10_6 ?_
        refine S_iald X 1 rfl (by omega) (by omega) (nle rfl) dX3_spreadBehind_66 ?_
        refine S_mmin X lkX3_73 rfl rfl (by omega) (by omega) (nle rfl) (nle rfl) (nle rfl) (nle rfl) dX3_spreadBehind_67 ?_
        refine S_istore X dX3_spreadBehind_70 (nle rfl) ?_
        refine S_iinc X dX3_spreadBehind_72 (nle rfl) hL10_6 ?_
        refine S_goto (tgt := 10) X dX3_spreadBehind_75 (by decide) ?_
        exact ih10 (i + 1) (max g ((uZ Sv i ((Sv i) + ((Ab (b * 6 + i)) + (Lt i)))) i)) (min le ((uZ Sv i ((Sv i) + ((Ab (b * 6 + i)) + (Lt i)))) i)) (uZ Sv i ((Sv i) + ((Ab (b * 6 + i)) + (Lt i)))) _ (by omega) (by omega) (by omega) (fun x h0 h1 => by have := hSv x h0 h1; unfold uZ; split <;> omega) hL10_0 hL10_1 hL10_2 hL10_3 rfl rfl rfl (by omega)
  exact lp10_0 (Int.toNat (pl + 1 - 0) + 1) 0 0 1000000000 Sm _ (by omega) (by omega) (by omega) (fun x h0 h1 => by have := hS x h0 h1; omega) rfl rfl rfl rfl rfl rfl rfl (by omega)
set_option maxHeartbeats 4000000 in
set_option maxRecDepth 100000 in
theorem kX3_goOnFrom (l : Launch) (oM : Nat) (fM : Nat → AV) (mC : Nat) (mM : Nat) (mS : Nat) (Cn : Int → Int) (Mm : Int → Int) (Sm : Int → Int) (fe : Int) (bt : Int) (fP : Nat → AV) (fS : Nat → AV) (pl : Int) (n : Int) (ec : Int) (oP : Nat) (oS : Nat) (aA : Nat) (aL : Nat) (Ab : Int → Int) (B : Int → Int) (Fo : Int → Int) (Ho : Int → Int) (Lt : Int → Int) (i0 : Int) (lim : Int) (hf0 : fM 2 = rv mC) (hf1 : fM 3 = rv mM) (hf2 : fM 4 = rv mS) (hf3 : fP 0 = rv aA) (hf4 : fS 0 = iv pl) (hf5 : fS 1 = iv n) (hf6 : fS 7 = rv aL) (hok : okS pl n ec Fo Ho B Lt) (hA2 : reg Ab (bF ec Fo Ho B) pl n 0) (hfe : 0 ≤ fe ∧ fe ≤ 1000000000) (hbt : inR bt) (hCr : ∀ x, 0 ≤ x → x < 31 → 0 ≤ Cn x ∧ Cn x ≤ 1000000000) (hMr : ∀ x, 0 ≤ x → x < 31 → inR (Mm x)) (hi0 : 0 ≤ i0 ∧ i0 < n) (hci : Cn i0 < 1000000000) (hlim : inR lim) : AMv l yX3_goOnFrom cX3_goOnFrom 6 2 0 0 [rv oM, iv i0, rv oP, rv oS, iv lim] [(oM, ob 3 (uF (uF fM 0 (iv fe)) 1 (iv bt))), (mC, ar 31 Cn), (mM, ar 31 Mm), (mS, ar 6 Sm), (oP, ob 4 fP), (aA, ar 1206 Ab), (oS, ob 5 fS), (aL, ar 6 Lt)] (fun u => ∃ f2 : Int, ∃ b2 : Int, ∃ Cn2 : Int → Int, ∃ Mm2 : Int → Int, ∃ Sm2 : Int → Int, u = [(oM, ob 3 (uF (uF fM 0 (iv f2)) 1 (iv b2))), (mC, ar 31 Cn2), (mM, ar 31 Mm2), (mS, ar 6 Sm2), (oP, ob 4 fP), (aA, ar 1206 Ab), (oS, ob 5 fS), (aL, ar 6 Lt)] ∧ (0 ≤ f2 ∧ f2 ≤ 1000000000) ∧ inR b2 ∧ (∀ x, 0 ≤ x → x < 31 → 0 ≤ Cn2 x ∧ Cn2 x ≤ 1000000000) ∧ (∀ x, 0 ≤ x → x < 31 → inR (Mm2 x))) := by
  refine AMv.of2 rfl (nle rfl) ?_
  intro D G A p e s m args below meth c Po hPo hnm X
  have hpl := hok.2.1
  have hpl1 := hok.1
  have hn1 := hok.2.2.1
  have hn2 := hok.2.2.2.1
  have hec := hok.2.2.2.2
  refine S_aload_n X dX3_goOnFrom_0 rfl rfl ?_
  refine S_get X fgX3_18_3 0 rfl hf2 dX3_goOnFrom_1 ?_
  refine S_iconst X dX3_goOnFrom_4 ?_
  refine S_callv X (kJ7_fill_53178 l mS 6 Sm 0 (by decide)) (is := [3]) rfl (run_S X lkX3_22 (is := [3]) (avs := [rv mS, iv 0]) (rest := []) rfl rfl (nle rfl) ⟨nle rfl, nle rfl⟩ ⟨nle rfl, nle rfl⟩ dX3_goOnFrom_5 (by decide) rfl) (fun u_1 hp_2 => ?_)
  obtain ⟨g2_4, hu_6, hg2_7⟩ := hp_2
  subst hu_6
  refine ⟨rfl, ?_⟩
  refine S_w (ws' := [(oM, ob 3 (uF (uF fM 0 (iv fe)) 1 (iv bt))), (mC, ar 31 Cn), (mM, ar 31 Mm), (mS, ar 6 g2_4), (oP, ob 4 fP), (aA, ar 1206 Ab), (oS, ob 5 fS), (aL, ar 6 Lt)]) rfl ?_
  have hg0 := hg2_7
  refine S_iload_n X dX3_goOnFrom_8 rfl rfl ?_
  refine S_istore X dX3_goOnFrom_9 (nle rfl) ?_
  have lp11_0 : ∀ (N : Nat) (b : Int) (f9 : Int) (b9 : Int) (Cv : Int → Int) (Mv : Int → Int) (Sv : Int → Int) (L : Nat → Option AV), i0 ≤ b ∧ b ≤ n → 0 ≤ f9 ∧ f9 ≤ 1000000000 → inR b9 → (∀ x, 0 ≤ x → x < 31 → 0 ≤ Cv x ∧ Cv x ≤ 1000000000) → (∀ x, 0 ≤ x → x < 31 → inR (Mv x)) → (∀ x, 0 ≤ x → x < 6 → 0 ≤ Sv x ∧ Sv x ≤ 1000 * b) → Cv i0 < 1000000000 → L 0 = some (rv oM) → L 1 = some (iv i0) → L 2 = some (rv oP) → L 3 = some (rv oS) → L 4 = some (iv lim) → L 5 = some (iv b) → n + 1 - b < (N : Int) → S_ p l e (rmD 2 0 0) s m args below meth c (MQ below (QcV D G A Po) args s 0 0 A) D G A 6 0 0 11 L [] [(oM, ob 3 (uF (uF fM 0 (iv f9)) 1 (iv b9))), (mC, ar 31 Cv), (mM, ar 31 Mv), (mS, ar 6 Sv), (oP, ob 4 fP), (aA, ar 1206 Ab), (oS, ob 5 fS), (aL, ar 6 Lt)] := by
    intro N
    induction N with
    | zero =>
      intro b f9 b9 Cv Mv Sv L11 hb hfe9 hbt9 hCv hMv hSv hci9 hL11_0 hL11_1 hL11_2 hL11_3 hL11_4 hL11_5 hN11
      exfalso; omega
    | succ N ih11 =>
      intro b f9 b9 Cv Mv Sv L11 hb hfe9 hbt9 hCv hMv hSv hci9 hL11_0 hL11_1 hL11_2 hL11_3 hL11_4 hL11_5 hN11
      refine S_iload X dX3_goOnFrom_11 hL11_5 ?_
      refine S_aload_n X dX3_goOnFrom_13 rfl hL11_3 ?_
      refine S_get X fgX3_35_5 6 rfl hf5 dX3_goOnFrom_14 ?_
      refine S_icmp_ge (tgt := 102) X dX3_goOnFrom_17 (by decide) (by omega) (by omega) (fun c_8 => ?_) (fun c_8 => ?_)
      ·
        exact S_vret X (nle rfl) (nle rfl) dX3_goOnFrom_102 (hPo _ (⟨_, _, _, _, _, rfl, hfe9, hbt9, hCv, hMv⟩))
      ·
        refine S_iload X dX3_goOnFrom_20 hL11_5 ?_
        have hc0 := hCv i0 (by omega) (by omega)
        have hm0 := hMv i0 (by omega) (by omega)
        refine S_bipush X dX3_goOnFrom_22 rfl ?_
        refine S_icmp_ge (tgt := 102) X dX3_goOnFrom_24 (by decide) (by omega) (by decide) (fun c_9 => ?_) (fun c_9 => ?_)
        ·
          exact S_vret X (nle rfl) (nle rfl) dX3_goOnFrom_102 (hPo _ (⟨_, _, _, _, _, rfl, hfe9, hbt9, hCv, hMv⟩))
        ·
          refine S_aload_n X dX3_goOnFrom_27 rfl hL11_0 ?_
          refine S_iload X dX3_goOnFrom_28 hL11_5 ?_
          refine S_aload_n X dX3_goOnFrom_30 rfl hL11_2 ?_
          refine S_aload_n X dX3_goOnFrom_31 rfl hL11_3 ?_
          refine S_calli X (kX3_spreadBehind l oM (uF (uF fM 0 (iv f9)) 1 (iv b9)) mS Sv fP fS pl n ec oP oS aA aL Ab B Fo Ho Lt b hf2 hf3 hf4 hf6 hok hA2 (by omega) hSv) (is := [0, 3, 4, 5, 6, 7]) rfl (run_V X lkX3_44 0 rfl rfl (is := [0, 3, 4, 5, 6, 7]) (avs := [iv b, rv oP, rv oS]) (rest := []) rfl rfl (nle rfl) ⟨nle rfl, nle rfl⟩ ⟨nle rfl, nle rfl⟩ dX3_goOnFrom_32 (by decide) rfl) (fun z_12 u_10 hp_11 => ?_)
          obtain ⟨z9_13, Sm2_14, hz_15, hu_16, hz9_17, h2_18⟩ := hp_11
          subst hz_15
          subst hu_16
          refine ⟨rfl, ?_⟩
          refine S_w (ws' := [(oM, ob 3 (uF (uF fM 0 (iv f9)) 1 (iv b9))), (mC, ar 31 Cv), (mM, ar 31 Mv), (mS, ar 6 Sm2_14), (oP, ob 4 fP), (aA, ar 1206 Ab), (oS, ob 5 fS), (aL, ar 6 Lt)]) rfl ?_
          have hz8 := hz9_17
          have hS8 := h2_18
          refine S_iload X dX3_goOnFrom_35 hL11_4 ?_
          refine S_icmp_le (tgt := 41) X dX3_goOnFrom_37 (by decide) (by omega) (by omega) (fun c_19 => ?_) (fun c_19 => ?_)
          ·
            refine S_iload X dX3_goOnFrom_41 hL11_5 ?_
            refine S_aload_n X dX3_goOnFrom_43 rfl hL11_3 ?_
            refine S_get X fgX3_35_5 6 rfl hf5 dX3_goOnFrom_44 ?_
            refine S_iconst X dX3_goOnFrom_47 ?_
            refine S_isub X dX3_goOnFrom_48 ?_
            refine S_icmp_ne (tgt := 71) X dX3_goOnFrom_49 (by decide) (by omega) (by omega) (fun c_20 => ?_) (fun c_20 => ?_)
            ·
              refine S_aload_n X dX3_goOnFrom_71 rfl hL11_0 ?_
              refine S_iload X dX3_goOnFrom_72 hL11_5 ?_
              refine S_aload_n X dX3_goOnFrom_74 rfl hL11_0 ?_
              refine S_get X fgX3_9_3 0 rfl hf0 dX3_goOnFrom_75 ?_
              refine S_iload_n X dX3_goOnFrom_78 rfl hL11_1 ?_
              refine S_iald X 1 rfl (by omega) (by omega) (nle rfl) dX3_goOnFrom_79 ?_
              refine S_iconst X dX3_goOnFrom_80 ?_
              refine S_iadd X dX3_goOnFrom_81 ?_
              refine S_aload_n X dX3_goOnFrom_82 rfl hL11_0 ?_
              refine S_get X fgX3_15_3 0 rfl hf1 dX3_goOnFrom_83 ?_
              refine S_iload_n X dX3_goOnFrom_86 rfl hL11_1 ?_
              refine S_iald X 2 rfl (by omega) (by omega) (nle rfl) dX3_goOnFrom_87 ?_
              refine S_iconst X dX3_goOnFrom_88 ?_
              refine S_iload X dX3_goOnFrom_89 hL11_5 ?_
              refine S_ishl X dX3_goOnFrom_91 ?_
              refine S_ior X dX3_goOnFrom_92 ?_
              refine S_callv X (kX3_markBetter l oM fM mC mM Cv Mv f9 b9 b ((Cv i0) + 1) (zOr (Mv i0) (zShl 1 b)) hf0 hf1 (by omega) (zOr_r _ _) (by omega) hCv hMv) (is := [0, 1, 2]) rfl (run_V X lkX3_52 0 rfl rfl (is := [0, 1, 2]) (avs := [iv b, iv ((Cv i0) + 1), iv (zOr (Mv i0) (zShl 1 b))]) (rest := []) rfl rfl (nle rfl) ⟨nle rfl, nle rfl⟩ ⟨nle rfl, nle rfl⟩ dX3_goOnFrom_93 (by decide) rfl) (fun u_21 hp_22 => ?_)
              obtain ⟨Cn2_24, Mm2_25, hu_27, h2_28, h3_29, h5_30⟩ := hp_22
              subst hu_27
              refine ⟨rfl, ?_⟩
              refine S_w (ws' := [(oM, ob 3 (uF (uF fM 0 (iv f9)) 1 (iv b9))), (mC, ar 31 Cn2_24), (mM, ar 31 Mm2_25), (mS, ar 6 Sm2_14), (oP, ob 4 fP), (aA, ar 1206 Ab), (oS, ob 5 fS), (aL, ar 6 Lt)]) rfl ?_
              have hf8 := hfe9
              have hb8 := hbt9
              have hC8 := h2_28
              have hM8 := h3_29
              have hk8 : Cn2_24 i0 < 1000000000 := by rw [h5_30 i0 (by omega)]; exact hci9
              refine S_iinc X dX3_goOnFrom_96 (nle rfl) hL11_5 ?_
              refine S_goto (tgt := 11) X dX3_goOnFrom_99 (by decide) ?_
              exact ih11 (b + 1) f9 b9 Cn2_24 Mm2_25 Sm2_14 _ (by omega) (hf8) (hb8) (hC8) (hM8) (hS8) (hk8) hL11_0 hL11_1 hL11_2 hL11_3 hL11_4 rfl (by omega)
            ·
              refine S_aload_n X dX3_goOnFrom_52 rfl hL11_0 ?_
              refine S_aload_n X dX3_goOnFrom_53 rfl hL11_0 ?_
              refine S_get X fgX3_9_3 0 rfl hf0 dX3_goOnFrom_54 ?_
              refine S_iload_n X dX3_goOnFrom_57 rfl hL11_1 ?_
              refine S_iald X 1 rfl (by omega) (by omega) (nle rfl) dX3_goOnFrom_58 ?_
              refine S_aload_n X dX3_goOnFrom_59 rfl hL11_0 ?_
              refine S_get X fgX3_15_3 0 rfl hf1 dX3_goOnFrom_60 ?_
              refine S_iload_n X dX3_goOnFrom_63 rfl hL11_1 ?_
              refine S_iald X 2 rfl (by omega) (by omega) (nle rfl) dX3_goOnFrom_64 ?_
              refine S_callv X (kX3_endBetter l oM fM f9 b9 (Cv i0) (Mv i0) (by omega) (hMv i0 (by omega) (by omega)) (by omega) (by omega)) (is := [0]) rfl (run_V X lkX3_48 0 rfl rfl (is := [0]) (avs := [iv (Cv i0), iv (Mv i0)]) (rest := []) rfl rfl (nle rfl) ⟨nle rfl, nle rfl⟩ ⟨nle rfl, nle rfl⟩ dX3_goOnFrom_65 (by decide) rfl) (fun u_31 hp_32 => ?_)
              obtain ⟨f2_34, b2_35, hu_37, h2_38, h3_39⟩ := hp_32
              subst hu_37
              refine ⟨rfl, ?_⟩
              refine S_w (ws' := [(oM, ob 3 (uF (uF fM 0 (iv f2_34)) 1 (iv b2_35))), (mC, ar 31 Cv), (mM, ar 31 Mv), (mS, ar 6 Sm2_14), (oP, ob 4 fP), (aA, ar 1206 Ab), (oS, ob 5 fS), (aL, ar 6 Lt)]) rfl ?_
              have hf8 := h2_38
              have hb8 := h3_39
              have hC8 := hCv
              have hM8 := hMv
              have hk8 := hci9
              refine S_goto (tgt := 96) X dX3_goOnFrom_68 (by decide) ?_
              refine S_iinc X dX3_goOnFrom_96 (nle rfl) hL11_5 ?_
              refine S_goto (tgt := 11) X dX3_goOnFrom_99 (by decide) ?_
              exact ih11 (b + 1) f2_34 b2_35 Cv Mv Sm2_14 _ (by omega) (hf8) (hb8) (hC8) (hM8) (hS8) (hk8) hL11_0 hL11_1 hL11_2 hL11_3 hL11_4 rfl (by omega)
          ·
            exact S_vret X (nle rfl) (nle rfl) dX3_goOnFrom_40 (hPo _ (⟨_, _, _, _, _, rfl, hfe9, hbt9, hCv, hMv⟩))
  exact lp11_0 (Int.toNat (n + 1 - i0) + 1) i0 fe bt Cn Mm g2_4 _ (by omega) (hfe) (hbt) (hCr) (hMr) (fun x h0 h1 => by rw [hg0 x h0 h1]; omega) (hci) rfl rfl rfl rfl rfl rfl (by omega)
set_option maxHeartbeats 4000000 in
set_option maxRecDepth 100000 in
theorem kX3_find (l : Launch) (oM : Nat) (fM : Nat → AV) (mC : Nat) (mM : Nat) (mS : Nat) (Cn : Int → Int) (Mm : Int → Int) (Sm : Int → Int) (fe : Int) (bt : Int) (fP : Nat → AV) (fS : Nat → AV) (pl : Int) (n : Int) (ec : Int) (oP : Nat) (oS : Nat) (aA : Nat) (aL : Nat) (Ab : Int → Int) (B : Int → Int) (Fo : Int → Int) (Ho : Int → Int) (Lt : Int → Int) (lim : Int) (hf0 : fM 2 = rv mC) (hf1 : fM 3 = rv mM) (hf2 : fM 4 = rv mS) (hf3 : fP 0 = rv aA) (hf4 : fS 0 = iv pl) (hf5 : fS 1 = iv n) (hf6 : fS 7 = rv aL) (hok : okS pl n ec Fo Ho B Lt) (hA2 : reg Ab (bF ec Fo Ho B) pl n 0) (hfe : 0 ≤ fe ∧ fe ≤ 1000000000) (hbt : inR bt) (hMr : ∀ x, 0 ≤ x → x < 31 → inR (Mm x)) (hlim : inR lim) : AMi l yX3_find cX3_find 5 .boolean 3 0 0 [rv oM, rv oP, rv oS, iv lim] [(oM, ob 3 (uF (uF fM 0 (iv fe)) 1 (iv bt))), (mC, ar 31 Cn), (mM, ar 31 Mm), (mS, ar 6 Sm), (oP, ob 4 fP), (aA, ar 1206 Ab), (oS, ob 5 fS), (aL, ar 6 Lt)] (fun z u => (∃ f2 : Int, ∃ b2 : Int, ∃ Cn2 : Int → Int, ∃ Mm2 : Int → Int, ∃ Sm2 : Int → Int, z = 0 ∧ u = [(oM, ob 3 (uF (uF fM 0 (iv f2)) 1 (iv b2))), (mC, ar 31 Cn2), (mM, ar 31 Mm2), (mS, ar 6 Sm2), (oP, ob 4 fP), (aA, ar 1206 Ab), (oS, ob 5 fS), (aL, ar 6 Lt)] ∧ (0 ≤ f2 ∧ f2 ≤ 1000000000) ∧ inR b2 ∧ (∀ x, 0 ≤ x → x < 31 → 0 ≤ Cn2 x ∧ Cn2 x ≤ 1000000000) ∧ (∀ x, 0 ≤ x → x < 31 → inR (Mm2 x))) ∨ (∃ f2 : Int, ∃ b2 : Int, ∃ Cn2 : Int → Int, ∃ Mm2 : Int → Int, ∃ Sm2 : Int → Int, z = 1 ∧ u = [(oM, ob 3 (uF (uF fM 0 (iv f2)) 1 (iv b2))), (mC, ar 31 Cn2), (mM, ar 31 Mm2), (mS, ar 6 Sm2), (oP, ob 4 fP), (aA, ar 1206 Ab), (oS, ob 5 fS), (aL, ar 6 Lt)] ∧ (0 ≤ f2 ∧ f2 ≤ 1000000000) ∧ inR b2 ∧ (∀ x, 0 ≤ x → x < 31 → 0 ≤ Cn2 x ∧ Cn2 x ≤ 1000000000) ∧ (∀ x, 0 ≤ x → x < 31 → inR (Mm2 x)))) := by
  refine AMi.of2 rfl (nle rfl) ?_
  intro D G A p e s m args below meth c Po hPo X
  have hpl := hok.2.1
  have hpl1 := hok.1
  have hn1 := hok.2.2.1
  have hn2 := hok.2.2.2.1
  have hec := hok.2.2.2.2
  refine S_aload_n X dX3_find_0 rfl rfl ?_
  refine S_get X fgX3_9_3 0 rfl hf0 dX3_find_1 ?_
  refine S_ldc (n := 1000000000) X m1011 dX3_find_4 ?_
  refine S_callv X (kJ7_fill_53178 l mC 31 Cn 1000000000 (by decide)) (is := [1]) rfl (run_S X lkX3_22 (is := [1]) (avs := [rv mC, iv 1000000000]) (rest := []) rfl rfl (nle rfl) ⟨nle rfl, nle rfl⟩ ⟨nle rfl, nle rfl⟩ dX3_find_6 (by decide) rfl) (fun u_1 hp_2 => ?_)
  obtain ⟨g2_4, hu_6, hg2_7⟩ := hp_2
  subst hu_6
  refine ⟨rfl, ?_⟩
  refine S_w (ws' := [(oM, ob 3 (uF (uF fM 0 (iv fe)) 1 (iv bt))), (mC, ar 31 g2_4), (mM, ar 31 Mm), (mS, ar 6 Sm), (oP, ob 4 fP), (aA, ar 1206 Ab), (oS, ob 5 fS), (aL, ar 6 Lt)]) rfl ?_
  have hg0 := hg2_7
  refine S_aload_n X dX3_find_9 rfl rfl ?_
  refine S_get X fgX3_9_3 0 rfl hf0 dX3_find_10 ?_
  refine S_iconst X dX3_find_13 ?_
  refine S_iconst X dX3_find_14 ?_
  refine S_iast X 1 rfl (by omega) (by omega) (nle rfl) dX3_find_15 ?_
  refine S_w (ws' := [(oM, ob 3 (uF (uF fM 0 (iv fe)) 1 (iv bt))), (mC, ar 31 (uZ g2_4 0 0)), (mM, ar 31 Mm), (mS, ar 6 Sm), (oP, ob 4 fP), (aA, ar 1206 Ab), (oS, ob 5 fS), (aL, ar 6 Lt)]) rfl ?_
  refine S_aload_n X dX3_find_16 rfl rfl ?_
  refine S_get X fgX3_15_3 0 rfl hf1 dX3_find_17 ?_
  refine S_iconst X dX3_find_20 ?_
  refine S_iconst X dX3_find_21 ?_
  refine S_iast X 2 rfl (by omega) (by omega) (nle rfl) dX3_find_22 ?_
  refine S_w (ws' := [(oM, ob 3 (uF (uF fM 0 (iv fe)) 1 (iv bt))), (mC, ar 31 (uZ g2_4 0 0)), (mM, ar 31 (uZ Mm 0 0)), (mS, ar 6 Sm), (oP, ob 4 fP), (aA, ar 1206 Ab), (oS, ob 5 fS), (aL, ar 6 Lt)]) rfl ?_
  refine S_aload_n X dX3_find_23 rfl rfl ?_
  refine S_ldc (n := 1000000000) X m1011 dX3_find_24 ?_
  refine S_put X fpX3_28_3 0 rfl FT_i dX3_find_26 ?_
  refine S_w (ws' := [(oM, ob 3 (uF (uF fM 0 (iv 1000000000)) 1 (iv bt))), (mC, ar 31 (uZ g2_4 0 0)), (mM, ar 31 (uZ Mm 0 0)), (mS, ar 6 Sm), (oP, ob 4 fP), (aA, ar 1206 Ab), (oS, ob 5 fS), (aL, ar 6 Lt)]) (by simp only [List.set]; rw [uF_mv (j := 1) (k := 0) (by decide), uF_same (k := 0)]) ?_
  refine S_aload_n X dX3_find_29 rfl rfl ?_
  refine S_iconst X dX3_find_30 ?_
  refine S_put X fpX3_32_3 0 rfl FT_i dX3_find_31 ?_
  refine S_w (ws' := [(oM, ob 3 (uF (uF fM 0 (iv 1000000000)) 1 (iv 0))), (mC, ar 31 (uZ g2_4 0 0)), (mM, ar 31 (uZ Mm 0 0)), (mS, ar 6 Sm), (oP, ob 4 fP), (aA, ar 1206 Ab), (oS, ob 5 fS), (aL, ar 6 Lt)]) (by simp only [List.set]; rw [uF_same (k := 1)]) ?_
  refine S_iconst X dX3_find_34 ?_
  refine S_istore X dX3_find_35 (nle rfl) ?_
  have lp37_0 : ∀ (N : Nat) (b : Int) (f9 : Int) (b9 : Int) (Cv : Int → Int) (Mv : Int → Int) (Sv : Int → Int) (L : Nat → Option AV), 0 ≤ b ∧ b ≤ n → 0 ≤ f9 ∧ f9 ≤ 1000000000 → inR b9 → (∀ x, 0 ≤ x → x < 31 → 0 ≤ Cv x ∧ Cv x ≤ 1000000000) → (∀ x, 0 ≤ x → x < 31 → inR (Mv x)) → L 0 = some (rv oM) → L 1 = some (rv oP) → L 2 = some (rv oS) → L 3 = some (iv lim) → L 4 = some (iv b) → n + 1 - b < (N : Int) → S_ p l e (rmD 3 0 0) s m args below meth c (MQ below (QcI D G A Po) args s 0 0 A) D G A 5 0 0 37 L [] [(oM, ob 3 (uF (uF fM 0 (iv f9)) 1 (iv b9))), (mC, ar 31 Cv), (mM, ar 31 Mv), (mS, ar 6 Sv), (oP, ob 4 fP), (aA, ar 1206 Ab), (oS, ob 5 fS), (aL, ar 6 Lt)] := by
    intro N
    induction N with
    | zero =>
      intro b f9 b9 Cv Mv Sv L37 hb hfe9 hbt9 hCv hMv hL37_0 hL37_1 hL37_2 hL37_3 hL37_4 hN37
      exfalso; omega
    | succ N ih37 =>
      intro b f9 b9 Cv Mv Sv L37 hb hfe9 hbt9 hCv hMv hL37_0 hL37_1 hL37_2 hL37_3 hL37_4 hN37
      refine S_iload X dX3_find_37 hL37_4 ?_
      refine S_aload_n X dX3_find_39 rfl hL37_2 ?_
      refine S_get X fgX3_35_5 6 rfl hf5 dX3_find_40 ?_
      refine S_icmp_ge (tgt := 80) X dX3_find_43 (by decide) (by omega) (by omega) (fun c_8 => ?_) (fun c_8 => ?_)
      ·
        refine S_aload_n X dX3_find_80 rfl hL37_0 ?_
        refine S_get (v := iv f9) X fgX3_28_3 0 rfl rfl dX3_find_81 ?_
        refine S_ldc (n := 1000000000) X m1011 dX3_find_84 ?_
        refine S_icmp_ge (tgt := 93) X dX3_find_86 (by decide) (by omega) (by decide) (fun c_9 => ?_) (fun c_9 => ?_)
        ·
          refine S_iconst X dX3_find_93 ?_
          exact S_zret X (Or.inl rfl) (nle rfl) (nle rfl) dX3_find_94 (hPo _ _ (Or.inl ⟨_, _, _, _, _, rfl, rfl, hfe9, hbt9, hCv, hMv⟩))
        ·
          refine S_iconst X dX3_find_89 ?_
          refine S_goto (tgt := 94) X dX3_find_90 (by decide) ?_
          exact S_zret X (Or.inr rfl) (nle rfl) (nle rfl) dX3_find_94 (hPo _ _ (Or.inr ⟨_, _, _, _, _, rfl, rfl, hfe9, hbt9, hCv, hMv⟩))
      ·
        refine S_iload X dX3_find_46 hL37_4 ?_
        refine S_bipush X dX3_find_48 rfl ?_
        have hc0 := hCv b (by omega) (by omega)
        refine S_icmp_ge (tgt := 80) X dX3_find_50 (by decide) (by omega) (by decide) (fun c_10 => ?_) (fun c_10 => ?_)
        ·
          refine S_aload_n X dX3_find_80 rfl hL37_0 ?_
          refine S_get (v := iv f9) X fgX3_28_3 0 rfl rfl dX3_find_81 ?_
          refine S_ldc (n := 1000000000) X m1011 dX3_find_84 ?_
          refine S_icmp_ge (tgt := 93) X dX3_find_86 (by decide) (by omega) (by decide) (fun c_11 => ?_) (fun c_11 => ?_)
          ·
            refine S_iconst X dX3_find_93 ?_
            exact S_zret X (Or.inl rfl) (nle rfl) (nle rfl) dX3_find_94 (hPo _ _ (Or.inl ⟨_, _, _, _, _, rfl, rfl, hfe9, hbt9, hCv, hMv⟩))
          ·
            refine S_iconst X dX3_find_89 ?_
            refine S_goto (tgt := 94) X dX3_find_90 (by decide) ?_
            exact S_zret X (Or.inr rfl) (nle rfl) (nle rfl) dX3_find_94 (hPo _ _ (Or.inr ⟨_, _, _, _, _, rfl, rfl, hfe9, hbt9, hCv, hMv⟩))
        ·
          refine S_aload_n X dX3_find_53 rfl hL37_0 ?_
          refine S_get X fgX3_9_3 0 rfl hf0 dX3_find_54 ?_
          refine S_iload X dX3_find_57 hL37_4 ?_
          refine S_iald X 1 rfl (by omega) (by omega) (nle rfl) dX3_find_59 ?_
          refine S_ldc (n := 1000000000) X m1011 dX3_find_60 ?_
          refine S_icmp_ge (tgt := 74) X dX3_find_62 (by decide) (by omega) (by decide) (fun c_12 => ?_) (fun c_12 => ?_)
          ·
            refine S_iinc X dX3_find_74 (nle rfl) hL37_4 ?_
            refine S_goto (tgt := 37) X dX3_find_77 (by decide) ?_
            exact ih37 (b + 1) f9 b9 Cv Mv Sv _ (by omega) (by first | exact hf8 | exact hfe9) (by first | exact hb8 | exact hbt9) (by first | exact hC8 | exact hCv) (by first | exact hM8 | exact hMv) hL37_0 hL37_1 hL37_2 hL37_3 rfl (by omega)
          ·
            refine S_aload_n X dX3_find_65 rfl hL37_0 ?_
            refine S_iload X dX3_find_66 hL37_4 ?_
            refine S_aload_n X dX3_find_68 rfl hL37_1 ?_
            refine S_aload_n X dX3_find_69 rfl hL37_2 ?_
            refine S_iload_n X dX3_find_70 rfl hL37_3 ?_
            refine S_callv X (kX3_goOnFrom l oM fM mC mM mS Cv Mv Sv f9 b9 fP fS pl n ec oP oS aA aL Ab B Fo Ho Lt b lim hf0 hf1 hf2 hf3 hf4 hf5 hf6 hok hA2 (by omega) (by omega) hCv hMv (by omega) (by omega) (by omega)) (is := [0, 1, 2, 3, 4, 5, 6, 7]) rfl (run_V X lkX3_40 0 rfl rfl (is := [0, 1, 2, 3, 4, 5, 6, 7]) (avs := [iv b, rv oP, rv oS, iv lim]) (rest := []) rfl rfl (nle rfl) ⟨nle rfl, nle rfl⟩ ⟨nle rfl, nle rfl⟩ dX3_find_71 (by decide) rfl) (fun u_13 hp_14 => ?_)
            obtain ⟨f2_16, b2_17, Cn2_18, Mm2_19, Sm2_20, hu_22, h1_23, h2_24, h3_25, h4_26⟩ := hp_14
            subst hu_22
            refine ⟨rfl, ?_⟩
            refine S_w (ws' := [(oM, ob 3 (uF (uF fM 0 (iv f2_16)) 1 (iv b2_17))), (mC, ar 31 Cn2_18), (mM, ar 31 Mm2_19), (mS, ar 6 Sm2_20), (oP, ob 4 fP), (aA, ar 1206 Ab), (oS, ob 5 fS), (aL, ar 6 Lt)]) rfl ?_
            have hf8 := h1_23
            have hb8 := h2_24
            have hC8 := h3_25
            have hM8 := h4_26
            refine S_iinc X dX3_find_74 (nle rfl) hL37_4 ?_
            refine S_goto (tgt := 37) X dX3_find_77 (by decide) ?_
            exact ih37 (b + 1) f2_16 b2_17 Cn2_18 Mm2_19 Sm2_20 _ (by omega) (by first | exact hf8 | exact hfe9) (by first | exact hb8 | exact hbt9) (by first | exact hC8 | exact hCv) (by first | exact hM8 | exact hMv) hL37_0 hL37_1 hL37_2 hL37_3 rfl (by omega)
  exact lp37_0 (Int.toNat (n + 1 - 0) + 1) 0 1000000000 0 (uZ g2_4 0 0) (uZ Mm 0 0) Sm _ (by omega) (by omega) (by decide) (fun x h0 h1 => by unfold uZ; split; omega; rw [hg0 x h0 h1]; omega) (fun x h0 h1 => by unfold uZ; split; decide; exact hMr x h0 h1) rfl rfl rfl rfl rfl (by omega)
set_option maxHeartbeats 4000000 in
set_option maxRecDepth 100000 in
theorem kX11_marks (l : Launch) (h0 : Nat) (f : Nat → AV) (oW : Nat) (fW : Nat → AV) (fP : Nat → AV) (fS : Nat → AV) (pl : Int) (n : Int) (ec : Int) (mk : Int) (oP : Nat) (oS : Nat) (aA : Nat) (aT : Nat) (aW : Nat) (aS : Nat) (aB : Nat) (aF : Nat) (aH : Nat) (aL : Nat) (Ab : Int → Int) (Tm : Int → Int) (Wq : Int → Int) (Sp : Int → Int) (B : Int → Int) (Fo : Int → Int) (Ho : Int → Int) (Lt : Int → Int) (p0 : Int) (n0 : Int) (k0 : Int) (v : Int) (oM : Nat) (fM : Nat → AV) (mC : Nat) (mM : Nat) (mS : Nat) (Cn : Int → Int) (Mm : Int → Int) (Sm : Int → Int) (fe : Int) (bt : Int) (lim : Int) (hf0 : f 3 = rv oW) (hf1 : f 7 = rv oS) (hf2 : f 9 = rv oP) (hf3 : fW 0 = iv pl) (hf4 : fP 0 = rv aA) (hf5 : fP 1 = rv aT) (hf6 : fP 2 = rv aW) (hf7 : fP 3 = rv aS) (hf8 : fS 0 = iv pl) (hf9 : fS 1 = iv n) (hf10 : fS 2 = iv ec) (hf11 : fS 3 = iv mk) (hf12 : fS 4 = rv aB) (hf13 : fS 5 = rv aF) (hf14 : fS 6 = rv aH) (hf15 : fS 7 = rv aL) (hf16 : fM 2 = rv mC) (hf17 : fM 3 = rv mM) (hf18 : fM 4 = rv mS) (hf19 : f 10 = rv oM) (hf20 : f 12 = iv lim) (hz : okZ pl n ec Fo Ho B Lt) (hx_v : inR v) (hlim : 0 ≤ lim ∧ lim ≤ 999) (hfe : 0 ≤ fe ∧ fe ≤ 1000000000) (hbt : inR bt) (hCr : ∀ x, 0 ≤ x → x < 31 → 0 ≤ Cn x ∧ Cn x ≤ 1000000000) (hMr : ∀ x, 0 ≤ x → x < 31 → inR (Mm x)) : AMi l yX11_marks cX11_marks 2 .int 4 0 0 [rv h0, iv v] [(h0, ob 10 f), (oW, ob 7 fW), (oP, ob 4 (uF (uF (uF fP 6 (iv p0)) 7 (iv n0)) 8 (iv k0))), (aA, ar 1206 Ab), (aT, ar 180 Tm), (aW, ar 6 Wq), (aS, ar 30 Sp), (oS, ob 5 fS), (aB, ar 6 B), (aF, ar 6 Fo), (aH, ar 6 Ho), (aL, ar 6 Lt), (oM, ob 3 (uF (uF fM 0 (iv fe)) 1 (iv bt))), (mC, ar 31 Cn), (mM, ar 31 Mm), (mS, ar 6 Sm)] (fun z u => ∃ z9 : Int, ∃ p9 : Int, ∃ n9 : Int, ∃ k9 : Int, ∃ A2 : Int → Int, ∃ T2 : Int → Int, ∃ W2 : Int → Int, ∃ S2 : Int → Int, ∃ f2 : Int, ∃ b2 : Int, ∃ Cn2 : Int → Int, ∃ Mm2 : Int → Int, ∃ Sm2 : Int → Int, z = z9 ∧ u = [(h0, ob 10 f), (oW, ob 7 fW), (oP, ob 4 (uF (uF (uF fP 6 (iv p9)) 7 (iv n9)) 8 (iv k9))), (aA, ar 1206 A2), (aT, ar 180 T2), (aW, ar 6 W2), (aS, ar 30 S2), (oS, ob 5 fS), (aB, ar 6 B), (aF, ar 6 Fo), (aH, ar 6 Ho), (aL, ar 6 Lt), (oM, ob 3 (uF (uF fM 0 (iv f2)) 1 (iv b2))), (mC, ar 31 Cn2), (mM, ar 31 Mm2), (mS, ar 6 Sm2)] ∧ (0 ≤ f2 ∧ f2 ≤ 1000000000) ∧ inR b2 ∧ (∀ x, 0 ≤ x → x < 31 → 0 ≤ Cn2 x ∧ Cn2 x ≤ 1000000000) ∧ (∀ x, 0 ≤ x → x < 31 → inR (Mm2 x))) := by
  refine AMi.of2 rfl (nle rfl) ?_
  intro D G A p e s m args below meth c Po hPo X
  have hz6 := hz.2.1
  have hz0 := hz.1
  have hzn := hz.2.2.1
  have hzm := hz.2.2.2.1
  have hze := hz.2.2.2.2
  refine S_aload_n X dX11_marks_0 rfl rfl ?_
  refine S_iload_n X dX11_marks_1 rfl rfl ?_
  refine S_calli X (kX11_isOneOfTwo l h0 f oW fW pl v hf0 hf3 (by omega) (by omega)) (is := [0, 1]) rfl (run_V X lkX11_252 0 rfl rfl (is := [0, 1]) (avs := [iv v]) (rest := []) rfl rfl (nle rfl) ⟨nle rfl, nle rfl⟩ ⟨nle rfl, nle rfl⟩ dX11_marks_2 (by decide) rfl) (fun z_3 u_1 hp_2 => ?_)
  rcases hp_2 with ⟨hz_4, hu_5, hp_6⟩ | ⟨hz_7, hu_8, hp_9⟩
  ·
    subst hz_4
    subst hu_5
    refine ⟨rfl, ?_⟩
    refine S_w (ws' := [(h0, ob 10 f), (oW, ob 7 fW), (oP, ob 4 (uF (uF (uF fP 6 (iv p0)) 7 (iv n0)) 8 (iv k0))), (aA, ar 1206 Ab), (aT, ar 180 Tm), (aW, ar 6 Wq), (aS, ar 30 Sp), (oS, ob 5 fS), (aB, ar 6 B), (aF, ar 6 Fo), (aH, ar 6 Ho), (aL, ar 6 Lt), (oM, ob 3 (uF (uF fM 0 (iv fe)) 1 (iv bt))), (mC, ar 31 Cn), (mM, ar 31 Mm), (mS, ar 6 Sm)]) rfl ?_
    refine S_if_ne (tgt := 10) X dX11_marks_5 (by decide) (by decide) (fun h9 => absurd h9 (by decide)) (fun _ => ?_)
    refine S_iconst X dX11_marks_8 ?_
    exact S_iret X (nle rfl) (nle rfl) dX11_marks_9 (hPo _ _ (⟨_, _, _, _, _, _, _, _, _, _, _, _, _, rfl, rfl, hfe, hbt, hCr, hMr⟩))
  ·
    subst hz_7
    subst hu_8
    refine ⟨rfl, ?_⟩
    refine S_w (ws' := [(h0, ob 10 f), (oW, ob 7 fW), (oP, ob 4 (uF (uF (uF fP 6 (iv p0)) 7 (iv n0)) 8 (iv k0))), (aA, ar 1206 Ab), (aT, ar 180 Tm), (aW, ar 6 Wq), (aS, ar 30 Sp), (oS, ob 5 fS), (aB, ar 6 B), (aF, ar 6 Fo), (aH, ar 6 Ho), (aL, ar 6 Lt), (oM, ob 3 (uF (uF fM 0 (iv fe)) 1 (iv bt))), (mC, ar 31 Cn), (mM, ar 31 Mm), (mS, ar 6 Sm)]) rfl ?_
    refine S_if_ne (tgt := 10) X dX11_marks_5 (by decide) (by decide) (fun _ => ?_) (fun h9 => absurd h9 (by decide))
    have hok := hz.s (by omega)
    have hpl := hok.2.1
    have hpl1 := hok.1
    have hn1 := hok.2.2.1
    have hn2 := hok.2.2.2.1
    have hec := hok.2.2.2.2
    refine S_aload_n X dX11_marks_10 rfl rfl ?_
    refine S_get X fgX11_69_10 0 rfl hf2 dX11_marks_11 ?_
    refine S_aload_n X dX11_marks_14 rfl rfl ?_
    refine S_get X fgX11_59_10 0 rfl hf1 dX11_marks_15 ?_
    refine S_ldc (n := 1000000000) X m813 dX11_marks_18 ?_
    refine S_calli X (kX4_performE l fP fS pl n ec mk oP oS aA aT aW aS aB aF aH aL Ab Tm Wq Sp B Fo Ho Lt p0 n0 k0 hf4 hf5 hf6 hf7 hf8 hf9 hf10 hf11 hf12 hf13 hf14 hf15 (by omega)) (is := [2, 3, 4, 5, 6, 7, 8, 9, 10, 11]) rfl (run_V X lkX11_235 2 rfl rfl (is := [2, 3, 4, 5, 6, 7, 8, 9, 10, 11]) (avs := [rv oS, iv 1000000000]) (rest := []) rfl rfl (nle rfl) ⟨nle rfl, nle rfl⟩ ⟨nle rfl, nle rfl⟩ dX11_marks_20 (by decide) rfl) (fun z_14 u_12 hp_13 => ?_)
    obtain ⟨A2_15, T2_16, W2_17, S2_18, hz_19, hu_20, hq_21, hA2_22, hT2_23, hS2_24⟩ := hp_13
    subst hz_19
    subst hu_20
    refine ⟨rfl, ?_⟩
    refine S_w (ws' := [(h0, ob 10 f), (oW, ob 7 fW), (oP, ob 4 (uF (uF (uF fP 6 (iv pl)) 7 (iv n)) 8 (iv mk))), (aA, ar 1206 A2_15), (aT, ar 180 T2_16), (aW, ar 6 W2_17), (aS, ar 30 S2_18), (oS, ob 5 fS), (aB, ar 6 B), (aF, ar 6 Fo), (aH, ar 6 Ho), (aL, ar 6 Lt), (oM, ob 3 (uF (uF fM 0 (iv fe)) 1 (iv bt))), (mC, ar 31 Cn), (mM, ar 31 Mm), (mS, ar 6 Sm)]) rfl ?_
    have hAL := hA2_22
    have hTL := hT2_23
    have hSL := hS2_24
    refine S_pop X dX11_marks_23 ?_
    refine S_aload_n X dX11_marks_24 rfl rfl ?_
    refine S_get X fgX11_76_10 0 rfl hf19 dX11_marks_25 ?_
    refine S_aload_n X dX11_marks_28 rfl rfl ?_
    refine S_get X fgX11_69_10 0 rfl hf2 dX11_marks_29 ?_
    refine S_aload_n X dX11_marks_32 rfl rfl ?_
    refine S_get X fgX11_59_10 0 rfl hf1 dX11_marks_33 ?_
    refine S_aload_n X dX11_marks_36 rfl rfl ?_
    refine S_get X fgX11_89_10 0 rfl hf20 dX11_marks_37 ?_
    refine S_calli X (kX3_find l oM fM mC mM mS Cn Mm Sm fe bt (uF (uF (uF fP 6 (iv pl)) 7 (iv n)) 8 (iv mk)) fS pl n ec oP oS aA aL A2_15 B Fo Ho Lt lim hf16 hf17 hf18 hf4 hf8 hf9 hf15 hok hAL (by omega) (by omega) hMr (by omega)) (is := [12, 13, 14, 15, 2, 3, 7, 11]) rfl (run_V X lkX11_300 12 rfl rfl (is := [12, 13, 14, 15, 2, 3, 7, 11]) (avs := [rv oP, rv oS, iv lim]) (rest := []) rfl rfl (nle rfl) ⟨nle rfl, nle rfl⟩ ⟨nle rfl, nle rfl⟩ dX11_marks_40 (by decide) rfl) (fun z_27 u_25 hp_26 => ?_)
    rcases hp_26 with ⟨f2_28, b2_29, Cn2_30, Mm2_31, Sm2_32, hz_33, hu_34, h1_35, h2_36, h3_37, h4_38⟩ | ⟨f2_39, b2_40, Cn2_41, Mm2_42, Sm2_43, hz_44, hu_45, h1_46, h2_47, h3_48, h4_49⟩
    ·
      subst hz_33
      subst hu_34
      refine ⟨rfl, ?_⟩
      refine S_w (ws' := [(h0, ob 10 f), (oW, ob 7 fW), (oP, ob 4 (uF (uF (uF fP 6 (iv pl)) 7 (iv n)) 8 (iv mk))), (aA, ar 1206 A2_15), (aT, ar 180 T2_16), (aW, ar 6 W2_17), (aS, ar 30 S2_18), (oS, ob 5 fS), (aB, ar 6 B), (aF, ar 6 Fo), (aH, ar 6 Ho), (aL, ar 6 Lt), (oM, ob 3 (uF (uF fM 0 (iv f2_28)) 1 (iv b2_29))), (mC, ar 31 Cn2_30), (mM, ar 31 Mm2_31), (mS, ar 6 Sm2_32)]) rfl ?_
      have h91 := h1_35
      have h92 := h2_36
      have h93 := h3_37
      have h94 := h4_38
      refine S_if_ne (tgt := 48) X dX11_marks_43 (by decide) (by decide) (fun h9 => absurd h9 (by decide)) (fun _ => ?_)
      refine S_iconst X dX11_marks_46 ?_
      exact S_iret X (nle rfl) (nle rfl) dX11_marks_47 (hPo _ _ (⟨_, _, _, _, _, _, _, _, _, _, _, _, _, rfl, rfl, h91, h92, h93, h94⟩))
    ·
      subst hz_44
      subst hu_45
      refine ⟨rfl, ?_⟩
      refine S_w (ws' := [(h0, ob 10 f), (oW, ob 7 fW), (oP, ob 4 (uF (uF (uF fP 6 (iv pl)) 7 (iv n)) 8 (iv mk))), (aA, ar 1206 A2_15), (aT, ar 180 T2_16), (aW, ar 6 W2_17), (aS, ar 30 S2_18), (oS, ob 5 fS), (aB, ar 6 B), (aF, ar 6 Fo), (aH, ar 6 Ho), (aL, ar 6 Lt), (oM, ob 3 (uF (uF fM 0 (iv f2_39)) 1 (iv b2_40))), (mC, ar 31 Cn2_41), (mM, ar 31 Mm2_42), (mS, ar 6 Sm2_43)]) rfl ?_
      have h91 := h1_46
      have h92 := h2_47
      have h93 := h3_48
      have h94 := h4_49
      refine S_if_ne (tgt := 48) X dX11_marks_43 (by decide) (by decide) (fun _ => ?_) (fun h9 => absurd h9 (by decide))
      refine S_iload_n X dX11_marks_48 rfl rfl ?_
      refine S_if_ne (tgt := 62) X dX11_marks_49 (by decide) (by omega) (fun c_52 => ?_) (fun c_52 => ?_)
      ·
        refine S_aload_n X dX11_marks_62 rfl rfl ?_
        refine S_get X fgX11_76_10 0 rfl hf19 dX11_marks_63 ?_
        refine S_get (v := iv b2_40) X fgX11_307_3 12 rfl rfl dX11_marks_66 ?_
        exact S_iret X (nle rfl) (nle rfl) dX11_marks_69 (hPo _ _ (⟨_, _, _, _, _, _, _, _, _, _, _, _, _, rfl, rfl, h91, h92, h93, h94⟩))
      ·
        refine S_aload_n X dX11_marks_52 rfl rfl ?_
        refine S_get X fgX11_76_10 0 rfl hf19 dX11_marks_53 ?_
        refine S_get (v := iv f2_39) X fgX11_304_3 12 rfl rfl dX11_marks_56 ?_
        refine S_goto (tgt := 69) X dX11_marks_59 (by decide) ?_
        exact S_iret X (nle rfl) (nle rfl) dX11_marks_69 (hPo _ _ (⟨_, _, _, _, _, _, _, _, _, _, _, _, _, rfl, rfl, h91, h92, h93, h94⟩))
