theorem okW.new {ds : List LwS} {ys yv : Nat → LwY} {mt pl mt2 pl2 i : Int} (h : okW ds ys mt pl) (hk : ∀ (j : Nat) x, ds[j]? = some x → (yv j).kn = 0) : okW ds yv mt2 pl2 := fun j x hx => ⟨(h j x hx).1, by have e := hk j x hx; unfold lwYok; rw [e]; exact ⟨⟨Int.le_refl _, by omega⟩, fun a a0 a1 => by omega⟩⟩
set_option maxHeartbeats 4000000 in
set_option maxRecDepth 100000 in
theorem kX11_openTown (l : Launch) (h0 : Nat) (f : Nat → AV) (rl : Int) (oW : Nat) (fW : Nat → AV) (p0 : Int) (m0 : Int) (wB : Nat) (wD : Nat) (wK : Nat) (wF : Nat) (wH : Nat) (WB : Int → Int) (WD : Int → Int) (WK : Int → Int) (WF : Int → Int) (WH : Int → Int) (oR : Nat) (fR : Nat → AV) (od : Nat) (fd : Nat → AV) (pl : Int) (mt : Int) (dB : Nat) (dD : Nat) (dK : Nat) (dF : Nat) (dH : Nat) (EB : Int → Int) (ED : Int → Int) (EK : Int → Int) (EF : Int → Int) (EH : Int → Int) (oS : Nat) (fS : Nat → AV) (s0 : Int) (n : Int) (ec : Int) (mk : Int) (aB : Nat) (aF : Nat) (aH : Nat) (aL : Nat) (B : Int → Int) (Fo : Int → Int) (Ho : Int → Int) (Lt : Int → Int) (oD : Nat) (fD : Nat → AV) (td : Int) (un : Int) (hi : Int) (im : Int) (nx : Int) (oK : Nat) (fK : Nat → AV) (kk : Int) (ht : Nat) (ft : Nat → AV) (tn : Int) (ds : List LwS) (ys : Nat → LwY) (mt0 : Int) (pl0 : Int) (lw : Int) (oA : Nat) (hf0 : f 0 = rv ht) (hf1 : f 1 = rv oR) (hf2 : f 3 = rv oW) (hf3 : f 4 = rv oA) (hf4 : f 5 = rv oD) (hf5 : f 7 = rv oS) (hf6 : f 11 = rv oK) (hf7 : fR 3 = rv od) (hf8 : fW 2 = rv wB) (hf9 : fW 3 = rv wD) (hf10 : fW 4 = rv wK) (hf11 : fW 5 = rv wF) (hf12 : fW 6 = rv wH) (hf13 : fd 2 = rv dB) (hf14 : fd 3 = rv dD) (hf15 : fd 4 = rv dK) (hf16 : fd 5 = rv dF) (hf17 : fd 6 = rv dH) (hf18 : fS 4 = rv aB) (hf19 : fS 5 = rv aF) (hf20 : fS 6 = rv aH) (hf21 : fS 7 = rv aL) (hds : (ds.length : Int) = lw ∧ 0 ≤ lw ∧ lw ≤ 4) (hdy : okW ds ys mt0 pl0) : AMv l yX11_openTown cX11_openTown 3 2 0 0 [rv h0] ([(h0, ob 10 (uF f 15 (iv rl))), (oW, ob 7 (uF (uF fW 0 (iv p0)) 1 (iv m0))), (wB, ar 6 WB), (wD, ar 6 WD), (wK, ar 6 WK), (wF, ar 6 WF), (wH, ar 6 WH), (oR, ob 8 fR), (od, ob 7 (uF (uF fd 0 (iv pl)) 1 (iv mt))), (dB, ar 6 EB), (dD, ar 6 ED), (dK, ar 6 EK), (dF, ar 6 EF), (dH, ar 6 EH), (oS, ob 5 (uF (uF (uF (uF fS 0 (iv s0)) 1 (iv n)) 2 (iv ec)) 3 (iv mk))), (aB, ar 6 B), (aF, ar 6 Fo), (aH, ar 6 Ho), (aL, ar 6 Lt), (oD, ob 0 (uF (uF (uF (uF (uF fD 0 (iv td)) 1 (iv un)) 2 (iv hi)) 3 (iv im)) 4 (iv nx))), (oK, ob 9 (uF fK 0 (iv kk))), (ht, ob 6 (uF ft 1 (iv tn))), (oA, aq 4 (lwR ds))] ++ (lwT ds ys)) (fun u => ∃ B2 : Int → Int, ∃ D2 : Int → Int, ∃ K2 : Int → Int, ∃ F2 : Int → Int, ∃ H2 : Int → Int, ∃ B3 : Int → Int, ∃ F3 : Int → Int, ∃ H3 : Int → Int, ∃ L3 : Int → Int, ∃ y2 : Nat → LwY, u = ([(h0, ob 10 (uF f 15 (iv 0))), (oW, ob 7 (uF (uF fW 0 (iv pl)) 1 (iv mt))), (wB, ar 6 B2), (wD, ar 6 D2), (wK, ar 6 K2), (wF, ar 6 F2), (wH, ar 6 H2), (oR, ob 8 fR), (od, ob 7 (uF (uF fd 0 (iv pl)) 1 (iv mt))), (dB, ar 6 EB), (dD, ar 6 ED), (dK, ar 6 EK), (dF, ar 6 EF), (dH, ar 6 EH), (oS, ob 5 (uF (uF (uF (uF fS 0 (iv pl)) 1 (iv n)) 2 (iv ec)) 3 (iv 0))), (aB, ar 6 B3), (aF, ar 6 F3), (aH, ar 6 H3), (aL, ar 6 L3), (oD, ob 0 (uF (uF (uF (uF (uF fD 0 (iv 0)) 1 (iv 0)) 2 (iv 0)) 3 (iv im)) 4 (iv 0))), (oK, ob 9 (uF fK 0 (iv 0))), (ht, ob 6 (uF ft 1 (iv 0))), (oA, aq 4 (lwR ds))] ++ (lwT ds y2)) ∧ (∀ x, 0 ≤ x → x < 6 → B2 x = EB x) ∧ (∀ x, 0 ≤ x → x < 6 → D2 x = ED x) ∧ (∀ x, 0 ≤ x → x < 6 → K2 x = EK x) ∧ (∀ x, 0 ≤ x → x < 6 → F2 x = EF x) ∧ (∀ x, 0 ≤ x → x < 6 → H2 x = EH x) ∧ (∀ x, 0 ≤ x → x < 6 → B3 x = EB x) ∧ (∀ x, 0 ≤ x → x < 6 → F3 x = EF x) ∧ (∀ x, 0 ≤ x → x < 6 → H3 x = EH x) ∧ (∀ x, 0 ≤ x → x < 6 → L3 x = 0) ∧ okW ds y2 mt pl) := by
  refine AMv.of2 rfl (nle rfl) ?_
  intro D G A p e s m args below meth c Po hPo hnm X
  refine S_aload_n X dX11_openTown_0 rfl rfl ?_
  refine S_get X fgX11_35_10 0 rfl hf2 dX11_openTown_1 ?_
  refine S_aload_n X dX11_openTown_4 rfl rfl ?_
  refine S_get X fgX11_21_10 0 rfl hf1 dX11_openTown_5 ?_
  refine S_get X fgX11_125_8 7 rfl hf7 dX11_openTown_8 ?_
  refine S_callv X (kX8_copyFrom l od dB dD dK dF dH (uF (uF fd 0 (iv pl)) 1 (iv mt)) EB ED EK EF EH pl mt oW wB wD wK wF wH fW WB WD WK WF WH p0 m0 hf8 hf9 hf10 hf11 hf12 hf13 hf14 hf15 hf16 hf17 rfl rfl) (is := [1, 2, 3, 4, 5, 6, 8, 9, 10, 11, 12, 13]) rfl (run_V X lkX11_128 1 rfl rfl (is := [1, 2, 3, 4, 5, 6, 8, 9, 10, 11, 12, 13]) (avs := [rv od]) (rest := []) rfl rfl (nle rfl) ⟨nle rfl, nle rfl⟩ ⟨nle rfl, nle rfl⟩ dX11_openTown_11 (by decide) rfl) (fun u_1 hp_2 => ?_)
  obtain ⟨B2_4, D2_5, K2_6, F2_7, H2_8, hu_10, hB2_11, hD2_12, hK2_13, hF2_14, hH2_15⟩ := hp_2
  subst hu_10
  refine ⟨rfl, ?_⟩
  refine S_w (ws' := ([(h0, ob 10 (uF f 15 (iv rl))), (oW, ob 7 (uF (uF fW 0 (iv pl)) 1 (iv mt))), (wB, ar 6 B2_4), (wD, ar 6 D2_5), (wK, ar 6 K2_6), (wF, ar 6 F2_7), (wH, ar 6 H2_8), (oR, ob 8 fR), (od, ob 7 (uF (uF fd 0 (iv pl)) 1 (iv mt))), (dB, ar 6 EB), (dD, ar 6 ED), (dK, ar 6 EK), (dF, ar 6 EF), (dH, ar 6 EH), (oS, ob 5 (uF (uF (uF (uF fS 0 (iv s0)) 1 (iv n)) 2 (iv ec)) 3 (iv mk))), (aB, ar 6 B), (aF, ar 6 Fo), (aH, ar 6 Ho), (aL, ar 6 Lt), (oD, ob 0 (uF (uF (uF (uF (uF fD 0 (iv td)) 1 (iv un)) 2 (iv hi)) 3 (iv im)) 4 (iv nx))), (oK, ob 9 (uF fK 0 (iv kk))), (ht, ob 6 (uF ft 1 (iv tn))), (oA, aq 4 (lwR ds))] ++ (lwT ds ys))) (by simp only [putC, List.set, List.append_nil, List.cons_append, List.nil_append]) ?_
  have g0 := hB2_11
  have g1 := hD2_12
  have g2 := hK2_13
  have g3 := hF2_14
  have g4 := hH2_15
  refine S_aload_n X dX11_openTown_14 rfl rfl ?_
  refine S_get X fgX11_59_10 0 rfl hf5 dX11_openTown_15 ?_
  refine S_aload_n X dX11_openTown_18 rfl rfl ?_
  refine S_get X fgX11_35_10 0 rfl hf2 dX11_openTown_19 ?_
  refine S_callv X (kX6_open l oW wB wF wH (uF (uF fW 0 (iv pl)) 1 (iv mt)) B2_4 F2_7 H2_8 pl oS aB aF aH aL fS B Fo Ho Lt s0 n ec mk hf18 hf19 hf20 hf21 hf8 hf11 hf12 rfl) (is := [14, 15, 16, 17, 18, 1, 2, 5, 6]) rfl (run_V X lkX11_132 14 rfl rfl (is := [14, 15, 16, 17, 18, 1, 2, 5, 6]) (avs := [rv oW]) (rest := []) rfl rfl (nle rfl) ⟨nle rfl, nle rfl⟩ ⟨nle rfl, nle rfl⟩ dX11_openTown_22 (by decide) rfl) (fun u_16 hp_17 => ?_)
  obtain ⟨B2_19, F2_20, H2_21, L2_22, hu_24, hB2_25, hF2_26, hH2_27, hL2_28⟩ := hp_17
  subst hu_24
  refine ⟨rfl, ?_⟩
  refine S_w (ws' := ([(h0, ob 10 (uF f 15 (iv rl))), (oW, ob 7 (uF (uF fW 0 (iv pl)) 1 (iv mt))), (wB, ar 6 B2_4), (wD, ar 6 D2_5), (wK, ar 6 K2_6), (wF, ar 6 F2_7), (wH, ar 6 H2_8), (oR, ob 8 fR), (od, ob 7 (uF (uF fd 0 (iv pl)) 1 (iv mt))), (dB, ar 6 EB), (dD, ar 6 ED), (dK, ar 6 EK), (dF, ar 6 EF), (dH, ar 6 EH), (oS, ob 5 (uF (uF (uF (uF fS 0 (iv pl)) 1 (iv n)) 2 (iv ec)) 3 (iv 0))), (aB, ar 6 B2_19), (aF, ar 6 F2_20), (aH, ar 6 H2_21), (aL, ar 6 L2_22), (oD, ob 0 (uF (uF (uF (uF (uF fD 0 (iv td)) 1 (iv un)) 2 (iv hi)) 3 (iv im)) 4 (iv nx))), (oK, ob 9 (uF fK 0 (iv kk))), (ht, ob 6 (uF ft 1 (iv tn))), (oA, aq 4 (lwR ds))] ++ (lwT ds ys))) (by simp only [putC, List.set, List.append_nil, List.cons_append, List.nil_append]) ?_
  have k0 := hB2_25
  have k1 := hF2_26
  have k2 := hH2_27
  have k3 := hL2_28
  refine S_aload_n X dX11_openTown_25 rfl rfl ?_
  refine S_get X fgX11_48_10 0 rfl hf4 dX11_openTown_26 ?_
  refine S_callv X (kX0_open l oD fD td un hi im nx ) (is := [19]) rfl (run_V X lkX11_135 19 rfl rfl (is := [19]) (avs := []) (rest := []) rfl rfl (nle rfl) ⟨nle rfl, nle rfl⟩ ⟨nle rfl, nle rfl⟩ dX11_openTown_29 (by decide) rfl) (fun u_29 hp_30 => ?_)
  have hu_33 := hp_30
  subst hu_33
  refine ⟨rfl, ?_⟩
  refine S_w (ws' := ([(h0, ob 10 (uF f 15 (iv rl))), (oW, ob 7 (uF (uF fW 0 (iv pl)) 1 (iv mt))), (wB, ar 6 B2_4), (wD, ar 6 D2_5), (wK, ar 6 K2_6), (wF, ar 6 F2_7), (wH, ar 6 H2_8), (oR, ob 8 fR), (od, ob 7 (uF (uF fd 0 (iv pl)) 1 (iv mt))), (dB, ar 6 EB), (dD, ar 6 ED), (dK, ar 6 EK), (dF, ar 6 EF), (dH, ar 6 EH), (oS, ob 5 (uF (uF (uF (uF fS 0 (iv pl)) 1 (iv n)) 2 (iv ec)) 3 (iv 0))), (aB, ar 6 B2_19), (aF, ar 6 F2_20), (aH, ar 6 H2_21), (aL, ar 6 L2_22), (oD, ob 0 (uF (uF (uF (uF (uF fD 0 (iv 0)) 1 (iv 0)) 2 (iv 0)) 3 (iv im)) 4 (iv 0))), (oK, ob 9 (uF fK 0 (iv kk))), (ht, ob 6 (uF ft 1 (iv tn))), (oA, aq 4 (lwR ds))] ++ (lwT ds ys))) (by simp only [putC, List.set, List.append_nil, List.cons_append, List.nil_append]) ?_
  refine S_aload_n X dX11_openTown_32 rfl rfl ?_
  refine S_iconst X dX11_openTown_33 ?_
  refine S_put X fpX11_137_10 0 rfl FT_i dX11_openTown_34 ?_
  refine S_w (ws' := ([(h0, ob 10 (uF f 15 (iv 0))), (oW, ob 7 (uF (uF fW 0 (iv pl)) 1 (iv mt))), (wB, ar 6 B2_4), (wD, ar 6 D2_5), (wK, ar 6 K2_6), (wF, ar 6 F2_7), (wH, ar 6 H2_8), (oR, ob 8 fR), (od, ob 7 (uF (uF fd 0 (iv pl)) 1 (iv mt))), (dB, ar 6 EB), (dD, ar 6 ED), (dK, ar 6 EK), (dF, ar 6 EF), (dH, ar 6 EH), (oS, ob 5 (uF (uF (uF (uF fS 0 (iv pl)) 1 (iv n)) 2 (iv ec)) 3 (iv 0))), (aB, ar 6 B2_19), (aF, ar 6 F2_20), (aH, ar 6 H2_21), (aL, ar 6 L2_22), (oD, ob 0 (uF (uF (uF (uF (uF fD 0 (iv 0)) 1 (iv 0)) 2 (iv 0)) 3 (iv im)) 4 (iv 0))), (oK, ob 9 (uF fK 0 (iv kk))), (ht, ob 6 (uF ft 1 (iv tn))), (oA, aq 4 (lwR ds))] ++ (lwT ds ys))) (by simp only [List.set, List.cons_append, List.nil_append]; rw [uF_same (k := 15)]) ?_
  refine S_iconst X dX11_openTown_37 ?_
  refine S_istore_n X dX11_openTown_38 rfl (nle rfl) ?_
  have lp39_0 : ∀ (N : Nat) (i : Int) (yv : Nat → LwY) (L : Nat → Option AV), 0 ≤ i ∧ i ≤ 4 → (∀ (j : Nat) x, (j : Int) < i → ds[j]? = some x → (yv j).kn = 0) → L 0 = some (rv h0) → L 1 = some (iv i) → 5 - i < (N : Int) → S_ p l e (rmD 2 0 0) s m args below meth c (MQ below (QcV D G A Po) args s 0 0 A) D G A 3 0 0 39 L [] ([(h0, ob 10 (uF f 15 (iv 0))), (oW, ob 7 (uF (uF fW 0 (iv pl)) 1 (iv mt))), (wB, ar 6 B2_4), (wD, ar 6 D2_5), (wK, ar 6 K2_6), (wF, ar 6 F2_7), (wH, ar 6 H2_8), (oR, ob 8 fR), (od, ob 7 (uF (uF fd 0 (iv pl)) 1 (iv mt))), (dB, ar 6 EB), (dD, ar 6 ED), (dK, ar 6 EK), (dF, ar 6 EF), (dH, ar 6 EH), (oS, ob 5 (uF (uF (uF (uF fS 0 (iv pl)) 1 (iv n)) 2 (iv ec)) 3 (iv 0))), (aB, ar 6 B2_19), (aF, ar 6 F2_20), (aH, ar 6 H2_21), (aL, ar 6 L2_22), (oD, ob 0 (uF (uF (uF (uF (uF fD 0 (iv 0)) 1 (iv 0)) 2 (iv 0)) 3 (iv im)) 4 (iv 0))), (oK, ob 9 (uF fK 0 (iv kk))), (ht, ob 6 (uF ft 1 (iv tn))), (oA, aq 4 (lwR ds))] ++ (lwT ds yv)) := by
    intro N
    induction N with
    | zero =>
      intro i yv L39 hi hkn hL39_0 hL39_1 hN39
      exfalso; omega
    | succ N ih39 =>
      intro i yv L39 hi hkn hL39_0 hL39_1 hN39
      refine S_iload_n X dX11_openTown_39 rfl hL39_1 ?_
      refine S_iconst X dX11_openTown_40 ?_
      refine S_icmp_ge (tgt := 65) X dX11_openTown_41 (by decide) (by omega) (by decide) (fun c_34 => ?_) (fun c_34 => ?_)
      ·
        refine S_aload_n X dX11_openTown_65 rfl hL39_0 ?_
        refine S_get X fgX11_85_10 0 rfl hf6 dX11_openTown_66 ?_
        refine S_iconst X dX11_openTown_69 ?_
        refine S_put X fpX11_143_9 20 rfl (FT_b (Or.inl rfl)) dX11_openTown_70 ?_
        refine S_w (ws' := ([(h0, ob 10 (uF f 15 (iv 0))), (oW, ob 7 (uF (uF fW 0 (iv pl)) 1 (iv mt))), (wB, ar 6 B2_4), (wD, ar 6 D2_5), (wK, ar 6 K2_6), (wF, ar 6 F2_7), (wH, ar 6 H2_8), (oR, ob 8 fR), (od, ob 7 (uF (uF fd 0 (iv pl)) 1 (iv mt))), (dB, ar 6 EB), (dD, ar 6 ED), (dK, ar 6 EK), (dF, ar 6 EF), (dH, ar 6 EH), (oS, ob 5 (uF (uF (uF (uF fS 0 (iv pl)) 1 (iv n)) 2 (iv ec)) 3 (iv 0))), (aB, ar 6 B2_19), (aF, ar 6 F2_20), (aH, ar 6 H2_21), (aL, ar 6 L2_22), (oD, ob 0 (uF (uF (uF (uF (uF fD 0 (iv 0)) 1 (iv 0)) 2 (iv 0)) 3 (iv im)) 4 (iv 0))), (oK, ob 9 (uF fK 0 (iv 0))), (ht, ob 6 (uF ft 1 (iv tn))), (oA, aq 4 (lwR ds))] ++ (lwT ds yv))) (by simp only [List.set, List.cons_append, List.nil_append]; rw [uF_same (k := 0)]) ?_
        refine S_aload_n X dX11_openTown_73 rfl hL39_0 ?_
        refine S_get X fgX11_10_10 0 rfl hf0 dX11_openTown_74 ?_
        refine S_iconst X dX11_openTown_77 ?_
        refine S_put X fpX11_100_6 21 rfl FT_i dX11_openTown_78 ?_
        refine S_w (ws' := ([(h0, ob 10 (uF f 15 (iv 0))), (oW, ob 7 (uF (uF fW 0 (iv pl)) 1 (iv mt))), (wB, ar 6 B2_4), (wD, ar 6 D2_5), (wK, ar 6 K2_6), (wF, ar 6 F2_7), (wH, ar 6 H2_8), (oR, ob 8 fR), (od, ob 7 (uF (uF fd 0 (iv pl)) 1 (iv mt))), (dB, ar 6 EB), (dD, ar 6 ED), (dK, ar 6 EK), (dF, ar 6 EF), (dH, ar 6 EH), (oS, ob 5 (uF (uF (uF (uF fS 0 (iv pl)) 1 (iv n)) 2 (iv ec)) 3 (iv 0))), (aB, ar 6 B2_19), (aF, ar 6 F2_20), (aH, ar 6 H2_21), (aL, ar 6 L2_22), (oD, ob 0 (uF (uF (uF (uF (uF fD 0 (iv 0)) 1 (iv 0)) 2 (iv 0)) 3 (iv im)) 4 (iv 0))), (oK, ob 9 (uF fK 0 (iv 0))), (ht, ob 6 (uF ft 1 (iv 0))), (oA, aq 4 (lwR ds))] ++ (lwT ds yv))) (by simp only [List.set, List.cons_append, List.nil_append]; rw [uF_same (k := 1)]) ?_
        exact S_vret X (nle rfl) (nle rfl) dX11_openTown_81 (hPo _ (⟨_, _, _, _, _, _, _, _, _, _, rfl, g0, g1, g2, g3, g4, fun x h0 h1 => (k0 x h0 h1).trans (g0 x h0 h1), fun x h0 h1 => (k1 x h0 h1).trans (g3 x h0 h1), fun x h0 h1 => (k2 x h0 h1).trans (g4 x h0 h1), k3, hdy.new (i := 0) (fun j x h => hkn j x (by have := (List.getElem?_eq_some_iff.mp h).1; omega) h)⟩))
      ·
        refine S_aload_n X dX11_openTown_44 rfl hL39_0 ?_
        refine S_get X fgX11_41_10 0 rfl hf3 dX11_openTown_45 ?_
        refine S_iload_n X dX11_openTown_48 rfl hL39_1 ?_
        by_cases hil : i < lw
        ·
          obtain ⟨x9, hx9, hr9⟩ := lwR_at (ds := ds) (j := i) (by omega) (by omega)
          obtain ⟨rs9, hp9, hb9⟩ := lw_front (y := yv) hx9
          obtain ⟨⟨⟨hg0, hg1, hg2⟩, hg3, hg4, hg5, hg6, hg7⟩, hg8⟩ := hdy _ _ hx9
          refine S_aald X 22 rfl (by omega) (by omega) (nle rfl) dX11_openTown_49 ?_
          rw [hr9]
          refine S_perm (hp9 _) ?_
          refine S_w (ws' := ([(h0, ob 10 (uF f 15 (iv 0))), (oW, ob 7 (uF (uF fW 0 (iv pl)) 1 (iv mt))), (wB, ar 6 B2_4), (wD, ar 6 D2_5), (wK, ar 6 K2_6), (wF, ar 6 F2_7), (wH, ar 6 H2_8), (oR, ob 8 fR), (od, ob 7 (uF (uF fd 0 (iv pl)) 1 (iv mt))), (dB, ar 6 EB), (dD, ar 6 ED), (dK, ar 6 EK), (dF, ar 6 EF), (dH, ar 6 EH), (oS, ob 5 (uF (uF (uF (uF fS 0 (iv pl)) 1 (iv n)) 2 (iv ec)) 3 (iv 0))), (aB, ar 6 B2_19), (aF, ar 6 F2_20), (aH, ar 6 H2_21), (aL, ar 6 L2_22), (oD, ob 0 (uF (uF (uF (uF (uF fD 0 (iv 0)) 1 (iv 0)) 2 (iv 0)) 3 (iv im)) 4 (iv 0))), (oK, ob 9 (uF fK 0 (iv kk))), (ht, ob 6 (uF ft 1 (iv tn))), (oA, aq 4 (lwR ds)), (x9.o, ob 1 (uF (uF x9.f 3 (iv ((yv i.toNat).tp))) 4 (iv ((yv i.toNat).kn)))), (x9.c, ar x9.nc x9.CC), (x9.s, ar x9.nc ((yv i.toNat).S)), (x9.k, ar x9.nk ((yv i.toNat).K))] ++ rs9)) rfl ?_
          refine S_astore_n X dX11_openTown_50 rfl (nle rfl) ?_
          refine S_aload_n X dX11_openTown_51 rfl rfl ?_
          refine S_ifnull (tgt := 59) X dX11_openTown_52 (by decide) (fun h9 => by cases h9) (fun _ _ => ?_)
          refine S_aload_n X dX11_openTown_55 rfl rfl ?_
          refine S_callv X (kX1_forget l x9.o x9.f ((yv i.toNat).tp) ((yv i.toNat).kn) ) (is := [23]) rfl (run_V X lkX11_140 23 rfl rfl (is := [23]) (avs := []) (rest := []) rfl rfl (nle rfl) ⟨nle rfl, nle rfl⟩ ⟨nle rfl, nle rfl⟩ dX11_openTown_56 (by decide) rfl) (fun u_35 hp_36 => ?_)
          have hu_39 := hp_36
          subst hu_39
          refine ⟨rfl, ?_⟩
          refine S_w (ws' := ([(h0, ob 10 (uF f 15 (iv 0))), (oW, ob 7 (uF (uF fW 0 (iv pl)) 1 (iv mt))), (wB, ar 6 B2_4), (wD, ar 6 D2_5), (wK, ar 6 K2_6), (wF, ar 6 F2_7), (wH, ar 6 H2_8), (oR, ob 8 fR), (od, ob 7 (uF (uF fd 0 (iv pl)) 1 (iv mt))), (dB, ar 6 EB), (dD, ar 6 ED), (dK, ar 6 EK), (dF, ar 6 EF), (dH, ar 6 EH), (oS, ob 5 (uF (uF (uF (uF fS 0 (iv pl)) 1 (iv n)) 2 (iv ec)) 3 (iv 0))), (aB, ar 6 B2_19), (aF, ar 6 F2_20), (aH, ar 6 H2_21), (aL, ar 6 L2_22), (oD, ob 0 (uF (uF (uF (uF (uF fD 0 (iv 0)) 1 (iv 0)) 2 (iv 0)) 3 (iv im)) 4 (iv 0))), (oK, ob 9 (uF fK 0 (iv kk))), (ht, ob 6 (uF ft 1 (iv tn))), (oA, aq 4 (lwR ds)), (x9.o, ob 1 (uF (uF x9.f 3 (iv ((yv i.toNat).tp))) 4 (iv 0))), (x9.c, ar x9.nc x9.CC), (x9.s, ar x9.nc ((yv i.toNat).S)), (x9.k, ar x9.nk ((yv i.toNat).K))] ++ rs9)) (by simp only [putC, List.set, List.append_nil, List.cons_append, List.nil_append]) ?_
          refine S_perm (hb9 [(h0, ob 10 (uF f 15 (iv 0))), (oW, ob 7 (uF (uF fW 0 (iv pl)) 1 (iv mt))), (wB, ar 6 B2_4), (wD, ar 6 D2_5), (wK, ar 6 K2_6), (wF, ar 6 F2_7), (wH, ar 6 H2_8), (oR, ob 8 fR), (od, ob 7 (uF (uF fd 0 (iv pl)) 1 (iv mt))), (dB, ar 6 EB), (dD, ar 6 ED), (dK, ar 6 EK), (dF, ar 6 EF), (dH, ar 6 EH), (oS, ob 5 (uF (uF (uF (uF fS 0 (iv pl)) 1 (iv n)) 2 (iv ec)) 3 (iv 0))), (aB, ar 6 B2_19), (aF, ar 6 F2_20), (aH, ar 6 H2_21), (aL, ar 6 L2_22), (oD, ob 0 (uF (uF (uF (uF (uF fD 0 (iv 0)) 1 (iv 0)) 2 (iv 0)) 3 (iv im)) 4 (iv 0))), (oK, ob 9 (uF fK 0 (iv kk))), (ht, ob 6 (uF ft 1 (iv tn))), (oA, aq 4 (lwR ds))] (lwY0 (yv i.toNat).S (yv i.toNat).K (yv i.toNat).tp 0)) ?_
          refine S_iinc X dX11_openTown_59 (nle rfl) hL39_1 ?_
          refine S_goto (tgt := 39) X dX11_openTown_62 (by decide) ?_
          exact ih39 (i + 1) (uN yv i.toNat (lwY0 (yv i.toNat).S (yv i.toNat).K (yv i.toNat).tp 0)) _ (by omega) (fun j x h0 h1 => by unfold uN; split; rfl; exact hkn j x (by omega) h1) hL39_0 rfl (by omega)
        ·
          have hr9 := lwR_no (ds := ds) (j := i) (by omega)
          refine S_aald X 22 rfl (by omega) (by omega) (nle rfl) dX11_openTown_49 ?_
          rw [hr9]
          refine S_astore_nN X dX11_openTown_50 rfl (nle rfl) ?_
          refine S_aload_nN X dX11_openTown_51 rfl rfl ?_
          refine S_ifnull (tgt := 59) X dX11_openTown_52 (by decide) (fun _ => ?_) (fun a9 h9 => by cases h9)
          refine S_iinc X dX11_openTown_59 (nle rfl) hL39_1 ?_
          refine S_goto (tgt := 39) X dX11_openTown_62 (by decide) ?_
          exact ih39 (i + 1) yv _ (by omega) (fun j x h0 h1 => (by omega : (j : Int) < i ∨ i = j).elim (fun q9 => hkn j x q9 h1) (fun q9 => by exfalso; have := (List.getElem?_eq_some_iff.mp h1).1; omega)) hL39_0 rfl (by omega)
  exact lp39_0 (Int.toNat (5 - 0) + 1) 0 ys _ (by omega) (fun j x h0 h1 => by omega) rfl rfl (by omega)
