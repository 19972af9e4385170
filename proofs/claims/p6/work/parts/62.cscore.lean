theorem md60 {x : Int} (h : 0 ≤ x) : x.tmod 60 = x % 60 := Int.tmod_eq_emod_of_nonneg h
set_option maxHeartbeats 4000000 in
set_option maxRecDepth 100000 in
theorem kX6_copyFrom (l : Launch) (fS : Nat → AV) (pl : Int) (n : Int) (ec : Int) (mk : Int) (oS : Nat) (aB : Nat) (aF : Nat) (aH : Nat) (aL : Nat) (B : Int → Int) (Fo : Int → Int) (Ho : Int → Int) (Lt : Int → Int) (oT : Nat) (tB : Nat) (tF : Nat) (tH : Nat) (tL : Nat) (fT : Nat → AV) (TB : Int → Int) (TF : Int → Int) (TH : Int → Int) (TL : Int → Int) (t0 : Int) (t1 : Int) (t2 : Int) (t3 : Int) (hf0 : fS 0 = iv pl) (hf1 : fS 1 = iv n) (hf2 : fS 2 = iv ec) (hf3 : fS 3 = iv mk) (hf4 : fS 4 = rv aB) (hf5 : fS 5 = rv aF) (hf6 : fS 6 = rv aH) (hf7 : fS 7 = rv aL) (hf8 : fT 4 = rv tB) (hf9 : fT 5 = rv tF) (hf10 : fT 6 = rv tH) (hf11 : fT 7 = rv tL) : AMv l yX6_copyFrom cX6_copyFrom 2 1 0 0 [rv oT, rv oS] [(oT, ob 5 (uF (uF (uF (uF fT 0 (iv t0)) 1 (iv t1)) 2 (iv t2)) 3 (iv t3))), (tB, ar 6 TB), (tF, ar 6 TF), (tH, ar 6 TH), (tL, ar 6 TL), (oS, ob 5 fS), (aB, ar 6 B), (aF, ar 6 Fo), (aH, ar 6 Ho), (aL, ar 6 Lt)] (fun u => ∃ B2 : Int → Int, ∃ F2 : Int → Int, ∃ H2 : Int → Int, ∃ L2 : Int → Int, u = [(oT, ob 5 (uF (uF (uF (uF fT 0 (iv pl)) 1 (iv n)) 2 (iv ec)) 3 (iv mk))), (tB, ar 6 B2), (tF, ar 6 F2), (tH, ar 6 H2), (tL, ar 6 L2), (oS, ob 5 fS), (aB, ar 6 B), (aF, ar 6 Fo), (aH, ar 6 Ho), (aL, ar 6 Lt)] ∧ (∀ x, 0 ≤ x → x < 6 → B2 x = B x) ∧ (∀ x, 0 ≤ x → x < 6 → F2 x = Fo x) ∧ (∀ x, 0 ≤ x → x < 6 → H2 x = Ho x) ∧ (∀ x, 0 ≤ x → x < 6 → L2 x = Lt x)) := by
  refine AMv.of2 rfl (nle rfl) ?_
  intro D G A p e s m args below meth c Po hPo hnm X
  refine S_aload_n X dX6_copyFrom_0 rfl rfl ?_
  refine S_aload_n X dX6_copyFrom_1 rfl rfl ?_
  refine S_get X fgX6_33_5 5 rfl hf0 dX6_copyFrom_2 ?_
  refine S_put X fpX6_33_5 0 rfl FT_i dX6_copyFrom_5 ?_
  refine S_w (ws' := [(oT, ob 5 (uF (uF (uF (uF fT 0 (iv pl)) 1 (iv t1)) 2 (iv t2)) 3 (iv t3))), (tB, ar 6 TB), (tF, ar 6 TF), (tH, ar 6 TH), (tL, ar 6 TL), (oS, ob 5 fS), (aB, ar 6 B), (aF, ar 6 Fo), (aH, ar 6 Ho), (aL, ar 6 Lt)]) (by simp only [List.set]; rw [uF_mv (j := 3) (k := 0) (by decide), uF_mv (j := 2) (k := 0) (by decide), uF_mv (j := 1) (k := 0) (by decide), uF_same (k := 0)]) ?_
  refine S_aload_n X dX6_copyFrom_8 rfl rfl ?_
  refine S_aload_n X dX6_copyFrom_9 rfl rfl ?_
  refine S_get X fgX6_9_5 5 rfl hf1 dX6_copyFrom_10 ?_
  refine S_put X fpX6_9_5 0 rfl FT_i dX6_copyFrom_13 ?_
  refine S_w (ws' := [(oT, ob 5 (uF (uF (uF (uF fT 0 (iv pl)) 1 (iv n)) 2 (iv t2)) 3 (iv t3))), (tB, ar 6 TB), (tF, ar 6 TF), (tH, ar 6 TH), (tL, ar 6 TL), (oS, ob 5 fS), (aB, ar 6 B), (aF, ar 6 Fo), (aH, ar 6 Ho), (aL, ar 6 Lt)]) (by simp only [List.set]; rw [uF_mv (j := 3) (k := 1) (by decide), uF_mv (j := 2) (k := 1) (by decide), uF_same (k := 1)]) ?_
  refine S_aload_n X dX6_copyFrom_16 rfl rfl ?_
  refine S_aload_n X dX6_copyFrom_17 rfl rfl ?_
  refine S_get X fgX6_52_5 5 rfl hf2 dX6_copyFrom_18 ?_
  refine S_put X fpX6_52_5 0 rfl FT_i dX6_copyFrom_21 ?_
  refine S_w (ws' := [(oT, ob 5 (uF (uF (uF (uF fT 0 (iv pl)) 1 (iv n)) 2 (iv ec)) 3 (iv t3))), (tB, ar 6 TB), (tF, ar 6 TF), (tH, ar 6 TH), (tL, ar 6 TL), (oS, ob 5 fS), (aB, ar 6 B), (aF, ar 6 Fo), (aH, ar 6 Ho), (aL, ar 6 Lt)]) (by simp only [List.set]; rw [uF_mv (j := 3) (k := 2) (by decide), uF_same (k := 2)]) ?_
  refine S_aload_n X dX6_copyFrom_24 rfl rfl ?_
  refine S_aload_n X dX6_copyFrom_25 rfl rfl ?_
  refine S_get X fgX6_34_5 5 rfl hf3 dX6_copyFrom_26 ?_
  refine S_put X fpX6_34_5 0 rfl FT_i dX6_copyFrom_29 ?_
  refine S_w (ws' := [(oT, ob 5 (uF (uF (uF (uF fT 0 (iv pl)) 1 (iv n)) 2 (iv ec)) 3 (iv mk))), (tB, ar 6 TB), (tF, ar 6 TF), (tH, ar 6 TH), (tL, ar 6 TL), (oS, ob 5 fS), (aB, ar 6 B), (aF, ar 6 Fo), (aH, ar 6 Ho), (aL, ar 6 Lt)]) (by simp only [List.set]; rw [uF_same (k := 3)]) ?_
  refine S_aload_n X dX6_copyFrom_32 rfl rfl ?_
  refine S_get X fgX6_15_5 5 rfl hf4 dX6_copyFrom_33 ?_
  refine S_iconst X dX6_copyFrom_36 ?_
  refine S_aload_n X dX6_copyFrom_37 rfl rfl ?_
  refine S_get X fgX6_15_5 0 rfl hf8 dX6_copyFrom_38 ?_
  refine S_iconst X dX6_copyFrom_41 ?_
  refine S_bipush X dX6_copyFrom_42 rfl ?_
  refine S_copy (sp := 0) (dp := 0) (n := 6) X m637 m632 m631 m97 6 1 rfl rfl (by decide) (by decide) (by decide) (by omega) (by omega) (nle rfl) (nle rfl) (nle rfl) (nle rfl) dX6_copyFrom_44 ?_
  refine S_w (ws' := [(oT, ob 5 (uF (uF (uF (uF fT 0 (iv pl)) 1 (iv n)) 2 (iv ec)) 3 (iv mk))), (tB, ar 6 (cpZ B TB 0 0 6)), (tF, ar 6 TF), (tH, ar 6 TH), (tL, ar 6 TL), (oS, ob 5 fS), (aB, ar 6 B), (aF, ar 6 Fo), (aH, ar 6 Ho), (aL, ar 6 Lt)]) rfl ?_
  refine S_aload_n X dX6_copyFrom_47 rfl rfl ?_
  refine S_get X fgX6_19_5 5 rfl hf5 dX6_copyFrom_48 ?_
  refine S_iconst X dX6_copyFrom_51 ?_
  refine S_aload_n X dX6_copyFrom_52 rfl rfl ?_
  refine S_get X fgX6_19_5 0 rfl hf9 dX6_copyFrom_53 ?_
  refine S_iconst X dX6_copyFrom_56 ?_
  refine S_bipush X dX6_copyFrom_57 rfl ?_
  refine S_copy (sp := 0) (dp := 0) (n := 6) X m637 m632 m631 m97 7 2 rfl rfl (by decide) (by decide) (by decide) (by omega) (by omega) (nle rfl) (nle rfl) (nle rfl) (nle rfl) dX6_copyFrom_59 ?_
  refine S_w (ws' := [(oT, ob 5 (uF (uF (uF (uF fT 0 (iv pl)) 1 (iv n)) 2 (iv ec)) 3 (iv mk))), (tB, ar 6 (cpZ B TB 0 0 6)), (tF, ar 6 (cpZ Fo TF 0 0 6)), (tH, ar 6 TH), (tL, ar 6 TL), (oS, ob 5 fS), (aB, ar 6 B), (aF, ar 6 Fo), (aH, ar 6 Ho), (aL, ar 6 Lt)]) rfl ?_
  refine S_aload_n X dX6_copyFrom_62 rfl rfl ?_
  refine S_get X fgX6_22_5 5 rfl hf6 dX6_copyFrom_63 ?_
  refine S_iconst X dX6_copyFrom_66 ?_
  refine S_aload_n X dX6_copyFrom_67 rfl rfl ?_
  refine S_get X fgX6_22_5 0 rfl hf10 dX6_copyFrom_68 ?_
  refine S_iconst X dX6_copyFrom_71 ?_
  refine S_bipush X dX6_copyFrom_72 rfl ?_
  refine S_copy (sp := 0) (dp := 0) (n := 6) X m637 m632 m631 m97 8 3 rfl rfl (by decide) (by decide) (by decide) (by omega) (by omega) (nle rfl) (nle rfl) (nle rfl) (nle rfl) dX6_copyFrom_74 ?_
  refine S_w (ws' := [(oT, ob 5 (uF (uF (uF (uF fT 0 (iv pl)) 1 (iv n)) 2 (iv ec)) 3 (iv mk))), (tB, ar 6 (cpZ B TB 0 0 6)), (tF, ar 6 (cpZ Fo TF 0 0 6)), (tH, ar 6 (cpZ Ho TH 0 0 6)), (tL, ar 6 TL), (oS, ob 5 fS), (aB, ar 6 B), (aF, ar 6 Fo), (aH, ar 6 Ho), (aL, ar 6 Lt)]) rfl ?_
  refine S_aload_n X dX6_copyFrom_77 rfl rfl ?_
  refine S_get X fgX6_25_5 5 rfl hf7 dX6_copyFrom_78 ?_
  refine S_iconst X dX6_copyFrom_81 ?_
  refine S_aload_n X dX6_copyFrom_82 rfl rfl ?_
  refine S_get X fgX6_25_5 0 rfl hf11 dX6_copyFrom_83 ?_
  refine S_iconst X dX6_copyFrom_86 ?_
  refine S_bipush X dX6_copyFrom_87 rfl ?_
  refine S_copy (sp := 0) (dp := 0) (n := 6) X m637 m632 m631 m97 9 4 rfl rfl (by decide) (by decide) (by decide) (by omega) (by omega) (nle rfl) (nle rfl) (nle rfl) (nle rfl) dX6_copyFrom_89 ?_
  refine S_w (ws' := [(oT, ob 5 (uF (uF (uF (uF fT 0 (iv pl)) 1 (iv n)) 2 (iv ec)) 3 (iv mk))), (tB, ar 6 (cpZ B TB 0 0 6)), (tF, ar 6 (cpZ Fo TF 0 0 6)), (tH, ar 6 (cpZ Ho TH 0 0 6)), (tL, ar 6 (cpZ Lt TL 0 0 6)), (oS, ob 5 fS), (aB, ar 6 B), (aF, ar 6 Fo), (aH, ar 6 Ho), (aL, ar 6 Lt)]) rfl ?_
  exact S_vret X (nle rfl) (nle rfl) dX6_copyFrom_92 (hPo _ (⟨_, _, _, _, rfl, fun x h0 h1 => cpZ_in ⟨h0, h1⟩, fun x h0 h1 => cpZ_in ⟨h0, h1⟩, fun x h0 h1 => cpZ_in ⟨h0, h1⟩, fun x h0 h1 => cpZ_in ⟨h0, h1⟩⟩))
set_option maxHeartbeats 4000000 in
set_option maxRecDepth 100000 in
theorem kX6_open (l : Launch) (oW : Nat) (wB : Nat) (wF : Nat) (wH : Nat) (fW : Nat → AV) (WB : Int → Int) (WF : Int → Int) (WH : Int → Int) (pl : Int) (oT : Nat) (tB : Nat) (tF : Nat) (tH : Nat) (tL : Nat) (fT : Nat → AV) (TB : Int → Int) (TF : Int → Int) (TH : Int → Int) (TL : Int → Int) (t0 : Int) (t1 : Int) (t2 : Int) (t3 : Int) (hf0 : fT 4 = rv tB) (hf1 : fT 5 = rv tF) (hf2 : fT 6 = rv tH) (hf3 : fT 7 = rv tL) (hf4 : fW 2 = rv wB) (hf5 : fW 5 = rv wF) (hf6 : fW 6 = rv wH) (hf7 : fW 0 = iv pl) : AMv l yX6_open cX6_open 2 1 0 0 [rv oT, rv oW] [(oT, ob 5 (uF (uF (uF (uF fT 0 (iv t0)) 1 (iv t1)) 2 (iv t2)) 3 (iv t3))), (tB, ar 6 TB), (tF, ar 6 TF), (tH, ar 6 TH), (tL, ar 6 TL), (oW, ob 7 fW), (wB, ar 6 WB), (wF, ar 6 WF), (wH, ar 6 WH)] (fun u => ∃ B2 : Int → Int, ∃ F2 : Int → Int, ∃ H2 : Int → Int, ∃ L2 : Int → Int, u = [(oT, ob 5 (uF (uF (uF (uF fT 0 (iv pl)) 1 (iv t1)) 2 (iv t2)) 3 (iv 0))), (tB, ar 6 B2), (tF, ar 6 F2), (tH, ar 6 H2), (tL, ar 6 L2), (oW, ob 7 fW), (wB, ar 6 WB), (wF, ar 6 WF), (wH, ar 6 WH)] ∧ (∀ x, 0 ≤ x → x < 6 → B2 x = WB x) ∧ (∀ x, 0 ≤ x → x < 6 → F2 x = WF x) ∧ (∀ x, 0 ≤ x → x < 6 → H2 x = WH x) ∧ (∀ x, 0 ≤ x → x < 6 → L2 x = 0)) := by
  refine AMv.of2 rfl (nle rfl) ?_
  intro D G A p e s m args below meth c Po hPo hnm X
  refine S_aload_n X dX6_open_0 rfl rfl ?_
  refine S_aload_n X dX6_open_1 rfl rfl ?_
  refine S_get X fgX6_28_7 5 rfl hf7 dX6_open_2 ?_
  refine S_put X fpX6_33_5 0 rfl FT_i dX6_open_5 ?_
  refine S_w (ws' := [(oT, ob 5 (uF (uF (uF (uF fT 0 (iv pl)) 1 (iv t1)) 2 (iv t2)) 3 (iv t3))), (tB, ar 6 TB), (tF, ar 6 TF), (tH, ar 6 TH), (tL, ar 6 TL), (oW, ob 7 fW), (wB, ar 6 WB), (wF, ar 6 WF), (wH, ar 6 WH)]) (by simp only [List.set]; rw [uF_mv (j := 3) (k := 0) (by decide), uF_mv (j := 2) (k := 0) (by decide), uF_mv (j := 1) (k := 0) (by decide), uF_same (k := 0)]) ?_
  refine S_aload_n X dX6_open_8 rfl rfl ?_
  refine S_iconst X dX6_open_9 ?_
  refine S_put X fpX6_34_5 0 rfl FT_i dX6_open_10 ?_
  refine S_w (ws' := [(oT, ob 5 (uF (uF (uF (uF fT 0 (iv pl)) 1 (iv t1)) 2 (iv t2)) 3 (iv 0))), (tB, ar 6 TB), (tF, ar 6 TF), (tH, ar 6 TH), (tL, ar 6 TL), (oW, ob 7 fW), (wB, ar 6 WB), (wF, ar 6 WF), (wH, ar 6 WH)]) (by simp only [List.set]; rw [uF_same (k := 3)]) ?_
  refine S_aload_n X dX6_open_13 rfl rfl ?_
  refine S_get X fgX6_37_7 5 rfl hf4 dX6_open_14 ?_
  refine S_iconst X dX6_open_17 ?_
  refine S_aload_n X dX6_open_18 rfl rfl ?_
  refine S_get X fgX6_15_5 0 rfl hf0 dX6_open_19 ?_
  refine S_iconst X dX6_open_22 ?_
  refine S_bipush X dX6_open_23 rfl ?_
  refine S_copy (sp := 0) (dp := 0) (n := 6) X m637 m632 m631 m97 6 1 rfl rfl (by decide) (by decide) (by decide) (by omega) (by omega) (nle rfl) (nle rfl) (nle rfl) (nle rfl) dX6_open_25 ?_
  refine S_w (ws' := [(oT, ob 5 (uF (uF (uF (uF fT 0 (iv pl)) 1 (iv t1)) 2 (iv t2)) 3 (iv 0))), (tB, ar 6 (cpZ WB TB 0 0 6)), (tF, ar 6 TF), (tH, ar 6 TH), (tL, ar 6 TL), (oW, ob 7 fW), (wB, ar 6 WB), (wF, ar 6 WF), (wH, ar 6 WH)]) rfl ?_
  refine S_aload_n X dX6_open_28 rfl rfl ?_
  refine S_get X fgX6_44_7 5 rfl hf5 dX6_open_29 ?_
  refine S_iconst X dX6_open_32 ?_
  refine S_aload_n X dX6_open_33 rfl rfl ?_
  refine S_get X fgX6_19_5 0 rfl hf1 dX6_open_34 ?_
  refine S_iconst X dX6_open_37 ?_
  refine S_bipush X dX6_open_38 rfl ?_
  refine S_copy (sp := 0) (dp := 0) (n := 6) X m637 m632 m631 m97 7 2 rfl rfl (by decide) (by decide) (by decide) (by omega) (by omega) (nle rfl) (nle rfl) (nle rfl) (nle rfl) dX6_open_40 ?_
  refine S_w (ws' := [(oT, ob 5 (uF (uF (uF (uF fT 0 (iv pl)) 1 (iv t1)) 2 (iv t2)) 3 (iv 0))), (tB, ar 6 (cpZ WB TB 0 0 6)), (tF, ar 6 (cpZ WF TF 0 0 6)), (tH, ar 6 TH), (tL, ar 6 TL), (oW, ob 7 fW), (wB, ar 6 WB), (wF, ar 6 WF), (wH, ar 6 WH)]) rfl ?_
  refine S_aload_n X dX6_open_43 rfl rfl ?_
  refine S_get X fgX6_45_7 5 rfl hf6 dX6_open_44 ?_
  refine S_iconst X dX6_open_47 ?_
  refine S_aload_n X dX6_open_48 rfl rfl ?_
  refine S_get X fgX6_22_5 0 rfl hf2 dX6_open_49 ?_
  refine S_iconst X dX6_open_52 ?_
  refine S_bipush X dX6_open_53 rfl ?_
  refine S_copy (sp := 0) (dp := 0) (n := 6) X m637 m632 m631 m97 8 3 rfl rfl (by decide) (by decide) (by decide) (by omega) (by omega) (nle rfl) (nle rfl) (nle rfl) (nle rfl) dX6_open_55 ?_
  refine S_w (ws' := [(oT, ob 5 (uF (uF (uF (uF fT 0 (iv pl)) 1 (iv t1)) 2 (iv t2)) 3 (iv 0))), (tB, ar 6 (cpZ WB TB 0 0 6)), (tF, ar 6 (cpZ WF TF 0 0 6)), (tH, ar 6 (cpZ WH TH 0 0 6)), (tL, ar 6 TL), (oW, ob 7 fW), (wB, ar 6 WB), (wF, ar 6 WF), (wH, ar 6 WH)]) rfl ?_
  refine S_aload_n X dX6_open_58 rfl rfl ?_
  refine S_get X fgX6_25_5 0 rfl hf3 dX6_open_59 ?_
  refine S_iconst X dX6_open_62 ?_
  refine S_callv X (kJ7_fill_53178 l tL 6 TL 0 (by omega)) (is := [4]) rfl (run_S X lkX6_46 (is := [4]) (avs := [rv tL, iv 0]) (rest := []) rfl rfl (nle rfl) ⟨nle rfl, nle rfl⟩ ⟨nle rfl, nle rfl⟩ dX6_open_63 (by decide) rfl) (fun u_1 hp_2 => ?_)
  obtain ⟨g2_4, hu_6, hg2_7⟩ := hp_2
  subst hu_6
  refine ⟨rfl, ?_⟩
  refine S_w (ws' := [(oT, ob 5 (uF (uF (uF (uF fT 0 (iv pl)) 1 (iv t1)) 2 (iv t2)) 3 (iv 0))), (tB, ar 6 (cpZ WB TB 0 0 6)), (tF, ar 6 (cpZ WF TF 0 0 6)), (tH, ar 6 (cpZ WH TH 0 0 6)), (tL, ar 6 g2_4), (oW, ob 7 fW), (wB, ar 6 WB), (wF, ar 6 WF), (wH, ar 6 WH)]) rfl ?_
  exact S_vret X (nle rfl) (nle rfl) dX6_open_66 (hPo _ (⟨_, _, _, _, rfl, fun x h0 h1 => cpZ_in ⟨h0, h1⟩, fun x h0 h1 => cpZ_in ⟨h0, h1⟩, fun x h0 h1 => cpZ_in ⟨h0, h1⟩, hg2_7⟩))
set_option maxHeartbeats 4000000 in
set_option maxRecDepth 100000 in
theorem kX6_aheadOf (l : Launch) (fS : Nat → AV) (pl : Int) (oS : Nat) (aF : Nat) (Fo : Int → Int) (q : Int) (k9 : Int) (hf0 : fS 5 = rv aF) (hpl : pl ≤ 6) (hF : ∀ p, 0 ≤ p → p < pl → -1 ≤ Fo p ∧ Fo p < pl) (hq : 0 ≤ q ∧ q < pl) (hk9 : 0 ≤ k9 ∧ k9 ≤ 6) : AMi l yX6_aheadOf cX6_aheadOf 5 .int 0 0 0 [rv oS, iv q, iv k9] [(oS, ob 5 fS), (aF, ar 6 Fo)] (fun z u => z = itI Fo k9 q ∧ u = [(oS, ob 5 fS), (aF, ar 6 Fo)]) := by
  refine AMi.of2 rfl (nle rfl) ?_
  intro D G A p e s m args below meth c Po hPo X
  refine S_iload_n X dX6_aheadOf_0 rfl rfl ?_
  refine S_istore_n X dX6_aheadOf_1 rfl (nle rfl) ?_
  refine S_iconst X dX6_aheadOf_2 ?_
  refine S_istore X dX6_aheadOf_3 (nle rfl) ?_
  have lp5_0 : ∀ (N : Nat) (i : Int) (x : Int) (L : Nat → Option AV), 0 ≤ i ∧ i ≤ k9 → -1 ≤ x ∧ x < pl → x = itI Fo i q → L 0 = some (rv oS) → L 1 = some (iv q) → L 2 = some (iv k9) → L 3 = some (iv x) → L 4 = some (iv i) → k9 + 1 - i < (N : Int) → S_ p l e (rmD 0 0 0) s m args below meth c (MQ below (QcI D G A Po) args s 0 0 A) D G A 5 0 0 5 L [] [(oS, ob 5 fS), (aF, ar 6 Fo)] := by
    intro N
    induction N with
    | zero =>
      intro i x L5 hi hx hit hL5_0 hL5_1 hL5_2 hL5_3 hL5_4 hN5
      exfalso; omega
    | succ N ih5 =>
      intro i x L5 hi hx hit hL5_0 hL5_1 hL5_2 hL5_3 hL5_4 hN5
      refine S_iload X dX6_aheadOf_5 hL5_4 ?_
      refine S_iload_n X dX6_aheadOf_7 rfl hL5_2 ?_
      refine S_icmp_ge (tgt := 34) X dX6_aheadOf_8 (by decide) (by omega) (by omega) (fun c_1 => ?_) (fun c_1 => ?_)
      ·
        refine S_iload_n X dX6_aheadOf_34 rfl hL5_3 ?_
        exact S_iret X (nle rfl) (nle rfl) dX6_aheadOf_35 (hPo _ _ (⟨ring_end hi hit (by omega), rfl⟩))
      ·
        refine S_iload_n X dX6_aheadOf_11 rfl hL5_3 ?_
        refine S_if_lt (tgt := 34) X dX6_aheadOf_12 (by decide) (by omega) (fun c_2 => ?_) (fun c_2 => ?_)
        ·
          refine S_iload_n X dX6_aheadOf_34 rfl hL5_3 ?_
          exact S_iret X (nle rfl) (nle rfl) dX6_aheadOf_35 (hPo _ _ (⟨ring_end hi hit (by omega), rfl⟩))
        ·
          refine S_iload_n X dX6_aheadOf_15 rfl hL5_3 ?_
          refine S_bipush X dX6_aheadOf_16 rfl ?_
          refine S_icmp_ge (tgt := 34) X dX6_aheadOf_18 (by decide) (by omega) (by decide) (fun c_3 => by exfalso; omega) (fun c_3 => ?_)
          have hfx := hF x (by omega) (by omega)
          refine S_aload_n X dX6_aheadOf_21 rfl hL5_0 ?_
          refine S_get X fgX6_19_5 0 rfl hf0 dX6_aheadOf_22 ?_
          refine S_iload_n X dX6_aheadOf_25 rfl hL5_3 ?_
          refine S_iald X 1 rfl (by omega) (by omega) (nle rfl) dX6_aheadOf_26 ?_
          refine S_istore_n X dX6_aheadOf_27 rfl (nle rfl) ?_
          refine S_iinc X dX6_aheadOf_28 (nle rfl) hL5_4 ?_
          refine S_goto (tgt := 5) X dX6_aheadOf_31 (by decide) ?_
          exact ih5 (i + 1) (Fo x) _ (by omega) (by omega) (by rw [itI_S (by omega), ← hit, if_neg (by omega)]) hL5_0 hL5_1 hL5_2 rfl rfl (by omega)
  exact lp5_0 (Int.toNat (k9 + 1 - 0) + 1) 0 q _ (by omega) (by omega) ((itI_0 (F := Fo)).symm) rfl rfl rfl rfl rfl (by omega)
set_option maxHeartbeats 4000000 in
set_option maxRecDepth 100000 in
theorem kX8_drifted (l : Launch) (oW : Nat) (wD : Nat) (wK : Nat) (fW : Nat → AV) (WD : Int → Int) (WK : Int → Int) (i : Int) (be : Int) (da : Int) (su : Int) (hf0 : fW 3 = rv wD) (hf1 : fW 4 = rv wK) (hi : 0 ≤ i ∧ i ≤ 5) (hd : 0 ≤ WD i ∧ WD i ≤ 9) (hk : 0 ≤ WK i ∧ WK i ≤ 3) (hbe : 1 ≤ be ∧ be ≤ 199) (hda : 0 ≤ da ∧ da ≤ 1000) (hsu : 0 ≤ su ∧ su ≤ 1000) : AMi l yX8_drifted cX8_drifted 6 .int 1 0 0 [rv oW, iv i, iv be, iv da, iv su] [(oW, ob 7 fW), (wD, ar 6 WD), (wK, ar 6 WK)] (fun z u => z = drF (WK i) (WD i) da su be ∧ u = [(oW, ob 7 fW), (wD, ar 6 WD), (wK, ar 6 WK)]) := by
  refine AMi.of2 rfl (nle rfl) ?_
  intro D G A p e s m args below meth c Po hPo X
  have hm1 := mul9 hd hda
  have hm2 := mul9 hd hsu
  have htm1 := Int.tmod_lt_of_pos (WK i) (b := 2) (by decide)
  have htm2 := Int.lt_tmod_of_pos (WK i) (b := 2) (by decide)
  refine S_aload_n X dX8_drifted_0 rfl rfl ?_
  refine S_get X fgX8_19_7 0 rfl hf0 dX8_drifted_1 ?_
  refine S_iload_n X dX8_drifted_4 rfl rfl ?_
  refine S_iald X 1 rfl (by omega) (by omega) (nle rfl) dX8_drifted_5 ?_
  refine S_aload_n X dX8_drifted_6 rfl rfl ?_
  refine S_get X fgX8_22_7 0 rfl hf1 dX8_drifted_7 ?_
  refine S_iload_n X dX8_drifted_10 rfl rfl ?_
  refine S_iald X 2 rfl (by omega) (by omega) (nle rfl) dX8_drifted_11 ?_
  refine S_iconst X dX8_drifted_12 ?_
  refine S_icmp_ge (tgt := 20) X dX8_drifted_13 (by decide) (by omega) (by decide) (fun c_1 => ?_) (fun c_1 => ?_)
  ·
    refine S_iload X dX8_drifted_20 rfl ?_
    refine S_imul X dX8_drifted_22 ?_
    refine S_istore X dX8_drifted_23 (nle rfl) ?_
    refine S_aload_n X dX8_drifted_25 rfl rfl ?_
    refine S_get X fgX8_22_7 0 rfl hf1 dX8_drifted_26 ?_
    refine S_iload_n X dX8_drifted_29 rfl rfl ?_
    refine S_iald X 2 rfl (by omega) (by omega) (nle rfl) dX8_drifted_30 ?_
    refine S_iconst X dX8_drifted_31 ?_
    refine S_irem X (by omega) (by decide) (by decide) dX8_drifted_32 ?_
    refine S_if_ne (tgt := 43) X dX8_drifted_33 (by decide) (by omega) (fun c_2 => ?_) (fun c_2 => ?_)
    ·
      refine S_iload_n X dX8_drifted_43 rfl rfl ?_
      refine S_iload X dX8_drifted_44 rfl ?_
      refine S_isub X dX8_drifted_46 ?_
      refine S_iconst X dX8_drifted_47 ?_
      refine S_sipush X dX8_drifted_48 rfl ?_
      refine S_calli X (kX11_held l (be - ((WD i) * su)) 1 199 (by omega) (by omega) (by omega) (by omega)) (is := []) rfl (run_SN X lkX8_40 (is := []) (avs := [iv (be - ((WD i) * su)), iv 1, iv 199]) (rest := []) rfl rfl (nle rfl) ⟨nle rfl, nle rfl⟩ ⟨nle rfl, nle rfl⟩ dX8_drifted_51 (by decide) rfl) (fun z_5 u_3 hp_4 => ?_)
      obtain ⟨hz_6, hu_7⟩ := hp_4
      subst hz_6
      subst hu_7
      refine ⟨rfl, ?_⟩
      refine S_w (ws' := [(oW, ob 7 fW), (wD, ar 6 WD), (wK, ar 6 WK)]) rfl ?_
      exact S_iret X (nle rfl) (nle rfl) dX8_drifted_54 (hPo _ _ (⟨by unfold drF; (repeat' split) <;> first | rfl | (exfalso; omega), rfl⟩))
    ·
      refine S_iload_n X dX8_drifted_36 rfl rfl ?_
      refine S_iload X dX8_drifted_37 rfl ?_
      refine S_iadd X dX8_drifted_39 ?_
      refine S_goto (tgt := 47) X dX8_drifted_40 (by decide) ?_
      refine S_iconst X dX8_drifted_47 ?_
      refine S_sipush X dX8_drifted_48 rfl ?_
      refine S_calli X (kX11_held l (be + ((WD i) * su)) 1 199 (by omega) (by omega) (by omega) (by omega)) (is := []) rfl (run_SN X lkX8_40 (is := []) (avs := [iv (be + ((WD i) * su)), iv 1, iv 199]) (rest := []) rfl rfl (nle rfl) ⟨nle rfl, nle rfl⟩ ⟨nle rfl, nle rfl⟩ dX8_drifted_51 (by decide) rfl) (fun z_10 u_8 hp_9 => ?_)
      obtain ⟨hz_11, hu_12⟩ := hp_9
      subst hz_11
      subst hu_12
      refine ⟨rfl, ?_⟩
      refine S_w (ws' := [(oW, ob 7 fW), (wD, ar 6 WD), (wK, ar 6 WK)]) rfl ?_
      exact S_iret X (nle rfl) (nle rfl) dX8_drifted_54 (hPo _ _ (⟨by unfold drF; (repeat' split) <;> first | rfl | (exfalso; omega), rfl⟩))
  ·
    refine S_iload_n X dX8_drifted_16 rfl rfl ?_
    refine S_goto (tgt := 22) X dX8_drifted_17 (by decide) ?_
    refine S_imul X dX8_drifted_22 ?_
    refine S_istore X dX8_drifted_23 (nle rfl) ?_
    refine S_aload_n X dX8_drifted_25 rfl rfl ?_
    refine S_get X fgX8_22_7 0 rfl hf1 dX8_drifted_26 ?_
    refine S_iload_n X dX8_drifted_29 rfl rfl ?_
    refine S_iald X 2 rfl (by omega) (by omega) (nle rfl) dX8_drifted_30 ?_
    refine S_iconst X dX8_drifted_31 ?_
    refine S_irem X (by omega) (by decide) (by decide) dX8_drifted_32 ?_
    refine S_if_ne (tgt := 43) X dX8_drifted_33 (by decide) (by omega) (fun c_13 => ?_) (fun c_13 => ?_)
    ·
      refine S_iload_n X dX8_drifted_43 rfl rfl ?_
      refine S_iload X dX8_drifted_44 rfl ?_
      refine S_isub X dX8_drifted_46 ?_
      refine S_iconst X dX8_drifted_47 ?_
      refine S_sipush X dX8_drifted_48 rfl ?_
      refine S_calli X (kX11_held l (be - ((WD i) * da)) 1 199 (by omega) (by omega) (by omega) (by omega)) (is := []) rfl (run_SN X lkX8_40 (is := []) (avs := [iv (be - ((WD i) * da)), iv 1, iv 199]) (rest := []) rfl rfl (nle rfl) ⟨nle rfl, nle rfl⟩ ⟨nle rfl, nle rfl⟩ dX8_drifted_51 (by decide) rfl) (fun z_16 u_14 hp_15 => ?_)
      obtain ⟨hz_17, hu_18⟩ := hp_15
      subst hz_17
      subst hu_18
      refine ⟨rfl, ?_⟩
      refine S_w (ws' := [(oW, ob 7 fW), (wD, ar 6 WD), (wK, ar 6 WK)]) rfl ?_
      exact S_iret X (nle rfl) (nle rfl) dX8_drifted_54 (hPo _ _ (⟨by unfold drF; (repeat' split) <;> first | rfl | (exfalso; omega), rfl⟩))
    ·
      refine S_iload_n X dX8_drifted_36 rfl rfl ?_
      refine S_iload X dX8_drifted_37 rfl ?_
      refine S_iadd X dX8_drifted_39 ?_
      refine S_goto (tgt := 47) X dX8_drifted_40 (by decide) ?_
      refine S_iconst X dX8_drifted_47 ?_
      refine S_sipush X dX8_drifted_48 rfl ?_
      refine S_calli X (kX11_held l (be + ((WD i) * da)) 1 199 (by omega) (by omega) (by omega) (by omega)) (is := []) rfl (run_SN X lkX8_40 (is := []) (avs := [iv (be + ((WD i) * da)), iv 1, iv 199]) (rest := []) rfl rfl (nle rfl) ⟨nle rfl, nle rfl⟩ ⟨nle rfl, nle rfl⟩ dX8_drifted_51 (by decide) rfl) (fun z_21 u_19 hp_20 => ?_)
      obtain ⟨hz_22, hu_23⟩ := hp_20
      subst hz_22
      subst hu_23
      refine ⟨rfl, ?_⟩
      refine S_w (ws' := [(oW, ob 7 fW), (wD, ar 6 WD), (wK, ar 6 WK)]) rfl ?_
      exact S_iret X (nle rfl) (nle rfl) dX8_drifted_54 (hPo _ _ (⟨by unfold drF; (repeat' split) <;> first | rfl | (exfalso; omega), rfl⟩))
set_option maxHeartbeats 4000000 in
set_option maxRecDepth 100000 in
theorem kX8_goThroughDay (l : Launch) (oW : Nat) (wD : Nat) (wK : Nat) (fW : Nat → AV) (WD : Int → Int) (WK : Int → Int) (pl : Int) (mt : Int) (aN : Nat) (N9 : Int → Int) (ho9 : Int) (wet : Int) (hf0 : fW 3 = rv wD) (hf1 : fW 4 = rv wK) (hf2 : fW 0 = iv pl) (hf3 : fW 1 = iv mt) (hpl : 0 ≤ pl ∧ pl ≤ 6) (hod : okDy pl mt WK WD) (hN : ∀ p, 0 ≤ p → p < pl → 1 ≤ N9 p ∧ N9 p ≤ 199) (hwet : 0 ≤ wet ∧ wet ≤ 9) (hho : -1 ≤ ho9 ∧ ho9 ≤ 5) : AMv l yX8_goThroughDay cX8_goThroughDay 5 2 0 0 [rv oW, rv aN, iv ho9, iv wet] [(oW, ob 7 fW), (wD, ar 6 WD), (wK, ar 6 WK), (aN, ar 6 N9)] (fun u => ∃ N2 : Int → Int, u = [(oW, ob 7 fW), (wD, ar 6 WD), (wK, ar 6 WK), (aN, ar 6 N2)] ∧ N2 = (paF WK WD mt ho9 wet pl N9)) := by
  refine AMv.of2 rfl (nle rfl) ?_
  intro D G A p e s m args below meth c Po hPo hnm X
  refine S_iconst X dX8_goThroughDay_0 ?_
  refine S_istore X dX8_goThroughDay_1 (nle rfl) ?_
  have lp3_0 : ∀ (N : Nat) (i : Int) (Nv : Int → Int) (L : Nat → Option AV), 0 ≤ i ∧ i ≤ pl → (∀ x, 0 ≤ x → x < i → Nv x = (paF WK WD mt ho9 wet pl N9) x) → (∀ x, x < 0 ∨ i ≤ x → Nv x = N9 x) → L 0 = some (rv oW) → L 1 = some (rv aN) → L 2 = some (iv ho9) → L 3 = some (iv wet) → L 4 = some (iv i) → pl + 1 - i < (N : Int) → S_ p l e (rmD 2 0 0) s m args below meth c (MQ below (QcV D G A Po) args s 0 0 A) D G A 5 0 0 3 L [] [(oW, ob 7 fW), (wD, ar 6 WD), (wK, ar 6 WK), (aN, ar 6 Nv)] := by
    intro N
    induction N with
    | zero =>
      intro i Nv L3 hi hk hk2 hL3_0 hL3_1 hL3_2 hL3_3 hL3_4 hN3
      exfalso; omega
    | succ N ih3 =>
      intro i Nv L3 hi hk hk2 hL3_0 hL3_1 hL3_2 hL3_3 hL3_4 hN3
      refine S_iload X dX8_goThroughDay_3 hL3_4 ?_
      refine S_aload_n X dX8_goThroughDay_5 rfl hL3_0 ?_
      refine S_get X fgX8_31_7 0 rfl hf2 dX8_goThroughDay_6 ?_
      refine S_icmp_ge (tgt := 54) X dX8_goThroughDay_9 (by decide) (by omega) (by omega) (fun c_1 => ?_) (fun c_1 => ?_)
      ·
        exact S_vret X (nle rfl) (nle rfl) dX8_goThroughDay_54 (hPo _ (⟨_, rfl, by funext x; by_cases h9 : 0 ≤ x ∧ x < pl; exact hk x h9.1 (by omega); rw [hk2 x (by omega)]; unfold paF; rw [if_neg h9]⟩))
      ·
        refine S_iload X dX8_goThroughDay_12 hL3_4 ?_
        refine S_aload_n X dX8_goThroughDay_14 rfl hL3_1 ?_
        refine S_alen X 3 rfl dX8_goThroughDay_15 ?_
        refine S_icmp_ge (tgt := 54) X dX8_goThroughDay_16 (by decide) (by omega) (by decide) (fun c_2 => by exfalso; omega) (fun c_2 => ?_)
        have hod9 := hod.2.2 i (by omega) (by omega)
        have hnv := hk2 i (by omega)
        have hnr := hN i (by omega) (by omega)
        have hpv : (paF WK WD mt ho9 wet pl N9) i = if i = ho9 then mt else drF (WK i) (WD i) 1 wet (N9 i) := if_pos ⟨by omega, by omega⟩
        refine S_aload_n X dX8_goThroughDay_19 rfl hL3_1 ?_
        refine S_iload X dX8_goThroughDay_20 hL3_4 ?_
        refine S_iload X dX8_goThroughDay_22 hL3_4 ?_
        refine S_iload_n X dX8_goThroughDay_24 rfl hL3_2 ?_
        refine S_icmp_ne (tgt := 35) X dX8_goThroughDay_25 (by decide) (by omega) (by omega) (fun c_3 => ?_) (fun c_3 => ?_)
        ·
          refine S_aload_n X dX8_goThroughDay_35 rfl hL3_0 ?_
          refine S_iload X dX8_goThroughDay_36 hL3_4 ?_
          refine S_aload_n X dX8_goThroughDay_38 rfl hL3_1 ?_
          refine S_iload X dX8_goThroughDay_39 hL3_4 ?_
          refine S_iald X 3 rfl (by omega) (by omega) (nle rfl) dX8_goThroughDay_41 ?_
          refine S_iconst X dX8_goThroughDay_42 ?_
          refine S_iload_n X dX8_goThroughDay_43 rfl hL3_3 ?_
          refine S_calli X (kX8_drifted l oW wD wK fW WD WK i (Nv i) 1 wet hf0 hf1 (by omega) (by omega) (by omega) (by omega) (by omega) (by omega)) (is := [0, 1, 2]) rfl (run_V X lkX8_44 0 rfl rfl (is := [0, 1, 2]) (avs := [iv i, iv (Nv i), iv 1, iv wet]) (rest := [iv i, rv aN]) rfl rfl (nle rfl) ⟨nle rfl, nle rfl⟩ ⟨nle rfl, nle rfl⟩ dX8_goThroughDay_44 (by decide) rfl) (fun z_6 u_4 hp_5 => ?_)
          obtain ⟨hz_7, hu_8⟩ := hp_5
          subst hz_7
          subst hu_8
          refine ⟨rfl, ?_⟩
          refine S_w (ws' := [(oW, ob 7 fW), (wD, ar 6 WD), (wK, ar 6 WK), (aN, ar 6 Nv)]) rfl ?_
          refine S_iast X 3 rfl (by omega) (by omega) (nle rfl) dX8_goThroughDay_47 ?_
          refine S_w (ws' := [(oW, ob 7 fW), (wD, ar 6 WD), (wK, ar 6 WK), (aN, ar 6 (uZ Nv i (drF (WK i) (WD i) 1 wet (Nv i))))]) rfl ?_
          refine S_iinc X dX8_goThroughDay_48 (nle rfl) hL3_4 ?_
          refine S_goto (tgt := 3) X dX8_goThroughDay_51 (by decide) ?_
          exact ih3 (i + 1) (uZ Nv i (drF (WK i) (WD i) 1 wet (Nv i))) _ (by omega) (fun x h0 h1 => (by omega : x < i ∨ x = i).elim (fun q9 => by rw [uZ_ne (by omega)]; exact hk x h0 q9) (fun q9 => by rw [q9, uZ_at, hpv]; first | (rw [if_pos (by omega)]) | (rw [if_neg (by omega), hnv]))) (fun x h => by rw [uZ_ne (by omega)]; exact hk2 x (by omega)) hL3_0 hL3_1 hL3_2 hL3_3 rfl (by omega)
        ·
          refine S_aload_n X dX8_goThroughDay_28 rfl hL3_0 ?_
          refine S_get X fgX8_9_7 0 rfl hf3 dX8_goThroughDay_29 ?_
          refine S_goto (tgt := 47) X dX8_goThroughDay_32 (by decide) ?_
          refine S_iast X 3 rfl (by omega) (by omega) (nle rfl) dX8_goThroughDay_47 ?_
          refine S_w (ws' := [(oW, ob 7 fW), (wD, ar 6 WD), (wK, ar 6 WK), (aN, ar 6 (uZ Nv i mt))]) rfl ?_
          refine S_iinc X dX8_goThroughDay_48 (nle rfl) hL3_4 ?_
          refine S_goto (tgt := 3) X dX8_goThroughDay_51 (by decide) ?_
          exact ih3 (i + 1) (uZ Nv i mt) _ (by omega) (fun x h0 h1 => (by omega : x < i ∨ x = i).elim (fun q9 => by rw [uZ_ne (by omega)]; exact hk x h0 q9) (fun q9 => by rw [q9, uZ_at, hpv]; first | (rw [if_pos (by omega)]) | (rw [if_neg (by omega), hnv]))) (fun x h => by rw [uZ_ne (by omega)]; exact hk2 x (by omega)) hL3_0 hL3_1 hL3_2 hL3_3 rfl (by omega)
  exact lp3_0 (Int.toNat (pl + 1 - 0) + 1) 0 N9 _ (by omega) (fun x h0 h1 => by omega) (fun x h => rfl) rfl rfl rfl rfl rfl (by omega)
set_option maxHeartbeats 4000000 in
set_option maxRecDepth 100000 in
theorem kX0_open (l : Launch) (oD : Nat) (fD : Nat → AV) (td : Int) (un : Int) (hi : Int) (im : Int) (nx : Int) : AMv l yX0_open cX0_open 1 0 0 0 [rv oD] [(oD, ob 0 (uF (uF (uF (uF (uF fD 0 (iv td)) 1 (iv un)) 2 (iv hi)) 3 (iv im)) 4 (iv nx)))] (fun u => u = [(oD, ob 0 (uF (uF (uF (uF (uF fD 0 (iv 0)) 1 (iv 0)) 2 (iv 0)) 3 (iv im)) 4 (iv 0)))]) := by
  refine AMv.of2 rfl (nle rfl) ?_
  intro D G A p e s m args below meth c Po hPo hnm X
  refine S_aload_n X dX0_open_0 rfl rfl ?_
  refine S_iconst X dX0_open_1 ?_
  refine S_put X fpX0_18_0 0 rfl FT_i dX0_open_2 ?_
  refine S_w (ws' := [(oD, ob 0 (uF (uF (uF (uF (uF fD 0 (iv 0)) 1 (iv un)) 2 (iv hi)) 3 (iv im)) 4 (iv nx)))]) (by simp only [List.set]; rw [uF_mv (j := 4) (k := 0) (by decide), uF_mv (j := 3) (k := 0) (by decide), uF_mv (j := 2) (k := 0) (by decide), uF_mv (j := 1) (k := 0) (by decide), uF_same (k := 0)]) ?_
  refine S_aload_n X dX0_open_5 rfl rfl ?_
  refine S_iconst X dX0_open_6 ?_
  refine S_put X fpX0_22_0 0 rfl FT_i dX0_open_7 ?_
  refine S_w (ws' := [(oD, ob 0 (uF (uF (uF (uF (uF fD 0 (iv 0)) 1 (iv 0)) 2 (iv hi)) 3 (iv im)) 4 (iv nx)))]) (by simp only [List.set]; rw [uF_mv (j := 4) (k := 1) (by decide), uF_mv (j := 3) (k := 1) (by decide), uF_mv (j := 2) (k := 1) (by decide), uF_same (k := 1)]) ?_
  refine S_aload_n X dX0_open_10 rfl rfl ?_
  refine S_iconst X dX0_open_11 ?_
  refine S_put X fpX0_25_0 0 rfl FT_i dX0_open_12 ?_
  refine S_w (ws' := [(oD, ob 0 (uF (uF (uF (uF (uF fD 0 (iv 0)) 1 (iv 0)) 2 (iv hi)) 3 (iv im)) 4 (iv 0)))]) (by simp only [List.set]; rw [uF_same (k := 4)]) ?_
  refine S_aload_n X dX0_open_15 rfl rfl ?_
  refine S_iconst X dX0_open_16 ?_
  refine S_put X fpX0_28_0 0 rfl (FT_b (Or.inl rfl)) dX0_open_17 ?_
  refine S_w (ws' := [(oD, ob 0 (uF (uF (uF (uF (uF fD 0 (iv 0)) 1 (iv 0)) 2 (iv 0)) 3 (iv im)) 4 (iv 0)))]) (by simp only [List.set]; rw [uF_mv (j := 4) (k := 2) (by decide), uF_mv (j := 3) (k := 2) (by decide), uF_same (k := 2)]) ?_
  exact S_vret X (nle rfl) (nle rfl) dX0_open_20 (hPo _ (rfl))
set_option maxHeartbeats 4000000 in
set_option maxRecDepth 100000 in
theorem kX0_keep (l : Launch) (oD : Nat) (fD : Nat → AV) (dR : Nat) (DR : Int → Int) (td : Int) (un : Int) (hi : Int) (im : Int) (nx : Int) (aN : Nat) (N9 : Int → Int) (hf0 : fD 6 = rv dR) (hnx : 0 ≤ nx ∧ nx ≤ 59) (hun : 0 ≤ un ∧ un ≤ 60) : AMv l yX0_keep cX0_keep 2 1 0 0 [rv oD, rv aN] [(oD, ob 0 (uF (uF (uF (uF (uF fD 0 (iv td)) 1 (iv un)) 2 (iv hi)) 3 (iv im)) 4 (iv nx))), (dR, ar 360 DR), (aN, ar 6 N9)] (fun u => u = [(oD, ob 0 (uF (uF (uF (uF (uF fD 0 (iv td)) 1 (iv (min (un + 1) 60))) 2 (iv hi)) 3 (iv im)) 4 (iv ((nx + 1).tmod 60)))), (dR, ar 360 (cpZ N9 DR 0 (nx * 6) 6)), (aN, ar 6 N9)]) := by
  refine AMv.of2 rfl (nle rfl) ?_
  intro D G A p e s m args below meth c Po hPo hnm X
  refine S_aload_n X dX0_keep_0 rfl rfl ?_
  refine S_iconst X dX0_keep_1 ?_
  refine S_aload_n X dX0_keep_2 rfl rfl ?_
  refine S_get X fgX0_15_0 0 rfl hf0 dX0_keep_3 ?_
  refine S_aload_n X dX0_keep_6 rfl rfl ?_
  refine S_get (v := iv nx) X fgX0_25_0 0 rfl rfl dX0_keep_7 ?_
  refine S_bipush X dX0_keep_10 rfl ?_
  refine S_imul X dX0_keep_12 ?_
  refine S_bipush X dX0_keep_13 rfl ?_
  refine S_copy (sp := 0) (dp := nx * 6) (n := 6) X m770 m632 m631 m97 2 1 rfl rfl (by decide) (by omega) (by decide) (by omega) (by omega) (nle rfl) (nle rfl) (nle rfl) (nle rfl) dX0_keep_15 ?_
  refine S_w (ws' := [(oD, ob 0 (uF (uF (uF (uF (uF fD 0 (iv td)) 1 (iv un)) 2 (iv hi)) 3 (iv im)) 4 (iv nx))), (dR, ar 360 (cpZ N9 DR 0 (nx * 6) 6)), (aN, ar 6 N9)]) rfl ?_
  refine S_aload_n X dX0_keep_18 rfl rfl ?_
  refine S_aload_n X dX0_keep_19 rfl rfl ?_
  refine S_get (v := iv nx) X fgX0_25_0 0 rfl rfl dX0_keep_20 ?_
  refine S_iconst X dX0_keep_23 ?_
  refine S_iadd X dX0_keep_24 ?_
  refine S_bipush X dX0_keep_25 rfl ?_
  refine S_irem X (by omega) (by decide) (by decide) dX0_keep_27 ?_
  refine S_put X fpX0_25_0 0 rfl FT_i dX0_keep_28 ?_
  refine S_w (ws' := [(oD, ob 0 (uF (uF (uF (uF (uF fD 0 (iv td)) 1 (iv un)) 2 (iv hi)) 3 (iv im)) 4 (iv ((nx + 1).tmod 60)))), (dR, ar 360 (cpZ N9 DR 0 (nx * 6) 6)), (aN, ar 6 N9)]) (by simp only [List.set]; rw [uF_same (k := 4)]) ?_
  refine S_aload_n X dX0_keep_31 rfl rfl ?_
  refine S_aload_n X dX0_keep_32 rfl rfl ?_
  refine S_get (v := iv un) X fgX0_22_0 0 rfl rfl dX0_keep_33 ?_
  refine S_iconst X dX0_keep_36 ?_
  refine S_iadd X dX0_keep_37 ?_
  refine S_bipush X dX0_keep_38 rfl ?_
  refine S_mmin X lkX0_38 rfl rfl (by omega) (by decide) (nle rfl) (nle rfl) (nle rfl) (nle rfl) dX0_keep_40 ?_
  refine S_put X fpX0_22_0 0 rfl FT_i dX0_keep_43 ?_
  refine S_w (ws' := [(oD, ob 0 (uF (uF (uF (uF (uF fD 0 (iv td)) 1 (iv (min (un + 1) 60))) 2 (iv hi)) 3 (iv im)) 4 (iv ((nx + 1).tmod 60)))), (dR, ar 360 (cpZ N9 DR 0 (nx * 6) 6)), (aN, ar 6 N9)]) (by simp only [List.set]; rw [uF_mv (j := 4) (k := 1) (by decide), uF_mv (j := 3) (k := 1) (by decide), uF_mv (j := 2) (k := 1) (by decide), uF_same (k := 1)]) ?_
  exact S_vret X (nle rfl) (nle rfl) dX0_keep_46 (hPo _ (rfl))
set_option maxHeartbeats 4000000 in
set_option maxRecDepth 100000 in
theorem kX0_takeBack (l : Launch) (oD : Nat) (fD : Nat → AV) (dR : Nat) (DR : Int → Int) (td : Int) (un : Int) (hi : Int) (im : Int) (nx : Int) (aN : Nat) (N9 : Int → Int) (hf0 : fD 6 = rv dR) (hnx : 0 ≤ nx ∧ nx ≤ 59) : AMv l yX0_takeBack cX0_takeBack 2 1 0 0 [rv oD, rv aN] [(oD, ob 0 (uF (uF (uF (uF (uF fD 0 (iv td)) 1 (iv un)) 2 (iv hi)) 3 (iv im)) 4 (iv nx))), (dR, ar 360 DR), (aN, ar 6 N9)] (fun u => u = [(oD, ob 0 (uF (uF (uF (uF (uF fD 0 (iv (td - 1))) 1 (iv (un - 1))) 2 (iv hi)) 3 (iv im)) 4 (iv ((nx + 60 - 1).tmod 60)))), (dR, ar 360 DR), (aN, ar 6 (cpZ DR N9 ((nx + 60 - 1).tmod 60 * 6) 0 6))]) := by
  refine AMv.of2 rfl (nle rfl) ?_
  intro D G A p e s m args below meth c Po hPo hnm X
  have hm := md60 (x := nx + 60 - 1) (by omega)
  refine S_aload_n X dX0_takeBack_0 rfl rfl ?_
  refine S_aload_n X dX0_takeBack_1 rfl rfl ?_
  refine S_get (v := iv nx) X fgX0_25_0 0 rfl rfl dX0_takeBack_2 ?_
  refine S_bipush X dX0_takeBack_5 rfl ?_
  refine S_iadd X dX0_takeBack_7 ?_
  refine S_iconst X dX0_takeBack_8 ?_
  refine S_isub X dX0_takeBack_9 ?_
  refine S_bipush X dX0_takeBack_10 rfl ?_
  refine S_irem X (by omega) (by decide) (by decide) dX0_takeBack_12 ?_
  refine S_put X fpX0_25_0 0 rfl FT_i dX0_takeBack_13 ?_
  refine S_w (ws' := [(oD, ob 0 (uF (uF (uF (uF (uF fD 0 (iv td)) 1 (iv un)) 2 (iv hi)) 3 (iv im)) 4 (iv (((nx + 60) - 1).tmod 60)))), (dR, ar 360 DR), (aN, ar 6 N9)]) (by simp only [List.set]; rw [uF_same (k := 4)]) ?_
  refine S_aload_n X dX0_takeBack_16 rfl rfl ?_
  refine S_get X fgX0_15_0 0 rfl hf0 dX0_takeBack_17 ?_
  refine S_aload_n X dX0_takeBack_20 rfl rfl ?_
  refine S_get (v := iv (((nx + 60) - 1).tmod 60)) X fgX0_25_0 0 rfl rfl dX0_takeBack_21 ?_
  refine S_bipush X dX0_takeBack_24 rfl ?_
  refine S_imul X dX0_takeBack_26 ?_
  refine S_aload_n X dX0_takeBack_27 rfl rfl ?_
  refine S_iconst X dX0_takeBack_28 ?_
  refine S_bipush X dX0_takeBack_29 rfl ?_
  refine S_copy (sp := (((nx + 60) - 1).tmod 60) * 6) (dp := 0) (n := 6) X m770 m632 m631 m97 1 2 rfl rfl (by omega) (by decide) (by decide) (by omega) (by omega) (nle rfl) (nle rfl) (nle rfl) (nle rfl) dX0_takeBack_31 ?_
  refine S_w (ws' := [(oD, ob 0 (uF (uF (uF (uF (uF fD 0 (iv td)) 1 (iv un)) 2 (iv hi)) 3 (iv im)) 4 (iv (((nx + 60) - 1).tmod 60)))), (dR, ar 360 DR), (aN, ar 6 (cpZ DR N9 ((((nx + 60) - 1).tmod 60) * 6) 0 6))]) rfl ?_
  refine S_aload_n X dX0_takeBack_34 rfl rfl ?_
  refine S_dup X dX0_takeBack_35 ?_
  refine S_get (v := iv un) X fgX0_22_0 0 rfl rfl dX0_takeBack_36 ?_
  refine S_iconst X dX0_takeBack_39 ?_
  refine S_isub X dX0_takeBack_40 ?_
  refine S_put X fpX0_22_0 0 rfl FT_i dX0_takeBack_41 ?_
  refine S_w (ws' := [(oD, ob 0 (uF (uF (uF (uF (uF fD 0 (iv td)) 1 (iv (un - 1))) 2 (iv hi)) 3 (iv im)) 4 (iv (((nx + 60) - 1).tmod 60)))), (dR, ar 360 DR), (aN, ar 6 (cpZ DR N9 ((((nx + 60) - 1).tmod 60) * 6) 0 6))]) (by simp only [List.set]; rw [uF_mv (j := 4) (k := 1) (by decide), uF_mv (j := 3) (k := 1) (by decide), uF_mv (j := 2) (k := 1) (by decide), uF_same (k := 1)]) ?_
  refine S_aload_n X dX0_takeBack_44 rfl rfl ?_
  refine S_dup X dX0_takeBack_45 ?_
  refine S_get (v := iv td) X fgX0_18_0 0 rfl rfl dX0_takeBack_46 ?_
  refine S_iconst X dX0_takeBack_49 ?_
  refine S_isub X dX0_takeBack_50 ?_
  refine S_put X fpX0_18_0 0 rfl FT_i dX0_takeBack_51 ?_
  refine S_w (ws' := [(oD, ob 0 (uF (uF (uF (uF (uF fD 0 (iv (td - 1))) 1 (iv (un - 1))) 2 (iv hi)) 3 (iv im)) 4 (iv (((nx + 60) - 1).tmod 60)))), (dR, ar 360 DR), (aN, ar 6 (cpZ DR N9 ((((nx + 60) - 1).tmod 60) * 6) 0 6))]) (by simp only [List.set]; rw [uF_mv (j := 4) (k := 0) (by decide), uF_mv (j := 3) (k := 0) (by decide), uF_mv (j := 2) (k := 0) (by decide), uF_mv (j := 1) (k := 0) (by decide), uF_same (k := 0)]) ?_
  exact S_vret X (nle rfl) (nle rfl) dX0_takeBack_54 (hPo _ (rfl))
set_option maxHeartbeats 4000000 in
set_option maxRecDepth 100000 in
theorem kX0_takeImage (l : Launch) (oD : Nat) (fD : Nat → AV) (dI : Nat) (DI : Int → Int) (td : Int) (un : Int) (hi : Int) (im : Int) (nx : Int) (aN : Nat) (N9 : Int → Int) (hf0 : fD 5 = rv dI) : AMv l yX0_takeImage cX0_takeImage 2 1 0 0 [rv oD, rv aN] [(oD, ob 0 (uF (uF (uF (uF (uF fD 0 (iv td)) 1 (iv un)) 2 (iv hi)) 3 (iv im)) 4 (iv nx))), (dI, ar 6 DI), (aN, ar 6 N9)] (fun u => u = [(oD, ob 0 (uF (uF (uF (uF (uF fD 0 (iv td)) 1 (iv un)) 2 (iv 1)) 3 (iv td)) 4 (iv nx))), (dI, ar 6 (cpZ N9 DI 0 0 6)), (aN, ar 6 N9)]) := by
  refine AMv.of2 rfl (nle rfl) ?_
  intro D G A p e s m args below meth c Po hPo hnm X
  refine S_aload_n X dX0_takeImage_0 rfl rfl ?_
  refine S_iconst X dX0_takeImage_1 ?_
  refine S_aload_n X dX0_takeImage_2 rfl rfl ?_
  refine S_get X fgX0_9_0 0 rfl hf0 dX0_takeImage_3 ?_
  refine S_iconst X dX0_takeImage_6 ?_
  refine S_bipush X dX0_takeImage_7 rfl ?_
  refine S_copy (sp := 0) (dp := 0) (n := 6) X m770 m632 m631 m97 2 1 rfl rfl (by decide) (by decide) (by decide) (by omega) (by omega) (nle rfl) (nle rfl) (nle rfl) (nle rfl) dX0_takeImage_9 ?_
  refine S_w (ws' := [(oD, ob 0 (uF (uF (uF (uF (uF fD 0 (iv td)) 1 (iv un)) 2 (iv hi)) 3 (iv im)) 4 (iv nx))), (dI, ar 6 (cpZ N9 DI 0 0 6)), (aN, ar 6 N9)]) rfl ?_
  refine S_aload_n X dX0_takeImage_12 rfl rfl ?_
  refine S_aload_n X dX0_takeImage_13 rfl rfl ?_
  refine S_get (v := iv td) X fgX0_18_0 0 rfl rfl dX0_takeImage_14 ?_
  refine S_put X fpX0_44_0 0 rfl FT_i dX0_takeImage_17 ?_
  refine S_w (ws' := [(oD, ob 0 (uF (uF (uF (uF (uF fD 0 (iv td)) 1 (iv un)) 2 (iv hi)) 3 (iv td)) 4 (iv nx))), (dI, ar 6 (cpZ N9 DI 0 0 6)), (aN, ar 6 N9)]) (by simp only [List.set]; rw [uF_mv (j := 4) (k := 3) (by decide), uF_same (k := 3)]) ?_
  refine S_aload_n X dX0_takeImage_20 rfl rfl ?_
  refine S_iconst X dX0_takeImage_21 ?_
  refine S_put X fpX0_28_0 0 rfl (FT_b (Or.inr rfl)) dX0_takeImage_22 ?_
  refine S_w (ws' := [(oD, ob 0 (uF (uF (uF (uF (uF fD 0 (iv td)) 1 (iv un)) 2 (iv 1)) 3 (iv td)) 4 (iv nx))), (dI, ar 6 (cpZ N9 DI 0 0 6)), (aN, ar 6 N9)]) (by simp only [List.set]; rw [uF_mv (j := 4) (k := 2) (by decide), uF_mv (j := 3) (k := 2) (by decide), uF_same (k := 2)]) ?_
  exact S_vret X (nle rfl) (nle rfl) dX0_takeImage_25 (hPo _ (rfl))
set_option maxHeartbeats 4000000 in
set_option maxRecDepth 100000 in
theorem kX0_comeBack (l : Launch) (oD : Nat) (fD : Nat → AV) (dI : Nat) (DI : Int → Int) (td : Int) (un : Int) (hi : Int) (im : Int) (nx : Int) (aN : Nat) (N9 : Int → Int) (hf0 : fD 5 = rv dI) : AMv l yX0_comeBack cX0_comeBack 2 1 0 0 [rv oD, rv aN] [(oD, ob 0 (uF (uF (uF (uF (uF fD 0 (iv td)) 1 (iv un)) 2 (iv hi)) 3 (iv im)) 4 (iv nx))), (dI, ar 6 DI), (aN, ar 6 N9)] (fun u => u = [(oD, ob 0 (uF (uF (uF (uF (uF fD 0 (iv im)) 1 (iv 0)) 2 (iv hi)) 3 (iv im)) 4 (iv nx))), (dI, ar 6 DI), (aN, ar 6 (cpZ DI N9 0 0 6))]) := by
  refine AMv.of2 rfl (nle rfl) ?_
  intro D G A p e s m args below meth c Po hPo hnm X
  refine S_aload_n X dX0_comeBack_0 rfl rfl ?_
  refine S_get X fgX0_9_0 0 rfl hf0 dX0_comeBack_1 ?_
  refine S_iconst X dX0_comeBack_4 ?_
  refine S_aload_n X dX0_comeBack_5 rfl rfl ?_
  refine S_iconst X dX0_comeBack_6 ?_
  refine S_bipush X dX0_comeBack_7 rfl ?_
  refine S_copy (sp := 0) (dp := 0) (n := 6) X m770 m632 m631 m97 1 2 rfl rfl (by decide) (by decide) (by decide) (by omega) (by omega) (nle rfl) (nle rfl) (nle rfl) (nle rfl) dX0_comeBack_9 ?_
  refine S_w (ws' := [(oD, ob 0 (uF (uF (uF (uF (uF fD 0 (iv td)) 1 (iv un)) 2 (iv hi)) 3 (iv im)) 4 (iv nx))), (dI, ar 6 DI), (aN, ar 6 (cpZ DI N9 0 0 6))]) rfl ?_
  refine S_aload_n X dX0_comeBack_12 rfl rfl ?_
  refine S_aload_n X dX0_comeBack_13 rfl rfl ?_
  refine S_get (v := iv im) X fgX0_44_0 0 rfl rfl dX0_comeBack_14 ?_
  refine S_put X fpX0_18_0 0 rfl FT_i dX0_comeBack_17 ?_
  refine S_w (ws' := [(oD, ob 0 (uF (uF (uF (uF (uF fD 0 (iv im)) 1 (iv un)) 2 (iv hi)) 3 (iv im)) 4 (iv nx))), (dI, ar 6 DI), (aN, ar 6 (cpZ DI N9 0 0 6))]) (by simp only [List.set]; rw [uF_mv (j := 4) (k := 0) (by decide), uF_mv (j := 3) (k := 0) (by decide), uF_mv (j := 2) (k := 0) (by decide), uF_mv (j := 1) (k := 0) (by decide), uF_same (k := 0)]) ?_
  refine S_aload_n X dX0_comeBack_20 rfl rfl ?_
  refine S_iconst X dX0_comeBack_21 ?_
  refine S_put X fpX0_22_0 0 rfl FT_i dX0_comeBack_22 ?_
  refine S_w (ws' := [(oD, ob 0 (uF (uF (uF (uF (uF fD 0 (iv im)) 1 (iv 0)) 2 (iv hi)) 3 (iv im)) 4 (iv nx))), (dI, ar 6 DI), (aN, ar 6 (cpZ DI N9 0 0 6))]) (by simp only [List.set]; rw [uF_mv (j := 4) (k := 1) (by decide), uF_mv (j := 3) (k := 1) (by decide), uF_mv (j := 2) (k := 1) (by decide), uF_same (k := 1)]) ?_
  exact S_vret X (nle rfl) (nle rfl) dX0_comeBack_25 (hPo _ (rfl))
