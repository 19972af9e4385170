theorem foldI_c {S : Type} {f g : Int → S → S} {s : S} : ∀ p, 0 ≤ p → (∀ a, 0 ≤ a → a < p → ∀ q, f a q = g a q) → foldI f p s = foldI g p s := by
  refine upI (fun _ => rfl) (fun p hp ih h => ?_)
  rw [foldI_S hp, foldI_S hp, ih (fun a h0 h1 q => h a h0 (by omega) q), h p hp (by omega)]
theorem wkN_wet {pl n ec mk mt : Int} {Fo Ho Lt Kd Dr w w2 : Int → Int} (hp : 0 ≤ pl) (h : ∀ x, 0 ≤ x → x < 6 → w x = w2 x) : ∀ (K : Nat) (i dg : Int) (B : Int → Int) (r : Int × Int), 0 ≤ i → i + K = 6 → wkN pl n ec mk mt Fo Ho Lt Kd Dr w K i dg B r = wkN pl n ec mk mt Fo Ho Lt Kd Dr w2 K i dg B r := by
  intro K
  induction K with
  | zero => intro i dg B r h0 h1; rfl
  | succ K ih =>
    intro i dg B r h0 h1
    rw [wkN, wkN, h i h0 (by omega)]
    exact foldI_c pl hp (fun a a0 a1 q => ih (i + 1) (10 * dg + a) _ q (by omega) (by omega))
def C_X12_weekFrom (l : Launch) (K : Nat) (d : Nat) : Prop := ∀ (h0 : Nat) (f : Nat → AV) (pl : Int) (n : Int) (ec : Int) (mk : Int) (hQ : Nat) (hB : Nat) (hE : Nat) (hA : Nat) (hM : Nat) (hW : Nat) (Q : Int → Int) (B : Int → Int) (E : Int → Int) (Ab : Int → Int) (Mt : Int → Int) (Wt : Int → Int) (mt : Int) (hwb : Nat) (Wb : Int → Int) (hwd : Nat) (Wd : Int → Int) (ro : Int) (le : Int) (i : Int) (dg : Int), (f 21 = iv pl) → (f 28 = iv n) → (f 29 = iv ec) → (f 26 = iv mk) → (f 20 = rv hQ) → (f 23 = rv hB) → (f 24 = rv hE) → (f 33 = rv hA) → (f 34 = rv hM) → (f 35 = rv hW) → (f 22 = iv mt) → (f 36 = rv hwb) → (f 37 = rv hwd) → (okS pl n ec (c5 Q 3) (c5 Q 4) B E) → (okDy pl mt (c5 Q 2) (c5 Q 1)) → (0 ≤ i ∧ i + (K : Int) = 6) → (0 ≤ dg ∧ dg ≤ mxd K) → (∀ j, 0 ≤ j → j < 6 → 0 ≤ Wd j ∧ Wd j ≤ 9) → (ro = -1 ∨ ((0 ≤ ro ∧ ro ≤ 999999) ∧ 0 ≤ le ∧ le ≤ 7470)) → AMv l yX12_weekFrom cX12_weekFrom 4 d 0 0 [rv h0, iv i, iv dg] [(h0, ob 11 (uF (uF f 38 (iv ro)) 39 (iv le))), (hQ, ar 30 Q), (hB, ar 6 B), (hE, ar 6 E), (hA, ar 1206 Ab), (hM, ar 180 Mt), (hW, ar 180 Wt), (hwb, ar 42 Wb), (hwd, ar 6 Wd)] (fun u => ∃ r2 : Int × Int, ∃ A2 : Int → Int, ∃ M2 : Int → Int, ∃ W2 : Int → Int, ∃ Wb2 : Int → Int, u = [(h0, ob 11 (uF (uF f 38 (iv r2.1)) 39 (iv r2.2))), (hQ, ar 30 Q), (hB, ar 6 B), (hE, ar 6 E), (hA, ar 1206 A2), (hM, ar 180 M2), (hW, ar 180 W2), (hwb, ar 42 Wb2), (hwd, ar 6 Wd)] ∧ r2 = wkN pl n ec mk mt (c5 Q 3) (c5 Q 4) E (c5 Q 2) (c5 Q 1) Wd K i dg B (ro, le) ∧ (∀ x, x < 6 * i → Wb2 x = Wb x) ∧ ((r2.1 = -1 ∧ ro = -1) ∨ ((0 ≤ r2.1 ∧ r2.1 ≤ 999999) ∧ 0 ≤ r2.2 ∧ r2.2 ≤ 7470)))
set_option maxHeartbeats 4000000 in
set_option maxRecDepth 100000 in
theorem kX12_weekFrom (l : Launch) (K : Nat) (d : Nat) (hd : 5 ≤ d) (hnx : ∀ K2 : Nat, K = K2 + 1 → C_X12_weekFrom l K2 d) : C_X12_weekFrom l K (d + 1) := by
  intro h0 f pl n ec mk hQ hB hE hA hM hW Q B E Ab Mt Wt mt hwb Wb hwd Wd ro le i dg hf0 hf1 hf2 hf3 hf4 hf5 hf6 hf7 hf8 hf9 hf10 hf11 hf12 hok hod hi hdg hwd1 hro
  refine AMv.of2 rfl (nle rfl) ?_
  intro D G A p e s m args below meth c Po hPo hnm X
  have hok6 := hok.2.1
  have hok1 := hok.1
  have hmx := mxd_le K
  refine S_iload_n X dX12_weekFrom_0 rfl rfl ?_
  refine S_bipush X dX12_weekFrom_1 rfl ?_
  refine S_icmp_ne (tgt := 38) X dX12_weekFrom_3 (by decide) (by omega) (by decide) (fun c_1 => ?_) (fun c_1 => ?_)
  ·
    obtain ⟨K2, hK2⟩ : ∃ K2, K = K2 + 1 := ⟨K - 1, by omega⟩
    refine S_aload_n X dX12_weekFrom_38 rfl rfl ?_
    refine S_iload_n X dX12_weekFrom_39 rfl rfl ?_
    refine S_callv X (kX12_keepBeats l h0 (uF (uF f 38 (iv ro)) 39 (iv le)) pl hB B hwb Wb i hf0 hf5 hf11 (by omega) (by omega)) (is := [0, 2, 7]) rfl (run_V X lkX12_336 0 rfl rfl (is := [0, 2, 7]) (avs := [iv i]) (rest := []) rfl rfl (nle rfl) ⟨by simp only [rmD]; omega, by simp only [rmD]; omega⟩ ⟨nle rfl, nle rfl⟩ dX12_weekFrom_40 (by decide) rfl) (fun u_2 hp_3 => ?_)
    obtain ⟨Wb2_5, hu_7, hW2_8, hW3_9⟩ := hp_3
    subst hu_7
    refine ⟨rfl, ?_⟩
    refine S_w (ws' := [(h0, ob 11 (uF (uF f 38 (iv ro)) 39 (iv le))), (hQ, ar 30 Q), (hB, ar 6 B), (hE, ar 6 E), (hA, ar 1206 Ab), (hM, ar 180 Mt), (hW, ar 180 Wt), (hwb, ar 42 Wb2_5), (hwd, ar 6 Wd)]) rfl ?_
    have hKB := hW2_8
    have hKC := hW3_9
    refine S_iconst X dX12_weekFrom_43 ?_
    refine S_istore_n X dX12_weekFrom_44 rfl (nle rfl) ?_
    have lp45_1 : ∀ (N : Nat) (q : Int) (ro9 : Int) (le9 : Int) (Bv : Int → Int) (Aw : Int → Int) (Mw : Int → Int) (Ww : Int → Int) (Wv : Int → Int) (L : Nat → Option AV), 0 ≤ q ∧ q ≤ pl → Bv = B → (∀ x, x < 6 * (i + 1) → Wv x = Wb2_5 x) → ro9 = -1 ∨ ((0 ≤ ro9 ∧ ro9 ≤ 999999) ∧ 0 ≤ le9 ∧ le9 ≤ 7470) → (ro9 = -1 ∧ ro = -1) ∨ ((0 ≤ ro9 ∧ ro9 ≤ 999999) ∧ 0 ≤ le9 ∧ le9 ≤ 7470) → foldI (fun a q => wkN pl n ec mk mt (c5 Q 3) (c5 Q 4) E (c5 Q 2) (c5 Q 1) Wd K2 (i + 1) (10 * dg + a) (paF (c5 Q 2) (c5 Q 1) mt a (Wd i) pl B) q) q (ro, le) = (ro9, le9) → L 0 = some (rv h0) → L 1 = some (iv i) → L 2 = some (iv dg) → L 3 = some (iv q) → pl + 1 - q < (N : Int) → S_ p l e (rmD (d + 1) 0 0) s m args below meth c (MQ below (QcV D G A Po) args s 0 0 A) D G A 4 0 0 45 L [] [(h0, ob 11 (uF (uF f 38 (iv ro9)) 39 (iv le9))), (hQ, ar 30 Q), (hB, ar 6 Bv), (hE, ar 6 E), (hA, ar 1206 Aw), (hM, ar 180 Mw), (hW, ar 180 Ww), (hwb, ar 42 Wv), (hwd, ar 6 Wd)] := by
      intro N
      induction N with
      | zero =>
        intro q ro9 le9 Bv Aw Mw Ww Wv L45 hq hBv hWv hrn hr1 hfo hL45_0 hL45_1 hL45_2 hL45_3 hN45
        exfalso; omega
      | succ N ih45 =>
        intro q ro9 le9 Bv Aw Mw Ww Wv L45 hq hBv hWv hrn hr1 hfo hL45_0 hL45_1 hL45_2 hL45_3 hN45
        refine S_iload_n X dX12_weekFrom_45 rfl hL45_3 ?_
        refine S_aload_n X dX12_weekFrom_46 rfl hL45_0 ?_
        refine S_get X fgX12_253_11 0 rfl hf0 dX12_weekFrom_47 ?_
        refine S_icmp_ge (tgt := 88) X dX12_weekFrom_50 (by decide) (by omega) (by omega) (fun c_10 => ?_) (fun c_10 => ?_)
        ·
          exact S_vret X (nle rfl) (nle rfl) dX12_weekFrom_88 (hPo _ (⟨(ro9, le9), _, _, _, _, by rw [hBv], by have h9 := hfo; rw [show q = pl by omega] at h9; rw [hK2, wkN, h9], fun x h => (hWv x (by omega)).trans (hKC x (by omega)), by dsimp only; omega⟩))
        ·
          have hwdi := hwd1 i (by omega) (by omega)
          refine S_aload_n X dX12_weekFrom_53 rfl hL45_0 ?_
          refine S_iload_n X dX12_weekFrom_54 rfl hL45_3 ?_
          refine S_aload_n X dX12_weekFrom_55 rfl hL45_0 ?_
          refine S_get X fgX12_77_11 0 rfl hf12 dX12_weekFrom_56 ?_
          refine S_iload_n X dX12_weekFrom_59 rfl hL45_1 ?_
          refine S_iald X 8 rfl (by omega) (by omega) (nle rfl) dX12_weekFrom_60 ?_
          refine S_callv X (kX12_pass l h0 (uF (uF f 38 (iv ro9)) 39 (iv le9)) pl mt hQ hB Q Bv q (Wd i) hf0 hf4 hf5 hf10 (by omega) hod (by rw [hBv]; exact fun p h0 h1 => (hok.2.2.2.2.2.2 p h0 h1).2.2.1) (by omega) (by omega)) (is := [0, 1, 2]) rfl (run_V X lkX12_300 0 rfl rfl (is := [0, 1, 2]) (avs := [iv q, iv (Wd i)]) (rest := []) rfl rfl (nle rfl) ⟨by simp only [rmD]; omega, by simp only [rmD]; omega⟩ ⟨nle rfl, nle rfl⟩ dX12_weekFrom_61 (by decide) rfl) (fun u_11 hp_12 => ?_)
          obtain ⟨B2_14, hu_16, hB2_17⟩ := hp_12
          subst hu_16
          refine ⟨rfl, ?_⟩
          refine S_w (ws' := [(h0, ob 11 (uF (uF f 38 (iv ro9)) 39 (iv le9))), (hQ, ar 30 Q), (hB, ar 6 B2_14), (hE, ar 6 E), (hA, ar 1206 Aw), (hM, ar 180 Mw), (hW, ar 180 Ww), (hwb, ar 42 Wv), (hwd, ar 6 Wd)]) rfl ?_
          have hB9 := hB2_17
          have hmd := mxd_S (K := K2) (d := dg) (a := q) (by omega) hdg.1 (by rw [← hK2]; exact hdg.2) (by omega)
          refine S_aload_n X dX12_weekFrom_64 rfl hL45_0 ?_
          refine S_iload_n X dX12_weekFrom_65 rfl hL45_1 ?_
          refine S_iconst X dX12_weekFrom_66 ?_
          refine S_iadd X dX12_weekFrom_67 ?_
          refine S_bipush X dX12_weekFrom_68 rfl ?_
          refine S_iload_n X dX12_weekFrom_70 rfl hL45_2 ?_
          refine S_imul X dX12_weekFrom_71 ?_
          refine S_iload_n X dX12_weekFrom_72 rfl hL45_3 ?_
          refine S_iadd X dX12_weekFrom_73 ?_
          refine S_callv X ((hnx K2 hK2) h0 f pl n ec mk hQ hB hE hA hM hW Q B2_14 E Aw Mw Ww mt hwb Wv hwd Wd ro9 le9 (i + 1) ((10 * dg) + q) hf0 hf1 hf2 hf3 hf4 hf5 hf6 hf7 hf8 hf9 hf10 hf11 hf12 (by rw [hB9, hBv]; exact hok.pa hod) hod (by omega) (hmd) hwd1 hrn) (is := [0, 1, 2, 3, 4, 5, 6, 7, 8]) rfl (run_V X lkX12_339 0 rfl rfl (is := [0, 1, 2, 3, 4, 5, 6, 7, 8]) (avs := [iv (i + 1), iv ((10 * dg) + q)]) (rest := []) rfl rfl (nle rfl) ⟨by simp only [rmD]; omega, by simp only [rmD]; omega⟩ ⟨nle rfl, nle rfl⟩ dX12_weekFrom_74 (by decide) rfl) (fun u_18 hp_19 => ?_)
          obtain ⟨r2_21, A2_22, M2_23, W2_24, Wb2_25, hu_27, hr2_28, hWb_29, hrn_30⟩ := hp_19
          subst hu_27
          refine ⟨rfl, ?_⟩
          refine S_w (ws' := [(h0, ob 11 (uF (uF f 38 (iv r2_21.1)) 39 (iv r2_21.2))), (hQ, ar 30 Q), (hB, ar 6 B2_14), (hE, ar 6 E), (hA, ar 1206 A2_22), (hM, ar 180 M2_23), (hW, ar 180 W2_24), (hwb, ar 42 Wb2_25), (hwd, ar 6 Wd)]) rfl ?_
          have hq9 := hr2_28
          have hq8 := hWb_29
          have hq7 := hrn_30
          rw [hB9, hBv] at hq9
          refine S_aload_n X dX12_weekFrom_77 rfl hL45_0 ?_
          refine S_iload_n X dX12_weekFrom_78 rfl hL45_1 ?_
          refine S_callv X (kX12_takeBeats l h0 (uF (uF f 38 (iv r2_21.1)) 39 (iv r2_21.2)) pl hB B2_14 hwb Wb2_25 i hf0 hf5 hf11 (by omega) (by omega)) (is := [0, 2, 7]) rfl (run_V X lkX12_342 0 rfl rfl (is := [0, 2, 7]) (avs := [iv i]) (rest := []) rfl rfl (nle rfl) ⟨by simp only [rmD]; omega, by simp only [rmD]; omega⟩ ⟨nle rfl, nle rfl⟩ dX12_weekFrom_79 (by decide) rfl) (fun u_31 hp_32 => ?_)
          obtain ⟨B2_34, hu_36, hB2_37, hB3_38⟩ := hp_32
          subst hu_36
          refine ⟨rfl, ?_⟩
          refine S_w (ws' := [(h0, ob 11 (uF (uF f 38 (iv r2_21.1)) 39 (iv r2_21.2))), (hQ, ar 30 Q), (hB, ar 6 B2_34), (hE, ar 6 E), (hA, ar 1206 A2_22), (hM, ar 180 M2_23), (hW, ar 180 W2_24), (hwb, ar 42 Wb2_25), (hwd, ar 6 Wd)]) rfl ?_
          have hT1 := hB2_37
          have hT2 := hB3_38
          refine S_iinc X dX12_weekFrom_82 (nle rfl) hL45_3 ?_
          refine S_goto (tgt := 45) X dX12_weekFrom_85 (by decide) ?_
          exact ih45 (q + 1) r2_21.1 r2_21.2 B2_34 A2_22 M2_23 W2_24 Wb2_25 _ (by omega) (pa_back (pl := pl) (B := B) hT1 (fun x h => by rw [hT2 x h, hB9, hBv]) (fun x h0 h1 => (hq8 _ (by omega)).trans ((hWv _ (by omega)).trans (hKB x h0 h1)))) (fun x h => (hq8 x (by omega)).trans (hWv x h)) (by omega) (by omega) (by rw [foldI_S (by omega), hfo, ← hq9]) hL45_0 hL45_1 hL45_2 rfl (by omega)
    exact lp45_1 (Int.toNat (pl + 1 - 0) + 1) 0 ro le B Ab Mt Wt Wb2_5 _ (by omega) (rfl) (fun x h => rfl) (hro) (by omega) (foldI_0) rfl rfl rfl rfl (by omega)
  ·
    refine S_aload_n X dX12_weekFrom_6 rfl rfl ?_
    refine S_calli X (kX12_worstNow l h0 (uF (uF f 38 (iv ro)) 39 (iv le)) pl n ec mk hQ hB hE hA hM hW Q B E Ab Mt Wt hf0 hf1 hf2 hf3 hf4 hf5 hf6 hf7 hf8 hf9 hok) (is := [0, 1, 2, 3, 4, 5, 6]) rfl (run_V X lkX12_321 0 rfl rfl (is := [0, 1, 2, 3, 4, 5, 6]) (avs := []) (rest := []) rfl rfl (nle rfl) ⟨by simp only [rmD]; omega, by simp only [rmD]; omega⟩ ⟨nle rfl, nle rfl⟩ dX12_weekFrom_7 (by decide) rfl) (fun z_41 u_39 hp_40 => ?_)
    obtain ⟨A2_42, M2_43, W2_44, hz_45, hu_46⟩ := hp_40
    subst hz_45
    subst hu_46
    refine ⟨rfl, ?_⟩
    refine S_w (ws' := [(h0, ob 11 (uF (uF f 38 (iv ro)) 39 (iv le))), (hQ, ar 30 Q), (hB, ar 6 B), (hE, ar 6 E), (hA, ar 1206 A2_42), (hM, ar 180 M2_43), (hW, ar 180 W2_44), (hwb, ar 42 Wb), (hwd, ar 6 Wd)]) rfl ?_
    have hwr := hok.worst (mk := mk)
    refine S_istore_n X dX12_weekFrom_10 rfl (nle rfl) ?_
    refine S_aload_n X dX12_weekFrom_11 rfl rfl ?_
    refine S_get (v := iv ro) X fgX12_330_11 0 rfl rfl dX12_weekFrom_12 ?_
    refine S_iconst X dX12_weekFrom_15 ?_
    refine S_icmp_eq (tgt := 27) X dX12_weekFrom_16 (by decide) (by omega) (by decide) (fun c_47 => ?_) (fun c_47 => ?_)
    ·
      refine S_aload_n X dX12_weekFrom_27 rfl rfl ?_
      refine S_iload_n X dX12_weekFrom_28 rfl rfl ?_
      refine S_put X fpX12_330_11 0 rfl FT_i dX12_weekFrom_29 ?_
      refine S_w (ws' := [(h0, ob 11 (uF (uF f 38 (iv dg)) 39 (iv le))), (hQ, ar 30 Q), (hB, ar 6 B), (hE, ar 6 E), (hA, ar 1206 A2_42), (hM, ar 180 M2_43), (hW, ar 180 W2_44), (hwb, ar 42 Wb), (hwd, ar 6 Wd)]) (by simp only [List.set]; rw [uF_mv (j := 39) (k := 38) (by decide), uF_same (k := 38)]) ?_
      refine S_aload_n X dX12_weekFrom_32 rfl rfl ?_
      refine S_iload_n X dX12_weekFrom_33 rfl rfl ?_
      refine S_put X fpX12_333_11 0 rfl FT_i dX12_weekFrom_34 ?_
      refine S_w (ws' := [(h0, ob 11 (uF (uF f 38 (iv dg)) 39 (iv (WO pl n ec mk (c5 Q 3) (c5 Q 4) B E)))), (hQ, ar 30 Q), (hB, ar 6 B), (hE, ar 6 E), (hA, ar 1206 A2_42), (hM, ar 180 M2_43), (hW, ar 180 W2_44), (hwb, ar 42 Wb), (hwd, ar 6 Wd)]) (by simp only [List.set]; rw [uF_same (k := 39)]) ?_
      exact S_vret X (nle rfl) (nle rfl) dX12_weekFrom_37 (hPo _ (⟨(dg, WO pl n ec mk (c5 Q 3) (c5 Q 4) B E), _, _, _, _, rfl, by rw [show K = 0 by omega, wkN]; rw [if_pos (by first | (left; assumption) | (right; dsimp only; omega))], fun x h => rfl, Or.inr ⟨by dsimp only; omega, hwr⟩⟩))
    ·
      refine S_iload_n X dX12_weekFrom_19 rfl rfl ?_
      refine S_aload_n X dX12_weekFrom_20 rfl rfl ?_
      refine S_get (v := iv le) X fgX12_333_11 0 rfl rfl dX12_weekFrom_21 ?_
      refine S_icmp_ge (tgt := 37) X dX12_weekFrom_24 (by decide) (by omega) (by omega) (fun c_48 => ?_) (fun c_48 => ?_)
      ·
        exact S_vret X (nle rfl) (nle rfl) dX12_weekFrom_37 (hPo _ (⟨(ro, le), _, _, _, _, rfl, by rw [show K = 0 by omega, wkN, if_neg (by dsimp only; omega)], fun x h => rfl, by dsimp only; omega⟩))
      ·
        refine S_aload_n X dX12_weekFrom_27 rfl rfl ?_
        refine S_iload_n X dX12_weekFrom_28 rfl rfl ?_
        refine S_put X fpX12_330_11 0 rfl FT_i dX12_weekFrom_29 ?_
        refine S_w (ws' := [(h0, ob 11 (uF (uF f 38 (iv dg)) 39 (iv le))), (hQ, ar 30 Q), (hB, ar 6 B), (hE, ar 6 E), (hA, ar 1206 A2_42), (hM, ar 180 M2_43), (hW, ar 180 W2_44), (hwb, ar 42 Wb), (hwd, ar 6 Wd)]) (by simp only [List.set]; rw [uF_mv (j := 39) (k := 38) (by decide), uF_same (k := 38)]) ?_
        refine S_aload_n X dX12_weekFrom_32 rfl rfl ?_
        refine S_iload_n X dX12_weekFrom_33 rfl rfl ?_
        refine S_put X fpX12_333_11 0 rfl FT_i dX12_weekFrom_34 ?_
        refine S_w (ws' := [(h0, ob 11 (uF (uF f 38 (iv dg)) 39 (iv (WO pl n ec mk (c5 Q 3) (c5 Q 4) B E)))), (hQ, ar 30 Q), (hB, ar 6 B), (hE, ar 6 E), (hA, ar 1206 A2_42), (hM, ar 180 M2_43), (hW, ar 180 W2_44), (hwb, ar 42 Wb), (hwd, ar 6 Wd)]) (by simp only [List.set]; rw [uF_same (k := 39)]) ?_
        exact S_vret X (nle rfl) (nle rfl) dX12_weekFrom_37 (hPo _ (⟨(dg, WO pl n ec mk (c5 Q 3) (c5 Q 4) B E), _, _, _, _, rfl, by rw [show K = 0 by omega, wkN]; rw [if_pos (by first | (left; assumption) | (right; dsimp only; omega))], fun x h => rfl, Or.inr ⟨by dsimp only; omega, hwr⟩⟩))
theorem wk_all (l : Launch) : ∀ K : Nat, C_X12_weekFrom l K (6 + K) := by
  intro K
  induction K with
  | zero => exact kX12_weekFrom l 0 5 (by omega) (fun K2 h => by omega)
  | succ K ih => exact kX12_weekFrom l (K + 1) (6 + K) (by omega) (fun K2 h => by cases h; exact ih)
set_option maxHeartbeats 4000000 in
set_option maxRecDepth 100000 in
theorem kX12_week (l : Launch) (h0 : Nat) (f : Nat → AV) (pl : Int) (n : Int) (ec : Int) (mk : Int) (hQ : Nat) (hB : Nat) (hE : Nat) (hA : Nat) (hM : Nat) (hW : Nat) (Q : Int → Int) (B : Int → Int) (E : Int → Int) (Ab : Int → Int) (Mt : Int → Int) (Wt : Int → Int) (v : Int) (mt : Int) (ho : Int) (dy : Int) (hC : Nat) (hV : Nat) (hL : Nat) (hTf : Nat) (hSf : Nat) (hEf : Nat) (hle : Nat) (hst : Nat) (C : Int → Int) (V : Int → Int) (Lk : Int → Int) (Tf : Int → Int) (Sf : Int → Int) (Ef : Int → Int) (Le : Int → Int) (Sk : Int → Int) (cs : List (List Int × List Int)) (hwb : Nat) (Wb : Int → Int) (hwd : Nat) (Wd : Int → Int) (ro : Int) (le : Int) (hf0 : f 21 = iv pl) (hf1 : f 28 = iv n) (hf2 : f 29 = iv ec) (hf3 : f 26 = iv mk) (hf4 : f 20 = rv hQ) (hf5 : f 23 = rv hB) (hf6 : f 24 = rv hE) (hf7 : f 33 = rv hA) (hf8 : f 34 = rv hM) (hf9 : f 35 = rv hW) (hf10 : f 22 = iv mt) (hf11 : f 27 = iv ho) (hf12 : f 25 = iv dy) (hf13 : f 36 = rv hwb) (hf14 : f 37 = rv hwd) (hf15 : f 6 = rv hC) (hf16 : f 7 = rv hV) (hf17 : f 9 = rv hL) (hf18 : f 10 = rv hTf) (hf19 : f 11 = rv hSf) (hf20 : f 12 = rv hEf) (hf21 : f 15 = rv hle) (hf22 : f 16 = rv hst) (hz : okZ pl n ec (c5 Q 3) (c5 Q 4) B E) (hx_v : inR v) (hpm : (0 ≤ pl ∧ pl ≤ 6) ∧ 1 ≤ mt ∧ mt ≤ 99) (hho : ho = -1 ∨ (0 ≤ ho ∧ ho ≤ 3 ∧ lawAt C V Lk Tf Sf Ef ho cs)) (hod : okDy pl mt (c5 Q 2) (c5 Q 1)) (hdy : 0 ≤ dy ∧ dy ≤ 1000) : AMi l yX12_week cX12_week 3 .int 13 0 0 [rv h0, iv v] [(h0, ob 11 (uF (uF f 38 (iv ro)) 39 (iv le))), (hQ, ar 30 Q), (hB, ar 6 B), (hE, ar 6 E), (hA, ar 1206 Ab), (hM, ar 180 Mt), (hW, ar 180 Wt), (hwb, ar 42 Wb), (hwd, ar 6 Wd), (hC, ar 1700 C), (hV, ar 1700 V), (hL, ar 5 Lk), (hTf, ar 450 Tf), (hSf, ar 450 Sf), (hEf, ar 450 Ef), (hle, ar 5 Le), (hst, ar 80 Sk)] (fun z u => ∃ r3 : Int, ∃ l3 : Int, ∃ A2 : Int → Int, ∃ M2 : Int → Int, ∃ W2 : Int → Int, ∃ Wb2 : Int → Int, ∃ Wd2 : Int → Int, ∃ L2 : Int → Int, ∃ S2 : Int → Int, z = aWeekR pl n ec mk mt dy (c5 Q 3) (c5 Q 4) B E (c5 Q 2) (c5 Q 1) (fun j => aDy ho cs mt pl (dy + j)) v le ∧ u = [(h0, ob 11 (uF (uF f 38 (iv r3)) 39 (iv l3))), (hQ, ar 30 Q), (hB, ar 6 B), (hE, ar 6 E), (hA, ar 1206 A2), (hM, ar 180 M2), (hW, ar 180 W2), (hwb, ar 42 Wb2), (hwd, ar 6 Wd2), (hC, ar 1700 C), (hV, ar 1700 V), (hL, ar 5 Lk), (hTf, ar 450 Tf), (hSf, ar 450 Sf), (hEf, ar 450 Ef), (hle, ar 5 L2), (hst, ar 80 S2)]) := by
  refine AMi.of2 rfl (nle rfl) ?_
  intro D G A p e s m args below meth c Po hPo X
  have hz6 := hz.2.1
  have hz0 := hz.1
  have hzn := hz.2.2.1
  have hzm := hz.2.2.2.1
  have hze := hz.2.2.2.2
  refine S_aload_n X dX12_week_0 rfl rfl ?_
  refine S_get X fgX12_253_11 0 rfl hf0 dX12_week_1 ?_
  refine S_if_eq (tgt := 29) X dX12_week_4 (by decide) (by omega) (fun c_1 => ?_) (fun c_1 => ?_)
  ·
    refine S_iconst X dX12_week_29 ?_
    exact S_iret X (nle rfl) (nle rfl) dX12_week_30 (hPo _ _ (⟨_, _, _, _, _, _, _, _, _, by unfold aWeekR; rw [if_neg (by omega)], rfl⟩))
  ·
    refine S_iload_n X dX12_week_7 rfl rfl ?_
    refine S_iconst X dX12_week_8 ?_
    refine S_iconst X dX12_week_9 ?_
    refine S_calli X (kX12_in l v 0 1 (by omega) (by omega) (by omega)) (is := []) rfl (run_S X lkX12_216 (is := []) (avs := [iv v, iv 0, iv 1]) (rest := []) rfl rfl (nle rfl) ⟨nle rfl, nle rfl⟩ ⟨nle rfl, nle rfl⟩ dX12_week_10 (by decide) rfl) (fun z_4 u_2 hp_3 => ?_)
    rcases hp_3 with ⟨hz_5, hu_6, hq_7⟩ | ⟨hz_8, hu_9, hq_10⟩
    ·
      subst hz_5
      subst hu_6
      refine ⟨rfl, ?_⟩
      refine S_w (ws' := [(h0, ob 11 (uF (uF f 38 (iv ro)) 39 (iv le))), (hQ, ar 30 Q), (hB, ar 6 B), (hE, ar 6 E), (hA, ar 1206 Ab), (hM, ar 180 Mt), (hW, ar 180 Wt), (hwb, ar 42 Wb), (hwd, ar 6 Wd), (hC, ar 1700 C), (hV, ar 1700 V), (hL, ar 5 Lk), (hTf, ar 450 Tf), (hSf, ar 450 Sf), (hEf, ar 450 Ef), (hle, ar 5 Le), (hst, ar 80 Sk)]) rfl ?_
      refine S_if_eq (tgt := 29) X dX12_week_13 (by decide) (by decide) (fun _ => ?_) (fun h9 => absurd h9 (by decide))
      refine S_iconst X dX12_week_29 ?_
      exact S_iret X (nle rfl) (nle rfl) dX12_week_30 (hPo _ _ (⟨_, _, _, _, _, _, _, _, _, by unfold aWeekR; rw [if_neg (by omega)], rfl⟩))
    ·
      subst hz_8
      subst hu_9
      refine ⟨rfl, ?_⟩
      refine S_w (ws' := [(h0, ob 11 (uF (uF f 38 (iv ro)) 39 (iv le))), (hQ, ar 30 Q), (hB, ar 6 B), (hE, ar 6 E), (hA, ar 1206 Ab), (hM, ar 180 Mt), (hW, ar 180 Wt), (hwb, ar 42 Wb), (hwd, ar 6 Wd), (hC, ar 1700 C), (hV, ar 1700 V), (hL, ar 5 Lk), (hTf, ar 450 Tf), (hSf, ar 450 Sf), (hEf, ar 450 Ef), (hle, ar 5 Le), (hst, ar 80 Sk)]) rfl ?_
      refine S_if_eq (tgt := 29) X dX12_week_13 (by decide) (by decide) (fun h9 => absurd h9 (by decide)) (fun _ => ?_)
      refine S_aload_n X dX12_week_16 rfl rfl ?_
      refine S_get X fgX12_259_11 0 rfl hf12 dX12_week_17 ?_
      refine S_bipush X dX12_week_20 rfl ?_
      refine S_iadd X dX12_week_22 ?_
      refine S_sipush X dX12_week_23 rfl ?_
      refine S_icmp_le (tgt := 31) X dX12_week_26 (by decide) (by omega) (by decide) (fun c_13 => ?_) (fun c_13 => ?_)
      ·
        have hok := hz.s (by omega)
        have hpl := hok.2.1
        have hpl1 := hok.1
        have hn1 := hok.2.2.1
        have hn2 := hok.2.2.2.1
        have hec := hok.2.2.2.2
        refine S_iconst X dX12_week_31 ?_
        refine S_istore_n X dX12_week_32 rfl (nle rfl) ?_
        have lp33_3 : ∀ (N : Nat) (j : Int) (Wv : Int → Int) (Lv : Int → Int) (Sv : Int → Int) (L : Nat → Option AV), 0 ≤ j ∧ j ≤ 6 → (∀ x, 0 ≤ x → x < j → Wv x = (fun j => aDy ho cs mt pl (dy + j)) x) → L 0 = some (rv h0) → L 1 = some (iv v) → L 2 = some (iv j) → 7 - j < (N : Int) → S_ p l e (rmD 13 0 0) s m args below meth c (MQ below (QcI D G A Po) args s 0 0 A) D G A 3 0 0 33 L [] [(h0, ob 11 (uF (uF f 38 (iv ro)) 39 (iv le))), (hQ, ar 30 Q), (hB, ar 6 B), (hE, ar 6 E), (hA, ar 1206 Ab), (hM, ar 180 Mt), (hW, ar 180 Wt), (hwb, ar 42 Wb), (hwd, ar 6 Wv), (hC, ar 1700 C), (hV, ar 1700 V), (hL, ar 5 Lk), (hTf, ar 450 Tf), (hSf, ar 450 Sf), (hEf, ar 450 Ef), (hle, ar 5 Lv), (hst, ar 80 Sv)] := by
          intro N
          induction N with
          | zero =>
            intro j Wv Lv Sv L33 hj hwk hL33_0 hL33_1 hL33_2 hN33
            exfalso; omega
          | succ N ih33 =>
            intro j Wv Lv Sv L33 hj hwk hL33_0 hL33_1 hL33_2 hN33
            refine S_iload_n X dX12_week_33 rfl hL33_2 ?_
            refine S_bipush X dX12_week_34 rfl ?_
            refine S_icmp_ge (tgt := 61) X dX12_week_36 (by decide) (by omega) (by decide) (fun c_14 => ?_) (fun c_14 => ?_)
            ·
              have hwdl : ∀ x, 0 ≤ x → x < 6 → Wv x = (fun j => aDy ho cs mt pl (dy + j)) x := fun x h0 h1 => hwk x h0 (by omega)
              refine S_aload_n X dX12_week_61 rfl hL33_0 ?_
              refine S_iconst X dX12_week_62 ?_
              refine S_put X fpX12_330_11 0 rfl FT_i dX12_week_63 ?_
              refine S_w (ws' := [(h0, ob 11 (uF (uF f 38 (iv (-1))) 39 (iv le))), (hQ, ar 30 Q), (hB, ar 6 B), (hE, ar 6 E), (hA, ar 1206 Ab), (hM, ar 180 Mt), (hW, ar 180 Wt), (hwb, ar 42 Wb), (hwd, ar 6 Wv), (hC, ar 1700 C), (hV, ar 1700 V), (hL, ar 5 Lk), (hTf, ar 450 Tf), (hSf, ar 450 Sf), (hEf, ar 450 Ef), (hle, ar 5 Lv), (hst, ar 80 Sv)]) (by simp only [List.set]; rw [uF_mv (j := 39) (k := 38) (by decide), uF_same (k := 38)]) ?_
              refine S_aload_n X dX12_week_66 rfl hL33_0 ?_
              refine S_iconst X dX12_week_67 ?_
              refine S_iconst X dX12_week_68 ?_
              refine S_callv X ((wk_all l 6) h0 f pl n ec mk hQ hB hE hA hM hW Q B E Ab Mt Wt mt hwb Wb hwd Wv (-1) le 0 0 hf0 hf1 hf2 hf3 hf4 hf5 hf6 hf7 hf8 hf9 hf10 hf13 hf14 hok hod ⟨by decide, by decide⟩ ⟨by decide, by decide⟩ (fun x h0 h1 => by rw [hwdl x h0 h1]; exact aDy_in (by omega)) (Or.inl rfl)) (is := [0, 1, 2, 3, 4, 5, 6, 7, 8]) rfl (run_V X lkX12_339 0 rfl rfl (is := [0, 1, 2, 3, 4, 5, 6, 7, 8]) (avs := [iv 0, iv 0]) (rest := []) rfl rfl (nle rfl) ⟨nle rfl, nle rfl⟩ ⟨nle rfl, nle rfl⟩ dX12_week_69 (by decide) rfl) (fun u_15 hp_16 => ?_)
              obtain ⟨r2_18, A2_19, M2_20, W2_21, Wb2_22, hu_24, hr2_25, hWb_26, hrn_27⟩ := hp_16
              subst hu_24
              refine ⟨rfl, ?_⟩
              refine S_w (ws' := [(h0, ob 11 (uF (uF f 38 (iv r2_18.1)) 39 (iv r2_18.2))), (hQ, ar 30 Q), (hB, ar 6 B), (hE, ar 6 E), (hA, ar 1206 A2_19), (hM, ar 180 M2_20), (hW, ar 180 W2_21), (hwb, ar 42 Wb2_22), (hwd, ar 6 Wv), (hC, ar 1700 C), (hV, ar 1700 V), (hL, ar 5 Lk), (hTf, ar 450 Tf), (hSf, ar 450 Sf), (hEf, ar 450 Ef), (hle, ar 5 Lv), (hst, ar 80 Sv)]) rfl ?_
              have hrr := hr2_25
              have hrn := hrn_27
              rw [wkN_wet (by omega) hwdl 6 0 0 _ _ (by omega) (by decide)] at hrr
              refine S_iload_n X dX12_week_72 rfl hL33_1 ?_
              refine S_if_ne (tgt := 83) X dX12_week_73 (by decide) (by omega) (fun c_28 => ?_) (fun c_28 => ?_)
              ·
                refine S_aload_n X dX12_week_83 rfl hL33_0 ?_
                refine S_get (v := iv r2_18.2) X fgX12_333_11 0 rfl rfl dX12_week_84 ?_
                exact S_iret X (nle rfl) (nle rfl) dX12_week_87 (hPo _ _ (⟨_, _, _, _, _, _, _, _, _, by unfold aWeekR; rw [if_pos (by omega), if_neg (by omega), hrr], rfl⟩))
              ·
                refine S_aload_n X dX12_week_76 rfl hL33_0 ?_
                refine S_get (v := iv r2_18.1) X fgX12_330_11 0 rfl rfl dX12_week_77 ?_
                refine S_goto (tgt := 87) X dX12_week_80 (by decide) ?_
                exact S_iret X (nle rfl) (nle rfl) dX12_week_87 (hPo _ _ (⟨_, _, _, _, _, _, _, _, _, by unfold aWeekR; rw [if_pos (by omega), if_pos (by omega), hrr], rfl⟩))
            ·
              refine S_aload_n X dX12_week_39 rfl hL33_0 ?_
              refine S_get X fgX12_77_11 0 rfl hf14 dX12_week_40 ?_
              refine S_iload_n X dX12_week_43 rfl hL33_2 ?_
              refine S_aload_n X dX12_week_44 rfl hL33_0 ?_
              refine S_aload_n X dX12_week_45 rfl hL33_0 ?_
              refine S_get X fgX12_259_11 0 rfl hf12 dX12_week_46 ?_
              refine S_iload_n X dX12_week_49 rfl hL33_2 ?_
              refine S_iadd X dX12_week_50 ?_
              refine S_calli X (kX12_dampOf l h0 (uF (uF f 38 (iv ro)) 39 (iv le)) pl mt ho hC hV hL hTf hSf hEf hle hst C V Lk Tf Sf Ef Lv Sv cs (dy + j) hf15 hf16 hf17 hf18 hf19 hf20 hf21 hf22 hf0 hf10 hf11 (by omega) hho (by omega)) (is := [0, 9, 10, 11, 12, 13, 14, 15, 16]) rfl (run_V X lkX12_297 0 rfl rfl (is := [0, 9, 10, 11, 12, 13, 14, 15, 16]) (avs := [iv (dy + j)]) (rest := [iv j, rv hwd]) rfl rfl (nle rfl) ⟨nle rfl, nle rfl⟩ ⟨nle rfl, nle rfl⟩ dX12_week_51 (by decide) rfl) (fun z_31 u_29 hp_30 => ?_)
              obtain ⟨L2_32, S2_33, hz_34, hu_35⟩ := hp_30
              subst hz_34
              subst hu_35
              refine ⟨rfl, ?_⟩
              refine S_w (ws' := [(h0, ob 11 (uF (uF f 38 (iv ro)) 39 (iv le))), (hQ, ar 30 Q), (hB, ar 6 B), (hE, ar 6 E), (hA, ar 1206 Ab), (hM, ar 180 Mt), (hW, ar 180 Wt), (hwb, ar 42 Wb), (hwd, ar 6 Wv), (hC, ar 1700 C), (hV, ar 1700 V), (hL, ar 5 Lk), (hTf, ar 450 Tf), (hSf, ar 450 Sf), (hEf, ar 450 Ef), (hle, ar 5 L2_32), (hst, ar 80 S2_33)]) rfl ?_
              have hw9 := aDy_in (ho := ho) (cs := cs) (mt := mt) (pl := pl) (d := dy + j) (by omega)
              refine S_iast X 8 rfl (by omega) (by omega) (nle rfl) dX12_week_54 ?_
              refine S_w (ws' := [(h0, ob 11 (uF (uF f 38 (iv ro)) 39 (iv le))), (hQ, ar 30 Q), (hB, ar 6 B), (hE, ar 6 E), (hA, ar 1206 Ab), (hM, ar 180 Mt), (hW, ar 180 Wt), (hwb, ar 42 Wb), (hwd, ar 6 (uZ Wv j (aDy ho cs mt pl (dy + j)))), (hC, ar 1700 C), (hV, ar 1700 V), (hL, ar 5 Lk), (hTf, ar 450 Tf), (hSf, ar 450 Sf), (hEf, ar 450 Ef), (hle, ar 5 L2_32), (hst, ar 80 S2_33)]) rfl ?_
              refine S_iinc X dX12_week_55 (nle rfl) hL33_2 ?_
              refine S_goto (tgt := 33) X dX12_week_58 (by decide) ?_
              exact ih33 (j + 1) (uZ Wv j (aDy ho cs mt pl (dy + j))) L2_32 S2_33 _ (by omega) (fun x h0 h1 => (by omega : x < j ∨ x = j).elim (fun q9 => by rw [uZ_ne (by omega)]; exact hwk x h0 q9) (fun q9 => by rw [q9]; exact uZ_at)) hL33_0 hL33_1 rfl (by omega)
        exact lp33_3 (Int.toNat (7 - 0) + 1) 0 Wd Le Sk _ (by omega) (fun x h0 h1 => by omega) rfl rfl rfl (by omega)
      ·
        refine S_iconst X dX12_week_29 ?_
        exact S_iret X (nle rfl) (nle rfl) dX12_week_30 (hPo _ _ (⟨_, _, _, _, _, _, _, _, _, by unfold aWeekR; rw [if_neg (by omega)], rfl⟩))
def C_X12_oddsFrom (l : Launch) (K : Nat) (d : Nat) : Prop := ∀ (h0 : Nat) (f : Nat → AV) (pl : Int) (n : Int) (ec : Int) (mk : Int) (hQ : Nat) (hB : Nat) (hE : Nat) (hA : Nat) (hM : Nat) (hW : Nat) (Q : Int → Int) (B : Int → Int) (E : Int → Int) (Ab : Int → Int) (Mt : Int → Int) (Wt : Int → Int) (mt : Int) (hwb : Nat) (Wb : Int → Int) (i : Int) (k9 : Int) (pp : Int), (f 21 = iv pl) → (f 28 = iv n) → (f 29 = iv ec) → (f 26 = iv mk) → (f 20 = rv hQ) → (f 23 = rv hB) → (f 24 = rv hE) → (f 33 = rv hA) → (f 34 = rv hM) → (f 35 = rv hW) → (f 22 = iv mt) → (f 36 = rv hwb) → (okS pl n ec (c5 Q 3) (c5 Q 4) B E) → (okDy pl mt (c5 Q 2) (c5 Q 1)) → (0 ≤ i ∧ i + (K : Int) = k9 ∧ k9 ≤ 6) → (0 ≤ pp ∧ pp < pl) → AMi l yX12_oddsFrom cX12_oddsFrom 6 .int d 0 0 [rv h0, iv i, iv k9, iv pp] [(h0, ob 11 f), (hQ, ar 30 Q), (hB, ar 6 B), (hE, ar 6 E), (hA, ar 1206 Ab), (hM, ar 180 Mt), (hW, ar 180 Wt), (hwb, ar 42 Wb)] (fun z u => ∃ A2 : Int → Int, ∃ M2 : Int → Int, ∃ W2 : Int → Int, ∃ Wb2 : Int → Int, z = odN pl n ec mk mt (c5 Q 3) (c5 Q 4) E (c5 Q 2) (c5 Q 1) pp K B ∧ u = [(h0, ob 11 f), (hQ, ar 30 Q), (hB, ar 6 B), (hE, ar 6 E), (hA, ar 1206 A2), (hM, ar 180 M2), (hW, ar 180 W2), (hwb, ar 42 Wb2)] ∧ (∀ x, x < 6 * i → Wb2 x = Wb x))
set_option maxHeartbeats 4000000 in
set_option maxRecDepth 100000 in
theorem kX12_oddsFrom (l : Launch) (K : Nat) (d : Nat) (hd : 5 ≤ d) (hnx : ∀ K2 : Nat, K = K2 + 1 → C_X12_oddsFrom l K2 d) : C_X12_oddsFrom l K (d + 1) := by
  intro h0 f pl n ec mk hQ hB hE hA hM hW Q B E Ab Mt Wt mt hwb Wb i k9 pp hf0 hf1 hf2 hf3 hf4 hf5 hf6 hf7 hf8 hf9 hf10 hf11 hok hod hi hp
  refine AMi.of2 rfl (nle rfl) ?_
  intro D G A p e s m args below meth c Po hPo X
  have hok6 := hok.2.1
  have hok1 := hok.1
  refine S_iload_n X dX12_oddsFrom_0 rfl rfl ?_
  refine S_iload_n X dX12_oddsFrom_1 rfl rfl ?_
  refine S_icmp_ne (tgt := 29) X dX12_oddsFrom_2 (by decide) (by omega) (by omega) (fun c_1 => ?_) (fun c_1 => ?_)
  ·
    obtain ⟨K2, hK2⟩ : ∃ K2, K = K2 + 1 := ⟨K - 1, by omega⟩
    refine S_aload_n X dX12_oddsFrom_29 rfl rfl ?_
    refine S_iload_n X dX12_oddsFrom_30 rfl rfl ?_
    refine S_callv X (kX12_keepBeats l h0 f pl hB B hwb Wb i hf0 hf5 hf11 (by omega) (by omega)) (is := [0, 2, 7]) rfl (run_V X lkX12_336 0 rfl rfl (is := [0, 2, 7]) (avs := [iv i]) (rest := []) rfl rfl (nle rfl) ⟨by simp only [rmD]; omega, by simp only [rmD]; omega⟩ ⟨nle rfl, nle rfl⟩ dX12_oddsFrom_31 (by decide) rfl) (fun u_2 hp_3 => ?_)
    obtain ⟨Wb2_5, hu_7, hW2_8, hW3_9⟩ := hp_3
    subst hu_7
    refine ⟨rfl, ?_⟩
    refine S_w (ws' := [(h0, ob 11 f), (hQ, ar 30 Q), (hB, ar 6 B), (hE, ar 6 E), (hA, ar 1206 Ab), (hM, ar 180 Mt), (hW, ar 180 Wt), (hwb, ar 42 Wb2_5)]) rfl ?_
    have hKB := hW2_8
    have hKC := hW3_9
    refine S_iconst X dX12_oddsFrom_34 ?_
    refine S_istore X dX12_oddsFrom_35 (nle rfl) ?_
    refine S_iconst X dX12_oddsFrom_37 ?_
    refine S_istore X dX12_oddsFrom_38 (nle rfl) ?_
    have lp40_1 : ∀ (N : Nat) (q : Int) (sm : Int) (Bv : Int → Int) (Aw : Int → Int) (Mw : Int → Int) (Ww : Int → Int) (Wv : Int → Int) (L : Nat → Option AV), 0 ≤ q ∧ q ≤ 3 → Bv = B → (∀ x, x < 6 * (i + 1) → Wv x = Wb2_5 x) → sm = smI (fun d9 => odN pl n ec mk mt (c5 Q 3) (c5 Q 4) E (c5 Q 2) (c5 Q 1) pp K2 (paF (c5 Q 2) (c5 Q 1) mt (-1) d9 pl B)) q → L 0 = some (rv h0) → L 1 = some (iv i) → L 2 = some (iv k9) → L 3 = some (iv pp) → L 4 = some (iv sm) → L 5 = some (iv q) → 4 - q < (N : Int) → S_ p l e (rmD (d + 1) 0 0) s m args below meth c (MQ below (QcI D G A Po) args s 0 0 A) D G A 6 0 0 40 L [] [(h0, ob 11 f), (hQ, ar 30 Q), (hB, ar 6 Bv), (hE, ar 6 E), (hA, ar 1206 Aw), (hM, ar 180 Mw), (hW, ar 180 Ww), (hwb, ar 42 Wv)] := by
      intro N
      induction N with
      | zero =>
        intro q sm Bv Aw Mw Ww Wv L40 hq hBv hWv hsm hL40_0 hL40_1 hL40_2 hL40_3 hL40_4 hL40_5 hN40
        exfalso; omega
      | succ N ih40 =>
        intro q sm Bv Aw Mw Ww Wv L40 hq hBv hWv hsm hL40_0 hL40_1 hL40_2 hL40_3 hL40_4 hL40_5 hN40
        refine S_iload X dX12_oddsFrom_40 hL40_5 ?_
        refine S_iconst X dX12_oddsFrom_42 ?_
        refine S_icmp_ge (tgt := 78) X dX12_oddsFrom_43 (by decide) (by omega) (by decide) (fun c_10 => ?_) (fun c_10 => ?_)
        ·
          refine S_iload X dX12_oddsFrom_78 hL40_4 ?_
          exact S_iret X (nle rfl) (nle rfl) dX12_oddsFrom_80 (hPo _ _ (⟨_, _, _, _, by rw [hK2, odN, hsm, show q = 3 by omega], by rw [hBv], fun x h => (hWv x (by omega)).trans (hKC x (by omega))⟩))
        ·
          refine S_aload_n X dX12_oddsFrom_46 rfl hL40_0 ?_
          refine S_iconst X dX12_oddsFrom_47 ?_
          refine S_iload X dX12_oddsFrom_48 hL40_5 ?_
          refine S_callv X (kX12_pass l h0 f pl mt hQ hB Q Bv (-1) q hf0 hf4 hf5 hf10 (by omega) hod (by rw [hBv]; exact fun p h0 h1 => (hok.2.2.2.2.2.2 p h0 h1).2.2.1) (by omega) (by omega)) (is := [0, 1, 2]) rfl (run_V X lkX12_300 0 rfl rfl (is := [0, 1, 2]) (avs := [iv (-1), iv q]) (rest := []) rfl rfl (nle rfl) ⟨by simp only [rmD]; omega, by simp only [rmD]; omega⟩ ⟨nle rfl, nle rfl⟩ dX12_oddsFrom_50 (by decide) rfl) (fun u_11 hp_12 => ?_)
          obtain ⟨B2_14, hu_16, hB2_17⟩ := hp_12
          subst hu_16
          refine ⟨rfl, ?_⟩
          refine S_w (ws' := [(h0, ob 11 f), (hQ, ar 30 Q), (hB, ar 6 B2_14), (hE, ar 6 E), (hA, ar 1206 Aw), (hM, ar 180 Mw), (hW, ar 180 Ww), (hwb, ar 42 Wv)]) rfl ?_
          have hB9 := hB2_17
          refine S_iload X dX12_oddsFrom_53 hL40_4 ?_
          refine S_aload_n X dX12_oddsFrom_55 rfl hL40_0 ?_
          refine S_iload_n X dX12_oddsFrom_56 rfl hL40_1 ?_
          refine S_iconst X dX12_oddsFrom_57 ?_
          refine S_iadd X dX12_oddsFrom_58 ?_
          refine S_iload_n X dX12_oddsFrom_59 rfl hL40_2 ?_
          refine S_iload_n X dX12_oddsFrom_60 rfl hL40_3 ?_
          refine S_calli X ((hnx K2 hK2) h0 f pl n ec mk hQ hB hE hA hM hW Q B2_14 E Aw Mw Ww mt hwb Wv (i + 1) k9 pp hf0 hf1 hf2 hf3 hf4 hf5 hf6 hf7 hf8 hf9 hf10 hf11 (by rw [hB9, hBv]; exact hok.pa hod) hod (by omega) (by omega)) (is := [0, 1, 2, 3, 4, 5, 6, 7]) rfl (run_V X lkX12_349 0 rfl rfl (is := [0, 1, 2, 3, 4, 5, 6, 7]) (avs := [iv (i + 1), iv k9, iv pp]) (rest := [iv sm]) rfl rfl (nle rfl) ⟨by simp only [rmD]; omega, by simp only [rmD]; omega⟩ ⟨nle rfl, nle rfl⟩ dX12_oddsFrom_61 (by decide) rfl) (fun z_20 u_18 hp_19 => ?_)
          obtain ⟨A2_21, M2_22, W2_23, Wb2_24, hz_25, hu_26, hWb_27⟩ := hp_19
          subst hz_25
          subst hu_26
          refine ⟨rfl, ?_⟩
          refine S_w (ws' := [(h0, ob 11 f), (hQ, ar 30 Q), (hB, ar 6 B2_14), (hE, ar 6 E), (hA, ar 1206 A2_21), (hM, ar 180 M2_22), (hW, ar 180 W2_23), (hwb, ar 42 Wb2_24)]) rfl ?_
          have hq8 := hWb_27
          refine S_iadd X dX12_oddsFrom_64 ?_
          refine S_istore X dX12_oddsFrom_65 (nle rfl) ?_
          refine S_aload_n X dX12_oddsFrom_67 rfl hL40_0 ?_
          refine S_iload_n X dX12_oddsFrom_68 rfl hL40_1 ?_
          refine S_callv X (kX12_takeBeats l h0 f pl hB B2_14 hwb Wb2_24 i hf0 hf5 hf11 (by omega) (by omega)) (is := [0, 2, 7]) rfl (run_V X lkX12_342 0 rfl rfl (is := [0, 2, 7]) (avs := [iv i]) (rest := []) rfl rfl (nle rfl) ⟨by simp only [rmD]; omega, by simp only [rmD]; omega⟩ ⟨nle rfl, nle rfl⟩ dX12_oddsFrom_69 (by decide) rfl) (fun u_28 hp_29 => ?_)
          obtain ⟨B2_31, hu_33, hB2_34, hB3_35⟩ := hp_29
          subst hu_33
          refine ⟨rfl, ?_⟩
          refine S_w (ws' := [(h0, ob 11 f), (hQ, ar 30 Q), (hB, ar 6 B2_31), (hE, ar 6 E), (hA, ar 1206 A2_21), (hM, ar 180 M2_22), (hW, ar 180 W2_23), (hwb, ar 42 Wb2_24)]) rfl ?_
          have hT1 := hB2_34
          have hT2 := hB3_35
          refine S_iinc X dX12_oddsFrom_72 (nle rfl) hL40_5 ?_
          refine S_goto (tgt := 40) X dX12_oddsFrom_75 (by decide) ?_
          exact ih40 (q + 1) (sm + (odN pl n ec mk mt (c5 Q 3) (c5 Q 4) E (c5 Q 2) (c5 Q 1) pp K2 B2_14)) B2_31 A2_21 M2_22 W2_23 Wb2_24 _ (by omega) (pa_back (pl := pl) (B := B) hT1 (fun x h => by rw [hT2 x h, hB9, hBv]) (fun x h0 h1 => (hq8 _ (by omega)).trans ((hWv _ (by omega)).trans (hKB x h0 h1)))) (fun x h => (hq8 x (by omega)).trans (hWv x h)) (by rw [smI_S (by omega), ← hsm, hB9, hBv]) hL40_0 hL40_1 hL40_2 hL40_3 rfl rfl (by omega)
    exact lp40_1 (Int.toNat (4 - 0) + 1) 0 0 B Ab Mt Wt Wb2_5 _ (by omega) (rfl) (fun x h => rfl) (rfl) rfl rfl rfl rfl rfl rfl (by omega)
  ·
    refine S_aload_n X dX12_oddsFrom_5 rfl rfl ?_
    refine S_callv X (kX12_play l h0 f pl n ec mk hQ hB hE hA hM hW Q B E Ab Mt Wt hf0 hf1 hf2 hf3 hf4 hf5 hf6 hf7 hf8 hf9 hok) (is := [0, 1, 2, 3, 4, 5, 6]) rfl (run_V X lkX12_312 0 rfl rfl (is := [0, 1, 2, 3, 4, 5, 6]) (avs := []) (rest := []) rfl rfl (nle rfl) ⟨by simp only [rmD]; omega, by simp only [rmD]; omega⟩ ⟨nle rfl, nle rfl⟩ dX12_oddsFrom_6 (by decide) rfl) (fun u_36 hp_37 => ?_)
    obtain ⟨A2_39, M2_40, W2_41, hu_43, hA2_44, hM2_45, hW2_46⟩ := hp_37
    subst hu_43
    refine ⟨rfl, ?_⟩
    refine S_w (ws' := [(h0, ob 11 f), (hQ, ar 30 Q), (hB, ar 6 B), (hE, ar 6 E), (hA, ar 1206 A2_39), (hM, ar 180 M2_40), (hW, ar 180 W2_41), (hwb, ar 42 Wb)]) rfl ?_
    have hAL := hA2_44
    have hML := hM2_45
    have hWL := hW2_46
    have hok3 := hok.2.2.1
    have hal9 := amI_lt (g := (tS pl ec mk (c5 Q 3) (c5 Q 4) B E) (n - 1)) (p := pl) (by omega)
    refine S_aload_n X dX12_oddsFrom_9 rfl rfl ?_
    refine S_aload_n X dX12_oddsFrom_10 rfl rfl ?_
    refine S_get X fgX12_56_11 0 rfl hf1 dX12_oddsFrom_11 ?_
    refine S_iconst X dX12_oddsFrom_14 ?_
    refine S_isub X dX12_oddsFrom_15 ?_
    refine S_calli X (kX12_lastAt l h0 f pl n ec mk hM Q B E M2_40 (n - 1) hf0 hf8 (by omega) hML (by omega)) (is := [0, 5]) rfl (run_V X lkX12_324 0 rfl rfl (is := [0, 5]) (avs := [iv (n - 1)]) (rest := []) rfl rfl (nle rfl) ⟨by simp only [rmD]; omega, by simp only [rmD]; omega⟩ ⟨nle rfl, nle rfl⟩ dX12_oddsFrom_16 (by decide) rfl) (fun z_49 u_47 hp_48 => ?_)
    obtain ⟨hz_50, hu_51⟩ := hp_48
    subst hz_50
    subst hu_51
    refine ⟨rfl, ?_⟩
    refine S_w (ws' := [(h0, ob 11 f), (hQ, ar 30 Q), (hB, ar 6 B), (hE, ar 6 E), (hA, ar 1206 A2_39), (hM, ar 180 M2_40), (hW, ar 180 W2_41), (hwb, ar 42 Wb)]) rfl ?_
    refine S_iload_n X dX12_oddsFrom_19 rfl rfl ?_
    refine S_icmp_ne (tgt := 27) X dX12_oddsFrom_20 (by decide) (by omega) (by omega) (fun c_52 => ?_) (fun c_52 => ?_)
    ·
      refine S_iconst X dX12_oddsFrom_27 ?_
      exact S_iret X (nle rfl) (nle rfl) dX12_oddsFrom_28 (hPo _ _ (⟨_, _, _, _, by rw [show K = 0 by omega, odN]; rw [if_neg (by omega)], rfl, fun x h => rfl⟩))
    ·
      refine S_iconst X dX12_oddsFrom_23 ?_
      refine S_goto (tgt := 28) X dX12_oddsFrom_24 (by decide) ?_
      exact S_iret X (nle rfl) (nle rfl) dX12_oddsFrom_28 (hPo _ _ (⟨_, _, _, _, by rw [show K = 0 by omega, odN]; rw [if_pos (by omega)], rfl, fun x h => rfl⟩))
theorem od_all (l : Launch) : ∀ K : Nat, C_X12_oddsFrom l K (6 + K) := by
  intro K
  induction K with
  | zero => exact kX12_oddsFrom l 0 5 (by omega) (fun K2 h => by omega)
  | succ K ih => exact kX12_oddsFrom l (K + 1) (6 + K) (by omega) (fun K2 h => by cases h; exact ih)
