
set_option maxHeartbeats 4000000 in
set_option maxRecDepth 100000 in
theorem kX11_wetness (l : Launch) (h0 : Nat) (f : Nat → AV) (oW : Nat) (fW : Nat → AV) (pl : Int) (ds : List LwS) (ys : Nat → LwY) (mt : Int) (lw : Int) (oA : Nat) (ho : Int) (dd : Int) (hf0 : f 3 = rv oW) (hf1 : fW 0 = iv pl) (hf2 : f 4 = rv oA) (hf3 : f 14 = iv ho) (hf4 : fW 1 = iv mt) (hpl : 1 ≤ pl ∧ pl ≤ 6) (hmt : 1 ≤ mt ∧ mt ≤ 99) (hds : (ds.length : Int) = lw ∧ 0 ≤ lw ∧ lw ≤ 4) (hdy : okW ds ys mt pl) (hho : -1 ≤ ho ∧ ho < lw) (hdd : 0 ≤ dd ∧ dd ≤ 999) : AMi l yX11_wetness cX11_wetness 3 .int 5 0 0 [rv h0, iv dd] ([(h0, ob 10 f), (oW, ob 7 fW), (oA, aq 4 (lwR ds))] ++ (lwT ds ys)) (fun z u => ∃ y2 : Nat → LwY, z = aDy ho (csA ds ho) mt pl dd ∧ u = ([(h0, ob 10 f), (oW, ob 7 fW), (oA, aq 4 (lwR ds))] ++ (lwT ds y2)) ∧ okW ds y2 mt pl) := by
  refine AMi.of2 rfl (nle rfl) ?_
  intro D G A p e s m args below meth c Po hPo X
  refine S_aload_n X dX11_wetness_0 rfl rfl ?_
  refine S_get X fgX11_93_10 0 rfl hf3 dX11_wetness_1 ?_
  refine S_if_lt (tgt := 27) X dX11_wetness_4 (by decide) (by omega) (fun c_1 => ?_) (fun c_1 => ?_)
  ·
    refine S_anull X dX11_wetness_27 ?_
    refine S_astore_nN X dX11_wetness_28 rfl (nle rfl) ?_
    refine S_aload_nN X dX11_wetness_29 rfl rfl ?_
    refine S_ifnonnull (tgt := 37) X dX11_wetness_30 (by decide) (fun a9 h9 => by cases h9) (fun _ => ?_)
    refine S_iconst X dX11_wetness_33 ?_
    refine S_goto (tgt := 46) X dX11_wetness_34 (by decide) ?_
    exact S_iret X (nle rfl) (nle rfl) dX11_wetness_46 (hPo _ _ (⟨ys, by unfold aDy; rw [if_pos (by omega)], rfl, hdy⟩))
  ·
    refine S_aload_n X dX11_wetness_7 rfl rfl ?_
    refine S_get X fgX11_93_10 0 rfl hf3 dX11_wetness_8 ?_
    refine S_iconst X dX11_wetness_11 ?_
    refine S_icmp_ge (tgt := 27) X dX11_wetness_12 (by decide) (by omega) (by decide) (fun c_2 => ?_) (fun c_2 => ?_)
    ·
      refine S_anull X dX11_wetness_27 ?_
      refine S_astore_nN X dX11_wetness_28 rfl (nle rfl) ?_
      refine S_aload_nN X dX11_wetness_29 rfl rfl ?_
      refine S_ifnonnull (tgt := 37) X dX11_wetness_30 (by decide) (fun a9 h9 => by cases h9) (fun _ => ?_)
      refine S_iconst X dX11_wetness_33 ?_
      refine S_goto (tgt := 46) X dX11_wetness_34 (by decide) ?_
      exact S_iret X (nle rfl) (nle rfl) dX11_wetness_46 (hPo _ _ (⟨ys, by unfold aDy; rw [if_pos (by omega)], rfl, hdy⟩))
    ·
      refine S_aload_n X dX11_wetness_15 rfl rfl ?_
      refine S_get X fgX11_41_10 0 rfl hf2 dX11_wetness_16 ?_
      refine S_aload_n X dX11_wetness_19 rfl rfl ?_
      refine S_get X fgX11_93_10 0 rfl hf3 dX11_wetness_20 ?_
      obtain ⟨x9, hx9, hr9⟩ := lwR_at (ds := ds) (j := ho) (by omega) (by omega)
      obtain ⟨rs9, hp9, hb9⟩ := lw_front (y := ys) hx9
      obtain ⟨⟨⟨hg0, hg1, hg2⟩, hg3, hg4, hg5, hg6, hg7⟩, hg8, hg9⟩ := hdy _ _ hx9
      refine S_aald X 2 rfl (by omega) (by omega) (nle rfl) dX11_wetness_23 ?_
      rw [hr9]
      refine S_perm (hp9 _) ?_
      refine S_w (ws' := ([(h0, ob 10 f), (oW, ob 7 fW), (oA, aq 4 (lwR ds)), (x9.o, ob 1 (uF (uF x9.f 3 (iv ((ys ho.toNat).tp))) 4 (iv ((ys ho.toNat).kn)))), (x9.c, ar x9.nc x9.CC), (x9.s, ar x9.nc ((ys ho.toNat).S)), (x9.k, ar x9.nk ((ys ho.toNat).K))] ++ rs9)) rfl ?_
      refine S_goto (tgt := 28) X dX11_wetness_24 (by decide) ?_
      refine S_astore_n X dX11_wetness_28 rfl (nle rfl) ?_
      refine S_aload_n X dX11_wetness_29 rfl rfl ?_
      refine S_ifnonnull (tgt := 37) X dX11_wetness_30 (by decide) (fun _ _ => ?_) (fun h9 => by cases h9)
      refine S_aload_n X dX11_wetness_37 rfl rfl ?_
      refine S_iload_n X dX11_wetness_38 rfl rfl ?_
      refine S_aload_n X dX11_wetness_39 rfl rfl ?_
      refine S_get X fgX11_35_10 0 rfl hf0 dX11_wetness_40 ?_
      refine S_calli X (kX1_wetness l x9.o x9.f x9.c x9.s x9.k x9.nc x9.nk x9.CC ((ys ho.toNat).S) ((ys ho.toNat).K) ((ys ho.toNat).tp) ((ys ho.toNat).kn) oW fW pl mt dd x9.cs hg0 hg1 hg2 hf1 hf4 hg3 hg4 hg5 hg6 hg7 hg8 hg9 (by omega) (by omega)) (is := [3, 4, 5, 6, 1]) rfl (run_V X lkX11_202 3 rfl rfl (is := [3, 4, 5, 6, 1]) (avs := [iv dd, rv oW]) (rest := []) rfl rfl (nle rfl) ⟨nle rfl, nle rfl⟩ ⟨nle rfl, nle rfl⟩ dX11_wetness_43 (by decide) rfl) (fun z_5 u_3 hp_4 => ?_)
      obtain ⟨S2_6, t2_7, K2_8, k2_9, hz_10, hu_11, hk2_12, hkk2_13⟩ := hp_4
      subst hz_10
      subst hu_11
      refine ⟨rfl, ?_⟩
      refine S_w (ws' := ([(h0, ob 10 f), (oW, ob 7 fW), (oA, aq 4 (lwR ds)), (x9.o, ob 1 (uF (uF x9.f 3 (iv t2_7)) 4 (iv k2_9))), (x9.c, ar x9.nc x9.CC), (x9.s, ar x9.nc S2_6), (x9.k, ar x9.nk K2_8)] ++ rs9)) (by simp only [putC, List.set, List.append_nil, List.cons_append, List.nil_append]) ?_
      have hk8 := hk2_12
      have hk9 := hkk2_13
      refine S_perm (hb9 [(h0, ob 10 f), (oW, ob 7 fW), (oA, aq 4 (lwR ds))] (lwY0 S2_6 K2_8 t2_7 k2_9)) ?_
      obtain ⟨z9, hz9⟩ : ∃ z9, z9 = aDy ho (csA ds ho) mt pl dd := ⟨_, rfl⟩
      have hcs9 : dyI x9.cs mt pl dd = z9 := by rw [hz9]; unfold aDy; rw [if_neg (by omega), csA_at hx9 rfl]
      rw [hcs9]
      exact S_iret X (nle rfl) (nle rfl) dX11_wetness_46 (hPo _ _ (⟨_, hz9, rfl, hdy.set hx9 ⟨hk8, hk9⟩⟩))
set_option maxHeartbeats 4000000 in
set_option maxRecDepth 100000 in
theorem kX11_damp (l : Launch) (h0 : Nat) (f : Nat → AV) (oW : Nat) (fW : Nat → AV) (pl : Int) (ds : List LwS) (ys : Nat → LwY) (mt : Int) (lw : Int) (oA : Nat) (ho : Int) (dd : Int) (hf0 : f 3 = rv oW) (hf1 : fW 0 = iv pl) (hf2 : f 4 = rv oA) (hf3 : f 14 = iv ho) (hf4 : fW 1 = iv mt) (hpl : 0 ≤ pl ∧ pl ≤ 6) (hmt0 : 1 ≤ pl → 1 ≤ mt ∧ mt ≤ 99) (hds : (ds.length : Int) = lw ∧ 0 ≤ lw ∧ lw ≤ 4) (hdy : okW ds ys mt pl) (hho : -1 ≤ ho ∧ ho < lw) (hx_dd : inR dd) : AMi l yX11_damp cX11_damp 2 .int 6 0 0 [rv h0, iv dd] ([(h0, ob 10 f), (oW, ob 7 fW), (oA, aq 4 (lwR ds))] ++ (lwT ds ys)) (fun z u => ∃ y2 : Nat → LwY, z = aDamp ho (csA ds ho) mt pl dd ∧ u = ([(h0, ob 10 f), (oW, ob 7 fW), (oA, aq 4 (lwR ds))] ++ (lwT ds y2)) ∧ okW ds y2 mt pl) := by
  refine AMi.of2 rfl (nle rfl) ?_
  intro D G A p e s m args below meth c Po hPo X
  refine S_aload_n X dX11_damp_0 rfl rfl ?_
  refine S_get X fgX11_35_10 0 rfl hf0 dX11_damp_1 ?_
  refine S_get X fgX11_115_7 1 rfl hf1 dX11_damp_4 ?_
  refine S_if_eq (tgt := 21) X dX11_damp_7 (by decide) (by omega) (fun c_1 => ?_) (fun c_1 => ?_)
  ·
    refine S_iconst X dX11_damp_21 ?_
    exact S_iret X (nle rfl) (nle rfl) dX11_damp_22 (hPo _ _ (⟨ys, by unfold aDamp; rw [if_neg (by omega)], rfl, hdy⟩))
  ·
    refine S_iload_n X dX11_damp_10 rfl rfl ?_
    refine S_if_lt (tgt := 21) X dX11_damp_11 (by decide) (by omega) (fun c_2 => ?_) (fun c_2 => ?_)
    ·
      refine S_iconst X dX11_damp_21 ?_
      exact S_iret X (nle rfl) (nle rfl) dX11_damp_22 (hPo _ _ (⟨ys, by unfold aDamp; rw [if_neg (by omega)], rfl, hdy⟩))
    ·
      refine S_iload_n X dX11_damp_14 rfl rfl ?_
      refine S_sipush X dX11_damp_15 rfl ?_
      refine S_icmp_le (tgt := 23) X dX11_damp_18 (by decide) (by omega) (by decide) (fun c_3 => ?_) (fun c_3 => ?_)
      ·
        refine S_aload_n X dX11_damp_23 rfl rfl ?_
        refine S_iload_n X dX11_damp_24 rfl rfl ?_
        refine S_calliT X (kX11_wetness l h0 f oW fW pl ds ys mt lw oA ho dd hf0 hf1 hf2 hf3 hf4 (by omega) (by omega) hds hdy hho (by omega)) (is := [0, 1, 2]) rfl (run_V X lkX11_199 0 rfl rfl (is := isT [0, 1, 2] 3 (List.length (lwT ds ys))) (avs := [iv dd]) (rest := []) rfl rfl (nle rfl) ⟨nle rfl, nle rfl⟩ ⟨nle rfl, nle rfl⟩ dX11_damp_25 (isT_nd rfl (by decide)) (isT_map rfl)) (fun z_6 u_4 hp_5 => ?_)
        obtain ⟨y2_7, hz_8, hu_9, hy2_10⟩ := hp_5
        subst hz_8
        subst hu_9
        refine ⟨_, _, rfl, rfl, lwT_key _ _ _, ?_⟩
        refine S_w (ws' := ([(h0, ob 10 f), (oW, ob 7 fW), (oA, aq 4 (lwR ds))] ++ (lwT ds y2_7))) (by simp only [putC, List.set, List.append_nil, List.cons_append, List.nil_append]) ?_
        have h91 := hy2_10
        exact S_iret X (nle rfl) (nle rfl) dX11_damp_28 (hPo _ _ (⟨_, by unfold aDamp; rw [if_pos (by omega)], rfl, h91⟩))
      ·
        refine S_iconst X dX11_damp_21 ?_
        exact S_iret X (nle rfl) (nle rfl) dX11_damp_22 (hPo _ _ (⟨ys, by unfold aDamp; rw [if_neg (by omega)], rfl, hdy⟩))
set_option maxHeartbeats 4000000 in
set_option maxRecDepth 100000 in
theorem kX11_day (l : Launch) (h0 : Nat) (f : Nat → AV) (oW : Nat) (fW : Nat → AV) (fS : Nat → AV) (pl : Int) (oS : Nat) (aB : Nat) (B : Int → Int) (oK : Nat) (fK : Nat → AV) (kk : Int) (oD : Nat) (fD : Nat → AV) (dR : Nat) (DR : Int → Int) (td : Int) (un : Int) (hi : Int) (im : Int) (nx : Int) (wD : Nat) (wK : Nat) (WD : Int → Int) (WK : Int → Int) (ds : List LwS) (ys : Nat → LwY) (mt : Int) (lw : Int) (oA : Nat) (ho : Int) (q : Int) (hf0 : f 3 = rv oW) (hf1 : f 7 = rv oS) (hf2 : f 5 = rv oD) (hf3 : f 11 = rv oK) (hf4 : fW 0 = iv pl) (hf5 : fD 6 = rv dR) (hf6 : fS 4 = rv aB) (hf7 : fW 3 = rv wD) (hf8 : fW 4 = rv wK) (hf9 : f 4 = rv oA) (hf10 : f 14 = iv ho) (hf11 : fW 1 = iv mt) (hpl : 0 ≤ pl ∧ pl ≤ 6) (hod0 : 1 ≤ pl → okDy pl mt WK WD) (hB : ∀ p, 0 ≤ p → p < pl → 1 ≤ B p ∧ B p ≤ 199) (hds : (ds.length : Int) = lw ∧ 0 ≤ lw ∧ lw ≤ 4) (hdy : okW ds ys mt pl) (hho : -1 ≤ ho ∧ ho < lw) (hnx : 0 ≤ nx ∧ nx ≤ 59) (hun : 0 ≤ un ∧ un ≤ 60) (htd : 0 ≤ td ∧ td ≤ 1000) (hx_q : inR q) : AMi l yX11_day cX11_day 3 .int 6 0 0 [rv h0, iv q] ([(h0, ob 10 f), (oW, ob 7 fW), (oA, aq 4 (lwR ds)), (wD, ar 6 WD), (wK, ar 6 WK), (oD, ob 0 (uF (uF (uF (uF (uF fD 0 (iv td)) 1 (iv un)) 2 (iv hi)) 3 (iv im)) 4 (iv nx))), (dR, ar 360 DR), (oS, ob 5 fS), (aB, ar 6 B), (oK, ob 9 (uF fK 0 (iv kk)))] ++ (lwT ds ys)) (fun z u => (z = -1 ∧ u = ([(h0, ob 10 f), (oW, ob 7 fW), (oA, aq 4 (lwR ds)), (wD, ar 6 WD), (wK, ar 6 WK), (oD, ob 0 (uF (uF (uF (uF (uF fD 0 (iv td)) 1 (iv un)) 2 (iv hi)) 3 (iv im)) 4 (iv nx))), (dR, ar 360 DR), (oS, ob 5 fS), (aB, ar 6 B), (oK, ob 9 (uF fK 0 (iv kk)))] ++ (lwT ds ys)) ∧ (¬ (1 ≤ pl ∧ (q = -1 ∨ (0 ≤ q ∧ q < pl)) ∧ td ≤ 999))) ∨ (∃ y2 : Nat → LwY, z = td + 1 ∧ u = ([(h0, ob 10 f), (oW, ob 7 fW), (oA, aq 4 (lwR ds)), (wD, ar 6 WD), (wK, ar 6 WK), (oD, ob 0 (uF (uF (uF (uF (uF fD 0 (iv (td + 1))) 1 (iv (min (un + 1) 60))) 2 (iv hi)) 3 (iv im)) 4 (iv ((nx + 1).tmod 60)))), (dR, ar 360 (cpZ B DR 0 (nx * 6) 6)), (oS, ob 5 fS), (aB, ar 6 (paF WK WD mt q (aDy ho (csA ds ho) mt pl td) pl B)), (oK, ob 9 (uF fK 0 (iv 0)))] ++ (lwT ds y2)) ∧ okW ds y2 mt pl ∧ (1 ≤ pl ∧ (q = -1 ∨ (0 ≤ q ∧ q < pl)) ∧ td ≤ 999))) := by
  refine AMi.of2 rfl (nle rfl) ?_
  intro D G A p e s m args below meth c Po hPo X
  refine S_aload_n X dX11_day_0 rfl rfl ?_
  refine S_get X fgX11_35_10 0 rfl hf0 dX11_day_1 ?_
  refine S_get X fgX11_115_7 1 rfl hf4 dX11_day_4 ?_
  refine S_if_eq (tgt := 36) X dX11_day_7 (by decide) (by omega) (fun c_1 => ?_) (fun c_1 => ?_)
  ·
    refine S_iconst X dX11_day_36 ?_
    exact S_iret X (nle rfl) (nle rfl) dX11_day_37 (hPo _ _ (Or.inl ⟨rfl, rfl, by omega⟩))
  ·
    refine S_iload_n X dX11_day_10 rfl rfl ?_
    refine S_iconst X dX11_day_11 ?_
    refine S_icmp_eq (tgt := 23) X dX11_day_12 (by decide) (by omega) (by decide) (fun c_2 => ?_) (fun c_2 => ?_)
    ·
      refine S_aload_n X dX11_day_23 rfl rfl ?_
      refine S_get X fgX11_48_10 0 rfl hf2 dX11_day_24 ?_
      refine S_get (v := iv td) X fgX11_205_0 5 rfl rfl dX11_day_27 ?_
      refine S_sipush X dX11_day_30 rfl ?_
      refine S_icmp_le (tgt := 38) X dX11_day_33 (by decide) (by omega) (by decide) (fun c_3 => ?_) (fun c_3 => ?_)
      ·
        have hod := hod0 (by omega)
        have hod1 := hod.1
        have hod2 := hod.2.1
        refine S_aload_n X dX11_day_38 rfl rfl ?_
        refine S_aload_n X dX11_day_39 rfl rfl ?_
        refine S_get X fgX11_48_10 0 rfl hf2 dX11_day_40 ?_
        refine S_get (v := iv td) X fgX11_205_0 5 rfl rfl dX11_day_43 ?_
        refine S_calliT X (kX11_wetness l h0 f oW fW pl ds ys mt lw oA ho td hf0 hf4 hf9 hf10 hf11 (by omega) (by omega) hds hdy hho (by omega)) (is := [0, 1, 2]) rfl (run_V X lkX11_199 0 rfl rfl (is := isT [0, 1, 2] 10 (List.length (lwT ds ys))) (avs := [iv td]) (rest := []) rfl rfl (nle rfl) ⟨nle rfl, nle rfl⟩ ⟨nle rfl, nle rfl⟩ dX11_day_46 (isT_nd rfl (by decide)) (isT_map rfl)) (fun z_6 u_4 hp_5 => ?_)
        obtain ⟨y2_7, hz_8, hu_9, hy2_10⟩ := hp_5
        subst hz_8
        subst hu_9
        refine ⟨_, _, rfl, rfl, lwT_key _ _ _, ?_⟩
        refine S_w (ws' := ([(h0, ob 10 f), (oW, ob 7 fW), (oA, aq 4 (lwR ds)), (wD, ar 6 WD), (wK, ar 6 WK), (oD, ob 0 (uF (uF (uF (uF (uF fD 0 (iv td)) 1 (iv un)) 2 (iv hi)) 3 (iv im)) 4 (iv nx))), (dR, ar 360 DR), (oS, ob 5 fS), (aB, ar 6 B), (oK, ob 9 (uF fK 0 (iv kk)))] ++ (lwT ds y2_7))) (by simp only [putC, List.set, List.append_nil, List.cons_append, List.nil_append]) ?_
        have h91 := hy2_10
        obtain ⟨w9, hw9⟩ : ∃ z9, z9 = aDy ho (csA ds ho) mt pl td := ⟨_, rfl⟩
        rw [← hw9]
        have hwr := aDy_in (ho := ho) (cs := csA ds ho) (mt := mt) (pl := pl) (d := td) (by omega)
        rw [← hw9] at hwr
        refine S_istore_n X dX11_day_49 rfl (nle rfl) ?_
        refine S_aload_n X dX11_day_50 rfl rfl ?_
        refine S_get X fgX11_48_10 0 rfl hf2 dX11_day_51 ?_
        refine S_aload_n X dX11_day_54 rfl rfl ?_
        refine S_get X fgX11_59_10 0 rfl hf1 dX11_day_55 ?_
        refine S_get X fgX11_158_5 7 rfl hf6 dX11_day_58 ?_
        refine S_callv X (kX0_keep l oD fD dR DR td un hi im nx aB B hf5 (by omega) (by omega)) (is := [5, 6, 8]) rfl (run_V X lkX11_208 5 rfl rfl (is := [5, 6, 8]) (avs := [rv aB]) (rest := []) rfl rfl (nle rfl) ⟨nle rfl, nle rfl⟩ ⟨nle rfl, nle rfl⟩ dX11_day_61 (by decide) rfl) (fun u_11 hp_12 => ?_)
        have hu_15 := hp_12
        subst hu_15
        refine ⟨rfl, ?_⟩
        refine S_w (ws' := ([(h0, ob 10 f), (oW, ob 7 fW), (oA, aq 4 (lwR ds)), (wD, ar 6 WD), (wK, ar 6 WK), (oD, ob 0 (uF (uF (uF (uF (uF fD 0 (iv td)) 1 (iv (min (un + 1) 60))) 2 (iv hi)) 3 (iv im)) 4 (iv ((nx + 1).tmod 60)))), (dR, ar 360 (cpZ B DR 0 (nx * 6) 6)), (oS, ob 5 fS), (aB, ar 6 B), (oK, ob 9 (uF fK 0 (iv kk)))] ++ (lwT ds y2_7))) (by simp only [putC, List.set, List.append_nil, List.cons_append, List.nil_append]) ?_
        refine S_aload_n X dX11_day_64 rfl rfl ?_
        refine S_get X fgX11_35_10 0 rfl hf0 dX11_day_65 ?_
        refine S_aload_n X dX11_day_68 rfl rfl ?_
        refine S_get X fgX11_59_10 0 rfl hf1 dX11_day_69 ?_
        refine S_get X fgX11_158_5 7 rfl hf6 dX11_day_72 ?_
        refine S_iload_n X dX11_day_75 rfl rfl ?_
        refine S_iload_n X dX11_day_76 rfl rfl ?_
        refine S_callv X (kX8_goThroughDay l oW wD wK fW WD WK pl mt aB B q w9 hf7 hf8 hf4 hf11 (by omega) hod hB (by omega) (by omega)) (is := [1, 3, 4, 8]) rfl (run_V X lkX11_212 1 rfl rfl (is := [1, 3, 4, 8]) (avs := [rv aB, iv q, iv w9]) (rest := []) rfl rfl (nle rfl) ⟨nle rfl, nle rfl⟩ ⟨nle rfl, nle rfl⟩ dX11_day_77 (by decide) rfl) (fun u_16 hp_17 => ?_)
        obtain ⟨N2_19, hu_21, hN2_22⟩ := hp_17
        subst hu_21
        refine ⟨rfl, ?_⟩
        refine S_w (ws' := ([(h0, ob 10 f), (oW, ob 7 fW), (oA, aq 4 (lwR ds)), (wD, ar 6 WD), (wK, ar 6 WK), (oD, ob 0 (uF (uF (uF (uF (uF fD 0 (iv td)) 1 (iv (min (un + 1) 60))) 2 (iv hi)) 3 (iv im)) 4 (iv ((nx + 1).tmod 60)))), (dR, ar 360 (cpZ B DR 0 (nx * 6) 6)), (oS, ob 5 fS), (aB, ar 6 N2_19), (oK, ob 9 (uF fK 0 (iv kk)))] ++ (lwT ds y2_7))) (by simp only [putC, List.set, List.append_nil, List.cons_append, List.nil_append]) ?_
        have hN9 := hN2_22
        rw [hw9] at hN9
        refine S_aload_n X dX11_day_80 rfl rfl ?_
        refine S_get X fgX11_48_10 0 rfl hf2 dX11_day_81 ?_
        refine S_dup X dX11_day_84 ?_
        refine S_get (v := iv td) X fgX11_205_0 5 rfl rfl dX11_day_85 ?_
        refine S_iconst X dX11_day_88 ?_
        refine S_iadd X dX11_day_89 ?_
        refine S_put X fpX11_205_0 5 rfl FT_i dX11_day_90 ?_
        refine S_w (ws' := ([(h0, ob 10 f), (oW, ob 7 fW), (oA, aq 4 (lwR ds)), (wD, ar 6 WD), (wK, ar 6 WK), (oD, ob 0 (uF (uF (uF (uF (uF fD 0 (iv (td + 1))) 1 (iv (min (un + 1) 60))) 2 (iv hi)) 3 (iv im)) 4 (iv ((nx + 1).tmod 60)))), (dR, ar 360 (cpZ B DR 0 (nx * 6) 6)), (oS, ob 5 fS), (aB, ar 6 N2_19), (oK, ob 9 (uF fK 0 (iv kk)))] ++ (lwT ds y2_7))) (by simp only [List.set, List.cons_append, List.nil_append]; rw [uF_mv (j := 4) (k := 0) (by decide), uF_mv (j := 3) (k := 0) (by decide), uF_mv (j := 2) (k := 0) (by decide), uF_mv (j := 1) (k := 0) (by decide), uF_same (k := 0)]) ?_
        refine S_aload_n X dX11_day_93 rfl rfl ?_
        refine S_get X fgX11_85_10 0 rfl hf3 dX11_day_94 ?_
        refine S_iconst X dX11_day_97 ?_
        refine S_put X fpX11_143_9 9 rfl (FT_b (Or.inl rfl)) dX11_day_98 ?_
        refine S_w (ws' := ([(h0, ob 10 f), (oW, ob 7 fW), (oA, aq 4 (lwR ds)), (wD, ar 6 WD), (wK, ar 6 WK), (oD, ob 0 (uF (uF (uF (uF (uF fD 0 (iv (td + 1))) 1 (iv (min (un + 1) 60))) 2 (iv hi)) 3 (iv im)) 4 (iv ((nx + 1).tmod 60)))), (dR, ar 360 (cpZ B DR 0 (nx * 6) 6)), (oS, ob 5 fS), (aB, ar 6 N2_19), (oK, ob 9 (uF fK 0 (iv 0)))] ++ (lwT ds y2_7))) (by simp only [List.set, List.cons_append, List.nil_append]; rw [uF_same (k := 0)]) ?_
        refine S_aload_n X dX11_day_101 rfl rfl ?_
        refine S_get X fgX11_48_10 0 rfl hf2 dX11_day_102 ?_
        refine S_get (v := iv (td + 1)) X fgX11_205_0 5 rfl rfl dX11_day_105 ?_
        exact S_iret X (nle rfl) (nle rfl) dX11_day_108 (hPo _ _ (Or.inr ⟨_, rfl, by rw [hN9], h91, by omega⟩))
      ·
        refine S_iconst X dX11_day_36 ?_
        exact S_iret X (nle rfl) (nle rfl) dX11_day_37 (hPo _ _ (Or.inl ⟨rfl, rfl, by omega⟩))
    ·
      refine S_aload_n X dX11_day_15 rfl rfl ?_
      refine S_iload_n X dX11_day_16 rfl rfl ?_
      refine S_calli X (kX11_isPlayer l h0 f oW fW pl q hf0 hf4 (by omega) (by omega)) (is := [0, 1]) rfl (run_V X lkX11_147 0 rfl rfl (is := [0, 1]) (avs := [iv q]) (rest := []) rfl rfl (nle rfl) ⟨nle rfl, nle rfl⟩ ⟨nle rfl, nle rfl⟩ dX11_day_17 (by decide) rfl) (fun z_25 u_23 hp_24 => ?_)
      rcases hp_24 with ⟨hz_26, hu_27, hp_28⟩ | ⟨hz_29, hu_30, hp_31⟩
      ·
        subst hz_26
        subst hu_27
        refine ⟨rfl, ?_⟩
        refine S_w (ws' := ([(h0, ob 10 f), (oW, ob 7 fW), (oA, aq 4 (lwR ds)), (wD, ar 6 WD), (wK, ar 6 WK), (oD, ob 0 (uF (uF (uF (uF (uF fD 0 (iv td)) 1 (iv un)) 2 (iv hi)) 3 (iv im)) 4 (iv nx))), (dR, ar 360 DR), (oS, ob 5 fS), (aB, ar 6 B), (oK, ob 9 (uF fK 0 (iv kk)))] ++ (lwT ds ys))) (by simp only [putC, List.set, List.append_nil, List.cons_append, List.nil_append]) ?_
        refine S_if_eq (tgt := 36) X dX11_day_20 (by decide) (by decide) (fun _ => ?_) (fun h9 => absurd h9 (by decide))
        refine S_iconst X dX11_day_36 ?_
        exact S_iret X (nle rfl) (nle rfl) dX11_day_37 (hPo _ _ (Or.inl ⟨rfl, rfl, by omega⟩))
      ·
        subst hz_29
        subst hu_30
        refine ⟨rfl, ?_⟩
        refine S_w (ws' := ([(h0, ob 10 f), (oW, ob 7 fW), (oA, aq 4 (lwR ds)), (wD, ar 6 WD), (wK, ar 6 WK), (oD, ob 0 (uF (uF (uF (uF (uF fD 0 (iv td)) 1 (iv un)) 2 (iv hi)) 3 (iv im)) 4 (iv nx))), (dR, ar 360 DR), (oS, ob 5 fS), (aB, ar 6 B), (oK, ob 9 (uF fK 0 (iv kk)))] ++ (lwT ds ys))) (by simp only [putC, List.set, List.append_nil, List.cons_append, List.nil_append]) ?_
        refine S_if_eq (tgt := 36) X dX11_day_20 (by decide) (by decide) (fun h9 => absurd h9 (by decide)) (fun _ => ?_)
        refine S_aload_n X dX11_day_23 rfl rfl ?_
        refine S_get X fgX11_48_10 0 rfl hf2 dX11_day_24 ?_
        refine S_get (v := iv td) X fgX11_205_0 5 rfl rfl dX11_day_27 ?_
        refine S_sipush X dX11_day_30 rfl ?_
        refine S_icmp_le (tgt := 38) X dX11_day_33 (by decide) (by omega) (by decide) (fun c_34 => ?_) (fun c_34 => ?_)
        ·
          have hod := hod0 (by omega)
          have hod1 := hod.1
          have hod2 := hod.2.1
          refine S_aload_n X dX11_day_38 rfl rfl ?_
          refine S_aload_n X dX11_day_39 rfl rfl ?_
          refine S_get X fgX11_48_10 0 rfl hf2 dX11_day_40 ?_
          refine S_get (v := iv td) X fgX11_205_0 5 rfl rfl dX11_day_43 ?_
          refine S_calliT X (kX11_wetness l h0 f oW fW pl ds ys mt lw oA ho td hf0 hf4 hf9 hf10 hf11 (by omega) (by omega) hds hdy hho (by omega)) (is := [0, 1, 2]) rfl (run_V X lkX11_199 0 rfl rfl (is := isT [0, 1, 2] 10 (List.length (lwT ds ys))) (avs := [iv td]) (rest := []) rfl rfl (nle rfl) ⟨nle rfl, nle rfl⟩ ⟨nle rfl, nle rfl⟩ dX11_day_46 (isT_nd rfl (by decide)) (isT_map rfl)) (fun z_37 u_35 hp_36 => ?_)
          obtain ⟨y2_38, hz_39, hu_40, hy2_41⟩ := hp_36
          subst hz_39
          subst hu_40
          refine ⟨_, _, rfl, rfl, lwT_key _ _ _, ?_⟩
          refine S_w (ws' := ([(h0, ob 10 f), (oW, ob 7 fW), (oA, aq 4 (lwR ds)), (wD, ar 6 WD), (wK, ar 6 WK), (oD, ob 0 (uF (uF (uF (uF (uF fD 0 (iv td)) 1 (iv un)) 2 (iv hi)) 3 (iv im)) 4 (iv nx))), (dR, ar 360 DR), (oS, ob 5 fS), (aB, ar 6 B), (oK, ob 9 (uF fK 0 (iv kk)))] ++ (lwT ds y2_38))) (by simp only [putC, List.set, List.append_nil, List.cons_append, List.nil_append]) ?_
          have h91 := hy2_41
          obtain ⟨w9, hw9⟩ : ∃ z9, z9 = aDy ho (csA ds ho) mt pl td := ⟨_, rfl⟩
          rw [← hw9]
          have hwr := aDy_in (ho := ho) (cs := csA ds ho) (mt := mt) (pl := pl) (d := td) (by omega)
          rw [← hw9] at hwr
          refine S_istore_n X dX11_day_49 rfl (nle rfl) ?_
          refine S_aload_n X dX11_day_50 rfl rfl ?_
          refine S_get X fgX11_48_10 0 rfl hf2 dX11_day_51 ?_
          refine S_aload_n X dX11_day_54 rfl rfl ?_
          refine S_get X fgX11_59_10 0 rfl hf1 dX11_day_55 ?_
          refine S_get X fgX11_158_5 7 rfl hf6 dX11_day_58 ?_
          refine S_callv X (kX0_keep l oD fD dR DR td un hi im nx aB B hf5 (by omega) (by omega)) (is := [5, 6, 8]) rfl (run_V X lkX11_208 5 rfl rfl (is := [5, 6, 8]) (avs := [rv aB]) (rest := []) rfl rfl (nle rfl) ⟨nle rfl, nle rfl⟩ ⟨nle rfl, nle rfl⟩ dX11_day_61 (by decide) rfl) (fun u_42 hp_43 => ?_)
          have hu_46 := hp_43
          subst hu_46
          refine ⟨rfl, ?_⟩
          refine S_w (ws' := ([(h0, ob 10 f), (oW, ob 7 fW), (oA, aq 4 (lwR ds)), (wD, ar 6 WD), (wK, ar 6 WK), (oD, ob 0 (uF (uF (uF (uF (uF fD 0 (iv td)) 1 (iv (min (un + 1) 60))) 2 (iv hi)) 3 (iv im)) 4 (iv ((nx + 1).tmod 60)))), (dR, ar 360 (cpZ B DR 0 (nx * 6) 6)), (oS, ob 5 fS), (aB, ar 6 B), (oK, ob 9 (uF fK 0 (iv kk)))] ++ (lwT ds y2_38))) (by simp only [putC, List.set, List.append_nil, List.cons_append, List.nil_append]) ?_
          refine S_aload_n X dX11_day_64 rfl rfl ?_
          refine S_get X fgX11_35_10 0 rfl hf0 dX11_day_65 ?_
          refine S_aload_n X dX11_day_68 rfl rfl ?_
          refine S_get X fgX11_59_10 0 rfl hf1 dX11_day_69 ?_
          refine S_get X fgX11_158_5 7 rfl hf6 dX11_day_72 ?_
          refine S_iload_n X dX11_day_75 rfl rfl ?_
          refine S_iload_n X dX11_day_76 rfl rfl ?_
          refine S_callv X (kX8_goThroughDay l oW wD wK fW WD WK pl mt aB B q w9 hf7 hf8 hf4 hf11 (by omega) hod hB (by omega) (by omega)) (is := [1, 3, 4, 8]) rfl (run_V X lkX11_212 1 rfl rfl (is := [1, 3, 4, 8]) (avs := [rv aB, iv q, iv w9]) (rest := []) rfl rfl (nle rfl) ⟨nle rfl, nle rfl⟩ ⟨nle rfl, nle rfl⟩ dX11_day_77 (by decide) rfl) (fun u_47 hp_48 => ?_)
          obtain ⟨N2_50, hu_52, hN2_53⟩ := hp_48
          subst hu_52
          refine ⟨rfl, ?_⟩
          refine S_w (ws' := ([(h0, ob 10 f), (oW, ob 7 fW), (oA, aq 4 (lwR ds)), (wD, ar 6 WD), (wK, ar 6 WK), (oD, ob 0 (uF (uF (uF (uF (uF fD 0 (iv td)) 1 (iv (min (un + 1) 60))) 2 (iv hi)) 3 (iv im)) 4 (iv ((nx + 1).tmod 60)))), (dR, ar 360 (cpZ B DR 0 (nx * 6) 6)), (oS, ob 5 fS), (aB, ar 6 N2_50), (oK, ob 9 (uF fK 0 (iv kk)))] ++ (lwT ds y2_38))) (by simp only [putC, List.set, List.append_nil, List.cons_append, List.nil_append]) ?_
          have hN9 := hN2_53
          rw [hw9] at hN9
          refine S_aload_n X dX11_day_80 rfl rfl ?_
          refine S_get X fgX11_48_10 0 rfl hf2 dX11_day_81 ?_
          refine S_dup X dX11_day_84 ?_
          refine S_get (v := iv td) X fgX11_205_0 5 rfl rfl dX11_day_85 ?_
          refine S_iconst X dX11_day_88 ?_
          refine S_iadd X dX11_day_89 ?_
          refine S_put X fpX11_205_0 5 rfl FT_i dX11_day_90 ?_
          refine S_w (ws' := ([(h0, ob 10 f), (oW, ob 7 fW), (oA, aq 4 (lwR ds)), (wD, ar 6 WD), (wK, ar 6 WK), (oD, ob 0 (uF (uF (uF (uF (uF fD 0 (iv (td + 1))) 1 (iv (min (un + 1) 60))) 2 (iv hi)) 3 (iv im)) 4 (iv ((nx + 1).tmod 60)))), (dR, ar 360 (cpZ B DR 0 (nx * 6) 6)), (oS, ob 5 fS), (aB, ar 6 N2_50), (oK, ob 9 (uF fK 0 (iv kk)))] ++ (lwT ds y2_38))) (by simp only [List.set, List.cons_append, List.nil_append]; rw [uF_mv (j := 4) (k := 0) (by decide), uF_mv (j := 3) (k := 0) (by decide), uF_mv (j := 2) (k := 0) (by decide), uF_mv (j := 1) (k := 0) (by decide), uF_same (k := 0)]) ?_
          refine S_aload_n X dX11_day_93 rfl rfl ?_
          refine S_get X fgX11_85_10 0 rfl hf3 dX11_day_94 ?_
          refine S_iconst X dX11_day_97 ?_
          refine S_put X fpX11_143_9 9 rfl (FT_b (Or.inl rfl)) dX11_day_98 ?_
          refine S_w (ws' := ([(h0, ob 10 f), (oW, ob 7 fW), (oA, aq 4 (lwR ds)), (wD, ar 6 WD), (wK, ar 6 WK), (oD, ob 0 (uF (uF (uF (uF (uF fD 0 (iv (td + 1))) 1 (iv (min (un + 1) 60))) 2 (iv hi)) 3 (iv im)) 4 (iv ((nx + 1).tmod 60)))), (dR, ar 360 (cpZ B DR 0 (nx * 6) 6)), (oS, ob 5 fS), (aB, ar 6 N2_50), (oK, ob 9 (uF fK 0 (iv 0)))] ++ (lwT ds y2_38))) (by simp only [List.set, List.cons_append, List.nil_append]; rw [uF_same (k := 0)]) ?_
          refine S_aload_n X dX11_day_101 rfl rfl ?_
          refine S_get X fgX11_48_10 0 rfl hf2 dX11_day_102 ?_
          refine S_get (v := iv (td + 1)) X fgX11_205_0 5 rfl rfl dX11_day_105 ?_
          exact S_iret X (nle rfl) (nle rfl) dX11_day_108 (hPo _ _ (Or.inr ⟨_, rfl, by rw [hN9], h91, by omega⟩))
        ·
          refine S_iconst X dX11_day_36 ?_
          exact S_iret X (nle rfl) (nle rfl) dX11_day_37 (hPo _ _ (Or.inl ⟨rfl, rfl, by omega⟩))
