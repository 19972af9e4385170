
set_option maxHeartbeats 4000000 in
set_option maxRecDepth 100000 in
theorem kX11_wetness (l : Launch) (h0 : Nat) (f : Nat → AV) (oW : Nat) (fW : Nat → AV) (pl : Int) (ds : List LwS) (ys : Nat → LwY) (mt : Int) (lw : Int) (oA : Nat) (ho : Int) (dd : Int) (hf0 : f 3 = rv oW) (hf1 : fW 0 = iv pl) (hf2 : f 4 = rv oA) (hf3 : f 14 = iv ho) (hf4 : fW 1 = iv mt) (hpl : 1 ≤ pl ∧ pl ≤ 6) (hmt : 1 ≤ mt ∧ mt ≤ 99) (hds : (ds.length : Int) = lw ∧ 0 ≤ lw ∧ lw ≤ 4) (hdy : okW ds ys mt pl) (hho : -1 ≤ ho ∧ ho < lw) (hdd : 0 ≤ dd ∧ dd ≤ 999) : AMi l yX11_wetness cX11_wetness 3 .int 5 0 0 [rv h0, iv dd] ([(h0, ob 10 f), (oW, ob 7 fW), (oA, aq 4 (lwR ds))] ++ (lwT ds ys)) (fun z u => ∃ y2 : Nat → LwY, z = aDy ho (csA ds ho) mt pl dd ∧ u = ([(h0, ob 10 f), (oW, ob 7 fW), (oA, aq 4 (lwR ds))] ++ (lwT ds y2)) ∧ okW ds y2 mt pl) := by
  refine AMi.of2 rfl (nle rfl) ?_
  intro D G A p e s m args below meth c Po hPo X
  refine S_aload_n X dX11_wetness_0 rfl rfl ?_
  refine S_get X fgX11_93_10 0 rfl hf3 dX11_wetness_1 ?_
  refine S_if_lt (tgt := 27) X dX11_wetness_4 (by decide) (by omega) (fun c_1 => ?_) (fun c_1 => ?_)
  ·
    refine S_anull X dX11_wetness_27 ?_
    refine S_astore_nN X dX11_wetness_28 rfl (nle rfl) ?_
    refine S_aload_nN X dX11_wetness_29 rfl rfl ?_
    refine S_ifnonnull (tgt := 37) X dX11_wetness_30 (by decide) (fun a9 h9 => by cases h9) (fun _ => ?_)
    refine S_iconst X dX11_wetness_33 ?_
    refine S_goto (tgt := 46) X dX11_wetness_34 (by decide) ?_
    exact S_iret X (nle rfl) (nle rfl) dX11_wetness_46 (hPo _ _ (⟨ys, by unfold aDy; rw [if_pos (by omega)], rfl, hdy⟩))
  ·
    refine S_aload_n X dX11_wetness_7 rfl rfl ?_
    refine S_get X fgX11_93_10 0 rfl hf3 dX11_wetness_8 ?_
    refine S_iconst X dX11_wetness_11 ?_
    refine S_icmp_ge (tgt := 27) X dX11_wetness_12 (by decide) (by omega) (by decide) (fun c_2 => ?_) (fun c_2 => ?_)
    ·
      refine S_anull X dX11_wetness_27 ?_
      refine S_astore_nN X dX11_wetness_28 rfl (nle rfl) ?_
      refine S_aload_nN X dX11_wetness_29 rfl rfl ?_
      refine S_ifnonnull (tgt := 37) X dX11_wetness_30 (by decide) (fun a9 h9 => by cases h9) (fun _ => ?_)
      refine S_iconst X dX11_wetness_33 ?_
      refine S_goto (tgt := 46) X dX11_wetness_34 (by decide) ?_
      exact S_iret X (nle rfl) (nle rfl) dX11_wetness_46 (hPo _ _ (⟨ys, by unfold aDy; rw [if_pos (by omega)], rfl, hdy⟩))
    ·
      refine S_aload_n X dX11_wetness_15 rfl rfl ?_
      refine S_get X fgX11_41_10 0 rfl hf2 dX11_wetness_16 ?_
      refine S_aload_n X dX11_wetness_19 rfl rfl ?_
      refine S_get X fgX11_93_10 0 rfl hf3 dX11_wetness_20 ?_
      obtain ⟨x9, hx9, hr9⟩ := lwR_at (ds := ds) (j := ho) (by omega) (by omega)
      obtain ⟨rs9, hp9, hb9⟩ := lw_front (y := ys) hx9
      obtain ⟨⟨⟨hg0, hg1, hg2⟩, hg3, hg4, hg5, hg6, hg7⟩, hg8, hg9⟩ := hdy _ _ hx9
      refine S_aald X 2 rfl (by omega) (by omega) (nle rfl) dX11_wetness_23 ?_
      rw [hr9]
      refine S_perm (hp9 _) ?_
      refine S_w (ws' := ([(h0, ob 10 f), (oW, ob 7 fW), (oA, aq 4 (lwR ds)), (x9.o, ob 1 (uF (uF x9.f 3 (iv ((ys ho.toNat).tp))) 4 (iv ((ys ho.toNat).kn)))), (x9.c, ar x9.nc x9.CC), (x9.s, ar x9.nc ((ys ho.toNat).S)), (x9.k, ar x9.nk ((ys ho.toNat).K))] ++ rs9)) rfl ?_
      refine S_goto (tgt := 28) X dX11_wetness_24 (by decide) ?_
      refine S_astore_n X dX11_wetness_28 rfl (nle rfl) ?_
      refine S_aload_n X dX11_wetness_29 rfl rfl ?_
      refine S_ifnonnull (tgt := 37) X dX11_wetness_30 (by decide) (fun _ _ => ?_) (fun h9 => by cases h9)
      refine S_aload_n X dX11_wetness_37 rfl rfl ?_
      refine S_iload_n X dX11_wetness_38 rfl rfl ?_
      refine S_aload_n X dX11_wetness_39 rfl rfl ?_
      refine S_get X fgX11_35_10 0 rfl hf0 dX11_wetness_40 ?_
      refine S_calli X (kX1_wetness l x9.o x9.f x9.c x9.s x9.k x9.nc x9.nk x9.CC ((ys ho.toNat).S) ((ys ho.toNat).K) ((ys ho.toNat).tp) ((ys ho.toNat).kn) oW fW pl mt dd x9.cs hg0 hg1 hg2 hf1 hf4 hg3 hg4 hg5 hg6 hg7 hg8 hg9 (by omega) (by omega)) (is := [3, 4, 5, 6, 1]) rfl (run_V X lkX11_202 3 rfl rfl (is := [3, 4, 5, 6, 1]) (avs := [iv dd, rv oW]) (rest := []) rfl rfl (nle rfl) ⟨nle rfl, nle rfl⟩ ⟨nle rfl, nle rfl⟩ dX11_wetness_43 (by decide) rfl) (fun z_5 u_3 hp_4 => ?_)
      obtain ⟨S2_6, t2_7, K2_8, k2_9, hz_10, hu_11, hk2_12, hkk2_13⟩ := hp_4
      subst hz_10
      subst hu_11
      refine ⟨rfl, ?_⟩
      refine S_w (ws' := ([(h0, ob 10 f), (oW, ob 7 fW), (oA, aq 4 (lwR ds)), (x9.o, ob 1 (uF (uF x9.f 3 (iv t2_7)) 4 (iv k2_9))), (x9.c, ar x9.nc x9.CC), (x9.s, ar x9.nc S2_6), (x9.k, ar x9.nk K2_8)] ++ rs9)) (by simp only [putC, List.set, List.append_nil, List.cons_append, List.nil_append]) ?_
      have hk8 := hk2_12
      have hk9 := hkk2_13
      refine S_perm (hb9 [(h0, ob 10 f), (oW, ob 7 fW), (oA, aq 4 (lwR ds))] (lwY0 S2_6 K2_8 t2_7 k2_9)) ?_
      obtain ⟨z9, hz9⟩ : ∃ z9, z9 = aDy ho (csA ds ho) mt pl dd := ⟨_, rfl⟩
      have hcs9 : dyI x9.cs mt pl dd = z9 := by rw [hz9]; unfold aDy; rw [if_neg (by omega), csA_at hx9 rfl]
      rw [hcs9]
      exact S_iret X (nle rfl) (nle rfl) dX11_wetness_46 (hPo _ _ (⟨_, hz9, rfl, hdy.set hx9 ⟨hk8, hk9⟩⟩))
set_option maxHeartbeats 4000000 in
set_option maxRecDepth 100000 in
theorem kX11_damp (l : Launch) (h0 : Nat) (f : Nat → AV) (oW : Nat) (fW : Nat → AV) (pl : Int) (ds : List LwS) (ys : Nat → LwY) (mt : Int) (lw : Int) (oA : Nat) (ho : Int) (dd : Int) (hf0 : f 3 = rv oW) (hf1 : fW 0 = iv pl) (hf2 : f 4 = rv oA) (hf3 : f 14 = iv ho) (hf4 : fW 1 = iv mt) (hpl : 0 ≤ pl ∧ pl ≤ 6) (hmt0 : 1 ≤ pl → 1 ≤ mt ∧ mt ≤ 99) (hds : (ds.length : Int) = lw ∧ 0 ≤ lw ∧ lw ≤ 4) (hdy : okW ds ys mt pl) (hho : -1 ≤ ho ∧ ho < lw) (hx_dd : inR dd) : AMi l yX11_damp cX11_damp 2 .int 6 0 0 [rv h0, iv dd] ([(h0, ob 10 f), (oW, ob 7 fW), (oA, aq 4 (lwR ds))] ++ (lwT ds ys)) (fun z u => ∃ y2 : Nat → LwY, z = aDamp ho (csA ds ho) mt pl dd ∧ u = ([(h0, ob 10 f), (oW, ob 7 fW), (oA, aq 4 (lwR ds))] ++ (lwT ds y2)) ∧ okW ds y2 mt pl) := by
  refine AMi.of2 rfl (nle rfl) ?_
  intro D G A p e s m args below meth c Po hPo X
  refine S_aload_n X dX11_damp_0 rfl rfl ?_
  refine S_get X fgX11_35_10 0 rfl hf0 dX11_damp_1 ?_
  refine S_get X fgX11_115_7 1 rfl hf1 dX11_damp_4 ?_
  refine S_if_eq (tgt := 21) X dX11_damp_7 (by decide) (by omega) (fun c_1 => ?_) (fun c_1 => ?_)
  ·
    refine S_iconst X dX11_damp_21 ?_
    exact S_iret X (nle rfl) (nle rfl) dX11_damp_22 (hPo _ _ (⟨ys, by unfold aDamp; rw [if_neg (by omega)], rfl, hdy⟩))
  ·
    refine S_iload_n X dX11_damp_10 rfl rfl ?_
    refine S_if_lt (tgt := 21) X dX11_damp_11 (by decide) (by omega) (fun c_2 => ?_) (fun c_2 => ?_)
    ·
      refine S_iconst X dX11_damp_21 ?_
      exact S_iret X (nle rfl) (nle rfl) dX11_damp_22 (hPo _ _ (⟨ys, by unfold aDamp; rw [if_neg (by omega)], rfl, hdy⟩))
    ·
      refine S_iload_n X dX11_damp_14 rfl rfl ?_
      refine S_sipush X dX11_damp_15 rfl ?_
      refine S_icmp_le (tgt := 23) X dX11_damp_18 (by decide) (by omega) (by decide) (fun c_3 => ?_) (fun c_3 => ?_)
      ·
        refine S_aload_n X dX11_damp_23 rfl rfl ?_
        refine S_iload_n X dX11_damp_24 rfl rfl ?_
        refine S_calliT X (kX11_wetness l h0 f oW fW pl ds ys mt lw oA ho dd hf0 hf1 hf2 hf3 hf4 (by omega) (by omega) hds hdy hho (by omega)) (is := [0, 1, 2]) rfl (run_V X lkX11_199 0 rfl rfl (is := isT [0, 1, 2] 3 (List.length (lwT ds ys))) (avs := [iv dd]) (rest := []) rfl rfl (nle rfl) ⟨nle rfl, nle rfl⟩ ⟨nle rfl, nle rfl⟩ dX11_damp_25 (isT_nd rfl (by decide)) (isT_map rfl)) (fun z_6 u_4 hp_5 => ?_)
        obtain ⟨y2_7, hz_8, hu_9, hy2_10⟩ := hp_5
        subst hz_8
        subst hu_9
        refine ⟨_, _, rfl, rfl, lwT_key _ _ _, ?_⟩
        refine S_w (ws' := ([(h0, ob 10 f), (oW, ob 7 fW), (oA, aq 4 (lwR ds))] ++ (lwT ds y2_7))) (by simp only [putC, List.set, List.append_nil, List.cons_append, List.nil_append]) ?_
        have h91 := hy2_10
        exact S_iret X (nle rfl) (nle rfl) dX11_damp_28 (hPo _ _ (⟨_, by unfold aDamp; rw [if_pos (by omega)], rfl, h91⟩))
      ·
        refine S_iconst X dX11_damp_21 ?_
        exact S_iret X (nle rfl) (nle rfl) dX11_damp_22 (hPo _ _ (⟨ys, by unfold aDamp; rw [if_neg (by omega)], rfl, hdy⟩))
set_option maxHeartbeats 4000000 in
set_option maxRecDepth 100000 in
theorem kX11_day (l : Launch) (h0 : Nat) (f : Nat → AV) (oW : Nat) (fW : Nat → AV) (fS : Nat → AV) (pl : Int) (oS : Nat) (aB : Nat) (B : Int → Int) (oK : Nat) (fK : Nat → AV) (kk : Int) (oD : Nat) (fD : Nat → AV) (dR : Nat) (DR : Int → Int) (td : Int) (un : Int) (hi : Int) (im : Int) (nx : Int) (wD : Nat) (wK : Nat) (WD : Int → Int) (WK : Int → Int) (ds : List LwS) (ys : Nat → LwY) (mt : Int) (lw : Int) (oA : Nat) (ho : Int) (q : Int) (hf0 : f 3 = rv oW) (hf1 : f 7 = rv oS) (hf2 : f 5 = rv oD) (hf3 : f 11 = rv oK) (hf4 : fW 0 = iv pl) (hf5 : fD 6 = rv dR) (hf6 : fS 4 = rv aB) (hf7 : fW 3 = rv wD) (hf8 : fW 4 = rv wK) (hf9 : f 4 = rv oA) (hf10 : f 14 = iv ho) (hf11 : fW 1 = iv mt) (hpl : 0 ≤ pl ∧ pl ≤ 6) (hod0 : 1 ≤ pl → okDy pl mt WK WD) (hB : ∀ p, 0 ≤ p → p < pl → 1 ≤ B p ∧ B p ≤ 199) (hds : (ds.length : Int) = lw ∧ 0 ≤ lw ∧ lw ≤ 4) (hdy : okW ds ys mt pl) (hho : -1 ≤ ho ∧ ho < lw) (hnx : 0 ≤ nx ∧ nx ≤ 59) (hun : 0 ≤ un ∧ un ≤ 60) (htd : 0 ≤ td ∧ td ≤ 1000) (hx_q : inR q) : AMi l yX11_day cX11_day 3 .int 6 0 0 [rv h0, iv q] ([(h0, ob 10 f), (oW, ob 7 fW), (oA, aq 4 (lwR ds)), (wD, ar 6 WD), (wK, ar 6 WK), (oD, ob 0 (uF (uF (uF (uF (uF fD 0 (iv td)) 1 (iv un)) 2 (iv hi)) 3 (iv im)) 4 (iv nx))), (dR, ar 360 DR), (oS, ob 5 fS), (aB, ar 6 B), (oK, ob 9 (uF fK 0 (iv kk)))] ++ (lwT ds ys)) (fun z u => (z = -1 ∧ u = ([(h0, ob 10 f), (oW, ob 7 fW), (oA, aq 4 (lwR ds)), (wD, ar 6 WD), (wK, ar 6 WK), (oD, ob 0 (uF (uF (uF (uF (uF fD 0 (iv td)) 1 (iv un)) 2 (iv hi)) 3 (iv im)) 4 (iv nx))), (dR, ar 360 DR), (oS, ob 5 fS), (aB, ar 6 B), (oK, ob 9 (uF fK 0 (iv kk)))] ++ (lwT ds ys)) ∧ (¬ (1 ≤ pl ∧ (q = -1 ∨ (0 ≤ q ∧ q < pl)) ∧ td ≤ 999))) ∨ (∃ y2 : Nat → LwY, z = td + 1 ∧ u = ([(h0, ob 10 f), (oW, ob 7 fW), (oA, aq 4 (lwR ds)), (wD, ar 6 WD), (wK, ar 6 WK), (oD, ob 0 (uF (uF (uF (uF (uF fD 0 (iv (td + 1))) 1 (iv (min (un + 1) 60))) 2 (iv hi)) 3 (iv im)) 4 (iv ((nx + 1).tmod 60)))), (dR, ar 360 (cpZ B DR 0 (nx * 6) 6)), (oS, ob 5 fS), (aB, ar 6 (paF WK WD mt q (aDy ho (csA ds ho) mt pl td) pl B)), (oK, ob 9 (uF fK 0 (iv 0)))] ++ (lwT ds y2)) ∧ okW ds y2 mt pl ∧ (1 ≤ pl ∧ (q = -1 ∨ (0 ≤ q ∧ q < pl)) ∧ td ≤ 999))) := by
  refine AMi.of2 rfl (nle rfl) ?_
  intro D G A p e s m args below meth c Po hPo X
  refine S_aload_n X dX11_day_0 rfl rfl ?_
  refine S_get X fgX11_35_10 0 rfl hf0 dX11_day_1 ?_
  refine S_get X fgX11_115_7 1 rfl hf4 dX11_day_4 ?_
  refine S_if_eq (tgt := 36) X dX11_day_7 (by decide) (by omega) (fun c_1 => ?_) (fun c_1 => ?_)
  ·
    refine S_iconst X dX11_day_36 ?_
    exact S_iret X (nle rfl) (nle rfl) dX11_day_37 (hPo _ _ (Or.inl ⟨rfl, rfl, by omega⟩))
  ·
    refine S_iload_n X dX11_day_10 rfl rfl ?_
    refine S_iconst X dX11_day_11 ?_
    refine S_icmp_eq (tgt := 23) X dX11_day_12 (by decide) (by omega) (by decide) (fun c_2 => ?_) (fun c_2 => ?_)
    ·
      refine S_aload_n X dX11_day_23 rfl rfl ?_
      refine S_get X fgX11_48_10 0 rfl hf2 dX11_day_24 ?_
      refine S_get (v := iv td) X fgX11_205_0 5 rfl rfl dX11_day_27 ?_
      refine S_sipush X dX11_day_30 rfl ?_
      refine S_icmp_le (tgt := 38) X dX11_day_33 (by decide) (by omega) (by decide) (fun c_3 => ?_) (fun c_3 => ?_)
      ·
        have hod := hod0 (by omega)
        have hod1 := hod.1
        have hod2 := hod.2.1
        refine S_aload_n X dX11_day_38 rfl rfl ?_
        refine S_aload_n X dX11_day_39 rfl rfl ?_
        refine S_get X fgX11_48_10 0 rfl hf2 dX11_day_40 ?_
        refine S_get (v := iv td) X fgX11_205_0 5 rfl rfl dX11_day_43 ?_
        refine S_calliT X (kX11_wetness l h0 f oW fW pl ds ys mt lw oA ho td hf0 hf4 hf9 hf10 hf11 (by omega) (by omega) hds hdy hho (by omega)) (is := [0, 1, 2]) rfl (run_V X lkX11_199 0 rfl rfl (is := isT [0, 1, 2] 10 (List.length (lwT ds ys))) (avs := [iv td]) (rest := []) rfl rfl (nle rfl) ⟨nle rfl, nle rfl⟩ ⟨nle rfl, nle rfl⟩ dX11_day_46 (isT_nd rfl (by decide)) (isT_map rfl)) (fun z_6 u_4 hp_5 => ?_)
        obtain ⟨y2_7, hz_8, hu_9, hy2_10⟩ := hp_5
        subst hz_8
        subst hu_9
        refine ⟨_, _, rfl, rfl, lwT_key _ _ _, ?_⟩
        refine S_w (ws' := ([(h0, ob 10 f), (oW, ob 7 fW), (oA, aq 4 (lwR ds)), (wD, ar 6 WD), (wK, ar 6 WK), (oD, ob 0 (uF (uF (uF (uF (uF fD 0 (iv td)) 1 (iv un)) 2 (iv hi)) 3 (iv im)) 4 (iv nx))), (dR, ar 360 DR), (oS, ob 5 fS), (aB, ar 6 B), (oK, ob 9 (uF fK 0 (iv kk)))] ++ (lwT ds y2_7))) (by simp only [putC, List.set, List.append_nil, List.cons_append, List.nil_append]) ?_
        have h91 := hy2_10
        obtain ⟨w9, hw9⟩ : ∃ z9, z9 = aDy ho (csA ds ho) mt pl td := ⟨_, rfl⟩
        rw [← hw9]
        have hwr := aDy_in (ho := ho) (cs := csA ds ho) (mt := mt) (pl := pl) (d := td) (by omega)
        rw [← hw9] at hwr
        refine S_istore_n X dX11_day_49 rfl (nle rfl) ?_
        refine S_aload_n X dX11_day_50 rfl rfl ?_
        refine S_get X fgX11_48_10 0 rfl hf2 dX11_day_51 ?_
        refine S_aload_n X dX11_day_54 rfl rfl ?_
        refine S_get X fgX11_59_10 0 rfl hf1 dX11_day_55 ?_
        refine S_get X fgX11_158_5 7 rfl hf6 dX11_day_58 ?_
        refine S_callv X (kX0_keep l oD fD dR DR td un hi im nx aB B hf5 (by omega) (by omega)) (is := [5, 6, 8]) rfl (run_V X lkX11_208 5 rfl rfl (is := [5, 6, 8]) (avs := [rv aB]) (rest := []) rfl rfl (nle rfl) ⟨nle rfl, nle rfl⟩ ⟨nle rfl, nle rfl⟩ dX11_day_61 (by decide) rfl) (fun u_11 hp_12 => ?_)
        have hu_15 := hp_12
        subst hu_15
        refine ⟨rfl, ?_⟩
        refine S_w (ws' := ([(h0, ob 10 f), (oW, ob 7 fW), (oA, aq 4 (lwR ds)), (wD, ar 6 WD), (wK, ar 6 WK), (oD, ob 0 (uF (uF (uF (uF (uF fD 0 (iv td)) 1 (iv (min (un + 1) 60))) 2 (iv hi)) 3 (iv im)) 4 (iv ((nx + 1).tmod 60)))), (dR, ar 360 (cpZ B DR 0 (nx * 6) 6)), (oS, ob 5 fS), (aB, ar 6 B), (oK, ob 9 (uF fK 0 (iv kk)))] ++ (lwT ds y2_7))) (by simp only [putC, List.set, List.append_nil, List.cons_append, List.nil_append]) ?_
        refine S_aload_n X dX11_day_64 rfl rfl ?_
        refine S_get X fgX11_35_10 0 rfl hf0 dX11_day_65 ?_
        refine S_aload_n X dX11_day_68 rfl rfl ?_
        refine S_get X fgX11_59_10 0 rfl hf1 dX11_day_69 ?_
        refine S_get X fgX11_158_5 7 rfl hf6 dX11_day_72 ?_
        refine S_iload_n X dX11_day_75 rfl rfl ?_
        refine S_iload_n X dX11_day_76 rfl rfl ?_
        refine S_callv X (kX8_goThroughDay l oW wD wK fW WD WK pl mt aB B q w9 hf7 hf8 hf4 hf11 (by omega) hod hB (by omega) (by omega)) (is := [1, 3, 4, 8]) rfl (run_V X lkX11_212 1 rfl rfl (is := [1, 3, 4, 8]) (avs := [rv aB, iv q, iv w9]) (rest := []) rfl rfl (nle rfl) ⟨nle rfl, nle rfl⟩ ⟨nle rfl, nle rfl⟩ dX11_day_77 (by decide) rfl) (fun u_16 hp_17 => ?_)
        obtain ⟨N2_19, hu_21, hN2_22⟩ := hp_17
        subst hu_21
        refine ⟨rfl, ?_⟩
        refine S_w (ws' := ([(h0, ob 10 f), (oW, ob 7 fW), (oA, aq 4 (lwR ds)), (wD, ar 6 WD), (wK, ar 6 WK), (oD, ob 0 (uF (uF (uF (uF (uF fD 0 (iv td)) 1 (iv (min (un + 1) 60))) 2 (iv hi)) 3 (iv im)) 4 (iv ((nx + 1).tmod 60)))), (dR, ar 360 (cpZ B DR 0 (nx * 6) 6)), (oS, ob 5 fS), (aB, ar 6 N2_19), (oK, ob 9 (uF fK 0 (iv kk)))] ++ (lwT ds y2_7))) (by simp only [putC, List.set, List.append_nil, List.cons_append, List.nil_append]) ?_
        have hN9 := hN2_22
        rw [hw9] at hN9
        refine S_aload_n X dX11_day_80 rfl rfl ?_
        refine S_get X fgX11_48_10 0 rfl hf2 dX11_day_81 ?_
        refine S_dup X dX11_day_84 ?_
        refine S_get (v := iv td) X fgX11_205_0 5 rfl rfl dX11_day_85 ?_
        refine S_iconst X dX11_day_88 ?_
        refine S_iadd X dX11_day_89 ?_
        refine S_put X fpX11_205_0 5 rfl FT_i dX11_day_90 ?_
        refine S_w (ws' := ([(h0, ob 10 f), (oW, ob 7 fW), (oA, aq 4 (lwR ds)), (wD, ar 6 WD), (wK, ar 6 WK), (oD, ob 0 (uF (uF (uF (uF (uF fD 0 (iv (td + 1))) 1 (iv (min (un + 1) 60))) 2 (iv hi)) 3 (iv im)) 4 (iv ((nx + 1).tmod 60)))), (dR, ar 360 (cpZ B DR 0 (nx * 6) 6)), (oS, ob 5 fS), (aB, ar 6 N2_19), (oK, ob 9 (uF fK 0 (iv kk)))] ++ (lwT ds y2_7))) (by simp only [List.set, List.cons_append, List.nil_append]; rw [uF_mv (j := 4) (k := 0) (by decide), uF_mv (j := 3) (k := 0) (by decide), uF_mv (j := 2) (k := 0) (by decide), uF_mv (j := 1) (k := 0) (by decide), uF_same (k := 0)]) ?_
        refine S_aload_n X dX11_day_93 rfl rfl ?_
        refine S_get X fgX11_85_10 0 rfl hf3 dX11_day_94 ?_
        refine S_iconst X dX11_day_97 ?_
        refine S_put X fpX11_143_9 9 rfl (FT_b (Or.inl rfl)) dX11_day_98 ?_
        refine S_w (ws' := ([(h0, ob 10 f), (oW, ob 7 fW), (oA, aq 4 (lwR ds)), (wD, ar 6 WD), (wK, ar 6 WK), (oD, ob 0 (uF (uF (uF (uF (uF fD 0 (iv (td + 1))) 1 (iv (min (un + 1) 60))) 2 (iv hi)) 3 (iv im)) 4 (iv ((nx + 1).tmod 60)))), (dR, ar 360 (cpZ B DR 0 (nx * 6) 6)), (oS, ob 5 fS), (aB, ar 6 N2_19), (oK, ob 9 (uF fK 0 (iv 0)))] ++ (lwT ds y2_7))) (by simp only [List.set, List.cons_append, List.nil_append]; rw [uF_same (k := 0)]) ?_
        refine S_aload_n X dX11_day_101 rfl rfl ?_
        refine S_get X fgX11_48_10 0 rfl hf2 dX11_day_102 ?_
        refine S_get (v := iv (td + 1)) X fgX11_205_0 5 rfl rfl dX11_day_105 ?_
        exact S_iret X (nle rfl) (nle rfl) dX11_day_108 (hPo _ _ (Or.inr ⟨_, rfl, by rw [hN9], h91, by omega⟩))
      ·
        refine S_iconst X dX11_day_36 ?_
        exact S_iret X (nle rfl) (nle rfl) dX11_day_37 (hPo _ _ (Or.inl ⟨rfl, rfl, by omega⟩))
    ·
      refine S_aload_n X dX11_day_15 rfl rfl ?_
      refine S_iload_n X dX11_day_16 rfl rfl ?_
      refine S_calli X (kX11_isPlayer l h0 f oW fW pl q hf0 hf4 (by omega) (by omega)) (is := [0, 1]) rfl (run_V X lkX11_147 0 rfl rfl (is := [0, 1]) (avs := [iv q]) (rest := []) rfl rfl (nle rfl) ⟨nle rfl, nle rfl⟩ ⟨nle rfl, nle rfl⟩ dX11_day_17 (by decide) rfl) (fun z_25 u_23 hp_24 => ?_)
      rcases hp_24 with ⟨hz_26, hu_27, hp_28⟩ | ⟨hz_29, hu_30, hp_31⟩
      ·
        subst hz_26
        subst hu_27
        refine ⟨rfl, ?_⟩
        refine S_w (ws' := ([(h0, ob 10 f), (oW, ob 7 fW), (oA, aq 4 (lwR ds)), (wD, ar 6 WD), (wK, ar 6 WK), (oD, ob 0 (uF (uF (uF (uF (uF fD 0 (iv td)) 1 (iv un)) 2 (iv hi)) 3 (iv im)) 4 (iv nx))), (dR, ar 360 DR), (oS, ob 5 fS), (aB, ar 6 B), (oK, ob 9 (uF fK 0 (iv kk)))] ++ (lwT ds ys))) (by simp only [putC, List.set, List.append_nil, List.cons_append, List.nil_append]) ?_
        refine S_if_eq (tgt := 36) X dX11_day_20 (by decide) (by decide) (fun _ => ?_) (fun h9 => absurd h9 (by decide))
        refine S_iconst X dX11_day_36 ?_
        exact S_iret X (nle rfl) (nle rfl) dX11_day_37 (hPo _ _ (Or.inl ⟨rfl, rfl, by omega⟩))
      ·
        subst hz_29
        subst hu_30
        refine ⟨rfl, ?_⟩
        refine S_w (ws' := ([(h0, ob 10 f), (oW, ob 7 fW), (oA, aq 4 (lwR ds)), (wD, ar 6 WD), (wK, ar 6 WK), (oD, ob 0 (uF (uF (uF (uF (uF fD 0 (iv td)) 1 (iv un)) 2 (iv hi)) 3 (iv im)) 4 (iv nx))), (dR, ar 360 DR), (oS, ob 5 fS), (aB, ar 6 B), (oK, ob 9 (uF fK 0 (iv kk)))] ++ (lwT ds ys))) (by simp only [putC, List.set, List.append_nil, List.cons_append, List.nil_append]) ?_
        refine S_if_eq (tgt := 36) X dX11_day_20 (by decide) (by decide) (fun h9 => absurd h9 (by decide)) (fun _ => ?_)
        refine S_aload_n X dX11_day_23 rfl rfl ?_
        refine S_get X fgX11_48_10 0 rfl hf2 dX11_day_24 ?_
        refine S_get (v := iv td) X fgX11_205_0 5 rfl rfl dX11_day_27 ?_
        refine S_sipush X dX11_day_30 rfl ?_
        refine S_icmp_le (tgt := 38) X dX11_day_33 (by decide) (by omega) (by decide) (fun c_34 => ?_) (fun c_34 => ?_)
        ·
          have hod := hod0 (by omega)
          have hod1 := hod.1
          have hod2 := hod.2.1
          refine S_aload_n X dX11_day_38 rfl rfl ?_
          refine S_aload_n X dX11_day_39 rfl rfl ?_
          refine S_get X fgX11_48_10 0 rfl hf2 dX11_day_40 ?_
          refine S_get (v := iv td) X fgX11_205_0 5 rfl rfl dX11_day_43 ?_
          refine S_calliT X (kX11_wetness l h0 f oW fW pl ds ys mt lw oA ho td hf0 hf4 hf9 hf10 hf11 (by omega) (by omega) hds hdy hho (by omega)) (is := [0, 1, 2]) rfl (run_V X lkX11_199 0 rfl rfl (is := isT [0, 1, 2] 10 (List.length (lwT ds ys))) (avs := [iv td]) (rest := []) rfl rfl (nle rfl) ⟨nle rfl, nle rfl⟩ ⟨nle rfl, nle rfl⟩ dX11_day_46 (isT_nd rfl (by decide)) (isT_map rfl)) (fun z_37 u_35 hp_36 => ?_)
          obtain ⟨y2_38, hz_39, hu_40, hy2_41⟩ := hp_36
          subst hz_39
          subst hu_40
          refine ⟨_, _, rfl, rfl, lwT_key _ _ _, ?_⟩
          refine S_w (ws' := ([(h0, ob 10 f), (oW, ob 7 fW), (oA, aq 4 (lwR ds)), (wD, ar 6 WD), (wK, ar 6 WK), (oD, ob 0 (uF (uF (uF (uF (uF fD 0 (iv td)) 1 (iv un)) 2 (iv hi)) 3 (iv im)) 4 (iv nx))), (dR, ar 360 DR), (oS, ob 5 fS), (aB, ar 6 B), (oK, ob 9 (uF fK 0 (iv kk)))] ++ (lwT ds y2_38))) (by simp only [putC, List.set, List.append_nil, List.cons_append, List.nil_append]) ?_
          have h91 := hy2_41
          obtain ⟨w9, hw9⟩ : ∃ z9, z9 = aDy ho (csA ds ho) mt pl td := ⟨_, rfl⟩
          rw [← hw9]
          have hwr := aDy_in (ho := ho) (cs := csA ds ho) (mt := mt) (pl := pl) (d := td) (by omega)
          rw [← hw9] at hwr
          refine S_istore_n X dX11_day_49 rfl (nle rfl) ?_
          refine S_aload_n X dX11_day_50 rfl rfl ?_
          refine S_get X fgX11_48_10 0 rfl hf2 dX11_day_51 ?_
          refine S_aload_n X dX11_day_54 rfl rfl ?_
          refine S_get X fgX11_59_10 0 rfl hf1 dX11_day_55 ?_
          refine S_get X fgX11_158_5 7 rfl hf6 dX11_day_58 ?_
          refine S_callv X (kX0_keep l oD fD dR DR td un hi im nx aB B hf5 (by omega) (by omega)) (is := [5, 6, 8]) rfl (run_V X lkX11_208 5 rfl rfl (is := [5, 6, 8]) (avs := [rv aB]) (rest := []) rfl rfl (nle rfl) ⟨nle rfl, nle rfl⟩ ⟨nle rfl, nle rfl⟩ dX11_day_61 (by decide) rfl) (fun u_42 hp_43 => ?_)
          have hu_46 := hp_43
          subst hu_46
          refine ⟨rfl, ?_⟩
          refine S_w (ws' := ([(h0, ob 10 f), (oW, ob 7 fW), (oA, aq 4 (lwR ds)), (wD, ar 6 WD), (wK, ar 6 WK), (oD, ob 0 (uF (uF (uF (uF (uF fD 0 (iv td)) 1 (iv (min (un + 1) 60))) 2 (iv hi)) 3 (iv im)) 4 (iv ((nx + 1).tmod 60)))), (dR, ar 360 (cpZ B DR 0 (nx * 6) 6)), (oS, ob 5 fS), (aB, ar 6 B), (oK, ob 9 (uF fK 0 (iv kk)))] ++ (lwT ds y2_38))) (by simp only [putC, List.set, List.append_nil, List.cons_append, List.nil_append]) ?_
          refine S_aload_n X dX11_day_64 rfl rfl ?_
          refine S_get X fgX11_35_10 0 rfl hf0 dX11_day_65 ?_
          refine S_aload_n X dX11_day_68 rfl rfl ?_
          refine S_get X fgX11_59_10 0 rfl hf1 dX11_day_69 ?_
          refine S_get X fgX11_158_5 7 rfl hf6 dX11_day_72 ?_
          refine S_iload_n X dX11_day_75 rfl rfl ?_
          refine S_iload_n X dX11_day_76 rfl rfl ?_
          refine S_callv X (kX8_goThroughDay l oW wD wK fW WD WK pl mt aB B q w9 hf7 hf8 hf4 hf11 (by omega) hod hB (by omega) (by omega)) (is := [1, 3, 4, 8]) rfl (run_V X lkX11_212 1 rfl rfl (is := [1, 3, 4, 8]) (avs := [rv aB, iv q, iv w9]) (rest := []) rfl rfl (nle rfl) ⟨nle rfl, nle rfl⟩ ⟨nle rfl, nle rfl⟩ dX11_day_77 (by decide) rfl) (fun u_47 hp_48 => ?_)
          obtain ⟨N2_50, hu_52, hN2_53⟩ := hp_48
          subst hu_52
          refine ⟨rfl, ?_⟩
          refine S_w (ws' := ([(h0, ob 10 f), (oW, ob 7 fW), (oA, aq 4 (lwR ds)), (wD, ar 6 WD), (wK, ar 6 WK), (oD, ob 0 (uF (uF (uF (uF (uF fD 0 (iv td)) 1 (iv (min (un + 1) 60))) 2 (iv hi)) 3 (iv im)) 4 (iv ((nx + 1).tmod 60)))), (dR, ar 360 (cpZ B DR 0 (nx * 6) 6)), (oS, ob 5 fS), (aB, ar 6 N2_50), (oK, ob 9 (uF fK 0 (iv kk)))] ++ (lwT ds y2_38))) (by simp only [putC, List.set, List.append_nil, List.cons_append, List.nil_append]) ?_
          have hN9 := hN2_53
          rw [hw9] at hN9
          refine S_aload_n X dX11_day_80 rfl rfl ?_
          refine S_get X fgX11_48_10 0 rfl hf2 dX11_day_81 ?_
          refine S_dup X dX11_day_84 ?_
          refine S_get (v := iv td) X fgX11_205_0 5 rfl rfl dX11_day_85 ?_
          refine S_iconst X dX11_day_88 ?_
          refine S_iadd X dX11_day_89 ?_
          refine S_put X fpX11_205_0 5 rfl FT_i dX11_day_90 ?_
          refine S_w (ws' := ([(h0, ob 10 f), (oW, ob 7 fW), (oA, aq 4 (lwR ds)), (wD, ar 6 WD), (wK, ar 6 WK), (oD, ob 0 (uF (uF (uF (uF (uF fD 0 (iv (td + 1))) 1 (iv (min (un + 1) 60))) 2 (iv hi)) 3 (iv im)) 4 (iv ((nx + 1).tmod 60)))), (dR, ar 360 (cpZ B DR 0 (nx * 6) 6)), (oS, ob 5 fS), (aB, ar 6 N2_50), (oK, ob 9 (uF fK 0 (iv kk)))] ++ (lwT ds y2_38))) (by simp only [List.set, List.cons_append, List.nil_append]; rw [uF_mv (j := 4) (k := 0) (by decide), uF_mv (j := 3) (k := 0) (by decide), uF_mv (j := 2) (k := 0) (by decide), uF_mv (j := 1) (k := 0) (by decide), uF_same (k := 0)]) ?_
          refine S_aload_n X dX11_day_93 rfl rfl ?_
          refine S_get X fgX11_85_10 0 rfl hf3 dX11_day_94 ?_
          refine S_iconst X dX11_day_97 ?_
          refine S_put X fpX11_143_9 9 rfl (FT_b (Or.inl rfl)) dX11_day_98 ?_
          refine S_w (ws' := ([(h0, ob 10 f), (oW, ob 7 fW), (oA, aq 4 (lwR ds)), (wD, ar 6 WD), (wK, ar 6 WK), (oD, ob 0 (uF (uF (uF (uF (uF fD 0 (iv (td + 1))) 1 (iv (min (un + 1) 60))) 2 (iv hi)) 3 (iv im)) 4 (iv ((nx + 1).tmod 60)))), (dR, ar 360 (cpZ B DR 0 (nx * 6) 6)), (oS, ob 5 fS), (aB, ar 6 N2_50), (oK, ob 9 (uF fK 0 (iv 0)))] ++ (lwT ds y2_38))) (by simp only [List.set, List.cons_append, List.nil_append]; rw [uF_same (k := 0)]) ?_
          refine S_aload_n X dX11_day_101 rfl rfl ?_
          refine S_get X fgX11_48_10 0 rfl hf2 dX11_day_102 ?_
          refine S_get (v := iv (td + 1)) X fgX11_205_0 5 rfl rfl dX11_day_105 ?_
          exact S_iret X (nle rfl) (nle rfl) dX11_day_108 (hPo _ _ (Or.inr ⟨_, rfl, by rw [hN9], h91, by omega⟩))
        ·
          refine S_iconst X dX11_day_36 ?_
          exact S_iret X (nle rfl) (nle rfl) dX11_day_37 (hPo _ _ (Or.inl ⟨rfl, rfl, by omega⟩))
set_option maxHeartbeats 4000000 in
set_option maxRecDepth 100000 in
theorem kX11_gift (l : Launch) (h0 : Nat) (f : Nat → AV) (oW : Nat) (fW : Nat → AV) (fP : Nat → AV) (fS : Nat → AV) (pl : Int) (n : Int) (ec : Int) (mk : Int) (oP : Nat) (oS : Nat) (aA : Nat) (aT : Nat) (aW : Nat) (aS : Nat) (aB : Nat) (aF : Nat) (aH : Nat) (aL : Nat) (Ab : Int → Int) (Tm : Int → Int) (Wq : Int → Int) (Sp : Int → Int) (B : Int → Int) (Fo : Int → Int) (Ho : Int → Int) (Lt : Int → Int) (p0 : Int) (n0 : Int) (k0 : Int) (v : Int) (oT : Nat) (tB : Nat) (tF : Nat) (tH : Nat) (tL : Nat) (fT : Nat → AV) (TB : Int → Int) (TF : Int → Int) (TH : Int → Int) (TL : Int → Int) (t0 : Int) (t1 : Int) (t2 : Int) (t3 : Int) (wD : Nat) (wK : Nat) (WD : Int → Int) (WK : Int → Int) (ds : List LwS) (ys : Nat → LwY) (mt : Int) (lw : Int) (oA : Nat) (ho : Int) (oD : Nat) (fD : Nat → AV) (td : Int) (hf0 : f 3 = rv oW) (hf1 : f 7 = rv oS) (hf2 : f 9 = rv oP) (hf3 : f 8 = rv oT) (hf4 : fW 0 = iv pl) (hf5 : fP 0 = rv aA) (hf6 : fP 1 = rv aT) (hf7 : fP 2 = rv aW) (hf8 : fP 3 = rv aS) (hf9 : fS 0 = iv pl) (hf10 : fS 1 = iv n) (hf11 : fS 2 = iv ec) (hf12 : fS 3 = iv mk) (hf13 : fS 4 = rv aB) (hf14 : fS 5 = rv aF) (hf15 : fS 6 = rv aH) (hf16 : fS 7 = rv aL) (hf17 : fT 4 = rv tB) (hf18 : fT 5 = rv tF) (hf19 : fT 6 = rv tH) (hf20 : fT 7 = rv tL) (hf21 : fW 3 = rv wD) (hf22 : fW 4 = rv wK) (hf23 : f 4 = rv oA) (hf24 : f 14 = iv ho) (hf25 : fW 1 = iv mt) (hf26 : f 5 = rv oD) (hf27 : fD 0 = iv td) (hz : okZ pl n ec Fo Ho B Lt) (hx_v : inR v) (hod0 : 1 ≤ pl → okDy pl mt WK WD) (hds : (ds.length : Int) = lw ∧ 0 ≤ lw ∧ lw ≤ 4) (hdy : okW ds ys mt pl) (hho : -1 ≤ ho ∧ ho < lw) (htd : 0 ≤ td ∧ td ≤ 1000) : AMi l yX11_gift cX11_gift 7 .int 8 0 0 [rv h0, iv v] ([(h0, ob 10 f), (oW, ob 7 fW), (oP, ob 4 (uF (uF (uF fP 6 (iv p0)) 7 (iv n0)) 8 (iv k0))), (aA, ar 1206 Ab), (aT, ar 180 Tm), (aW, ar 6 Wq), (aS, ar 30 Sp), (oS, ob 5 fS), (aB, ar 6 B), (aF, ar 6 Fo), (aH, ar 6 Ho), (aL, ar 6 Lt), (oT, ob 5 (uF (uF (uF (uF fT 0 (iv t0)) 1 (iv t1)) 2 (iv t2)) 3 (iv t3))), (tB, ar 6 TB), (tF, ar 6 TF), (tH, ar 6 TH), (tL, ar 6 TL), (wD, ar 6 WD), (wK, ar 6 WK), (oA, aq 4 (lwR ds)), (oD, ob 0 fD)] ++ (lwT ds ys)) (fun z u => ∃ z9 : Int, ∃ p9 : Int, ∃ n9 : Int, ∃ k9 : Int, ∃ A2 : Int → Int, ∃ T2 : Int → Int, ∃ W2 : Int → Int, ∃ S2 : Int → Int, ∃ t4 : Int, ∃ t5 : Int, ∃ t6 : Int, ∃ t7 : Int, ∃ B3 : Int → Int, ∃ F3 : Int → Int, ∃ H3 : Int → Int, ∃ L3 : Int → Int, ∃ y2 : Nat → LwY, z = z9 ∧ u = ([(h0, ob 10 f), (oW, ob 7 fW), (oP, ob 4 (uF (uF (uF fP 6 (iv p9)) 7 (iv n9)) 8 (iv k9))), (aA, ar 1206 A2), (aT, ar 180 T2), (aW, ar 6 W2), (aS, ar 30 S2), (oS, ob 5 fS), (aB, ar 6 B), (aF, ar 6 Fo), (aH, ar 6 Ho), (aL, ar 6 Lt), (oT, ob 5 (uF (uF (uF (uF fT 0 (iv t4)) 1 (iv t5)) 2 (iv t6)) 3 (iv t7))), (tB, ar 6 B3), (tF, ar 6 F3), (tH, ar 6 H3), (tL, ar 6 L3), (wD, ar 6 WD), (wK, ar 6 WK), (oA, aq 4 (lwR ds)), (oD, ob 0 fD)] ++ (lwT ds y2)) ∧ okW ds y2 mt pl) := by
  refine AMi.of2 rfl (nle rfl) ?_
  intro D G A p e s m args below meth c Po hPo X
  have hz6 := hz.2.1
  have hz0 := hz.1
  have hzn := hz.2.2.1
  have hzm := hz.2.2.2.1
  have hze := hz.2.2.2.2
  refine S_aload_n X dX11_gift_0 rfl rfl ?_
  refine S_iload_n X dX11_gift_1 rfl rfl ?_
  refine S_calli X (kX11_isOneOfTwo l h0 f oW fW pl v hf0 hf4 (by omega) (by omega)) (is := [0, 1]) rfl (run_V X lkX11_252 0 rfl rfl (is := [0, 1]) (avs := [iv v]) (rest := []) rfl rfl (nle rfl) ⟨nle rfl, nle rfl⟩ ⟨nle rfl, nle rfl⟩ dX11_gift_2 (by decide) rfl) (fun z_3 u_1 hp_2 => ?_)
  rcases hp_2 with ⟨hz_4, hu_5, hp_6⟩ | ⟨hz_7, hu_8, hp_9⟩
  ·
    subst hz_4
    subst hu_5
    refine ⟨rfl, ?_⟩
    refine S_w (ws' := ([(h0, ob 10 f), (oW, ob 7 fW), (oP, ob 4 (uF (uF (uF fP 6 (iv p0)) 7 (iv n0)) 8 (iv k0))), (aA, ar 1206 Ab), (aT, ar 180 Tm), (aW, ar 6 Wq), (aS, ar 30 Sp), (oS, ob 5 fS), (aB, ar 6 B), (aF, ar 6 Fo), (aH, ar 6 Ho), (aL, ar 6 Lt), (oT, ob 5 (uF (uF (uF (uF fT 0 (iv t0)) 1 (iv t1)) 2 (iv t2)) 3 (iv t3))), (tB, ar 6 TB), (tF, ar 6 TF), (tH, ar 6 TH), (tL, ar 6 TL), (wD, ar 6 WD), (wK, ar 6 WK), (oA, aq 4 (lwR ds)), (oD, ob 0 fD)] ++ (lwT ds ys))) (by simp only [putC, List.set, List.append_nil, List.cons_append, List.nil_append]) ?_
    refine S_if_eq (tgt := 21) X dX11_gift_5 (by decide) (by decide) (fun _ => ?_) (fun h9 => absurd h9 (by decide))
    refine S_iconst X dX11_gift_21 ?_
    exact S_iret X (nle rfl) (nle rfl) dX11_gift_22 (hPo _ _ (⟨_, _, _, _, _, _, _, _, _, _, _, _, _, _, _, _, ys, rfl, rfl, hdy⟩))
  ·
    subst hz_7
    subst hu_8
    refine ⟨rfl, ?_⟩
    refine S_w (ws' := ([(h0, ob 10 f), (oW, ob 7 fW), (oP, ob 4 (uF (uF (uF fP 6 (iv p0)) 7 (iv n0)) 8 (iv k0))), (aA, ar 1206 Ab), (aT, ar 180 Tm), (aW, ar 6 Wq), (aS, ar 30 Sp), (oS, ob 5 fS), (aB, ar 6 B), (aF, ar 6 Fo), (aH, ar 6 Ho), (aL, ar 6 Lt), (oT, ob 5 (uF (uF (uF (uF fT 0 (iv t0)) 1 (iv t1)) 2 (iv t2)) 3 (iv t3))), (tB, ar 6 TB), (tF, ar 6 TF), (tH, ar 6 TH), (tL, ar 6 TL), (wD, ar 6 WD), (wK, ar 6 WK), (oA, aq 4 (lwR ds)), (oD, ob 0 fD)] ++ (lwT ds ys))) (by simp only [putC, List.set, List.append_nil, List.cons_append, List.nil_append]) ?_
    refine S_if_eq (tgt := 21) X dX11_gift_5 (by decide) (by decide) (fun h9 => absurd h9 (by decide)) (fun _ => ?_)
    refine S_aload_n X dX11_gift_8 rfl rfl ?_
    refine S_get X fgX11_48_10 0 rfl hf26 dX11_gift_9 ?_
    refine S_get X fgX11_205_0 20 rfl hf27 dX11_gift_12 ?_
    refine S_sipush X dX11_gift_15 rfl ?_
    refine S_icmp_le (tgt := 23) X dX11_gift_18 (by decide) (by omega) (by decide) (fun c_12 => ?_) (fun c_12 => ?_)
    ·
      have hok := hz.s (by omega)
      have hpl := hok.2.1
      have hpl1 := hok.1
      have hn1 := hok.2.2.1
      have hn2 := hok.2.2.2.1
      have hec := hok.2.2.2.2
      have hod := hod0 (by omega)
      have hod1 := hod.1
      have hod2 := hod.2.1
      refine S_aload_n X dX11_gift_23 rfl rfl ?_
      refine S_aload_n X dX11_gift_24 rfl rfl ?_
      refine S_get X fgX11_48_10 0 rfl hf26 dX11_gift_25 ?_
      refine S_get X fgX11_205_0 20 rfl hf27 dX11_gift_28 ?_
      refine S_calliT X (kX11_wetness l h0 f oW fW pl ds ys mt lw oA ho td hf0 hf4 hf23 hf24 hf25 (by omega) (by omega) hds hdy hho (by omega)) (is := [0, 1, 19]) rfl (run_V X lkX11_199 0 rfl rfl (is := isT [0, 1, 19] 21 (List.length (lwT ds ys))) (avs := [iv td]) (rest := []) rfl rfl (nle rfl) ⟨nle rfl, nle rfl⟩ ⟨nle rfl, nle rfl⟩ dX11_gift_31 (isT_nd rfl (by decide)) (isT_map rfl)) (fun z_15 u_13 hp_14 => ?_)
      obtain ⟨y2_16, hz_17, hu_18, hy2_19⟩ := hp_14
      subst hz_17
      subst hu_18
      refine ⟨_, _, rfl, rfl, lwT_key _ _ _, ?_⟩
      refine S_w (ws' := ([(h0, ob 10 f), (oW, ob 7 fW), (oP, ob 4 (uF (uF (uF fP 6 (iv p0)) 7 (iv n0)) 8 (iv k0))), (aA, ar 1206 Ab), (aT, ar 180 Tm), (aW, ar 6 Wq), (aS, ar 30 Sp), (oS, ob 5 fS), (aB, ar 6 B), (aF, ar 6 Fo), (aH, ar 6 Ho), (aL, ar 6 Lt), (oT, ob 5 (uF (uF (uF (uF fT 0 (iv t0)) 1 (iv t1)) 2 (iv t2)) 3 (iv t3))), (tB, ar 6 TB), (tF, ar 6 TF), (tH, ar 6 TH), (tL, ar 6 TL), (wD, ar 6 WD), (wK, ar 6 WK), (oA, aq 4 (lwR ds)), (oD, ob 0 fD)] ++ (lwT ds y2_16))) (by simp only [putC, List.set, List.append_nil, List.cons_append, List.nil_append]) ?_
      have h91 := hy2_19
      obtain ⟨w9, hw9⟩ : ∃ z9, z9 = aDy ho (csA ds ho) mt pl td := ⟨_, rfl⟩
      rw [← hw9]
      have hwr := aDy_in (ho := ho) (cs := csA ds ho) (mt := mt) (pl := pl) (d := td) (by omega)
      rw [← hw9] at hwr
      refine S_istore_n X dX11_gift_34 rfl (nle rfl) ?_
      refine S_aload_n X dX11_gift_35 rfl rfl ?_
      refine S_get X fgX11_63_10 0 rfl hf3 dX11_gift_36 ?_
      refine S_aload_n X dX11_gift_39 rfl rfl ?_
      refine S_get X fgX11_59_10 0 rfl hf1 dX11_gift_40 ?_
      refine S_callv X (kX6_copyFrom l fS pl n ec mk oS aB aF aH aL B Fo Ho Lt oT tB tF tH tL fT TB TF TH TL t0 t1 t2 t3 hf9 hf10 hf11 hf12 hf13 hf14 hf15 hf16 hf17 hf18 hf19 hf20) (is := [12, 13, 14, 15, 16, 7, 8, 9, 10, 11]) rfl (run_V X lkX11_289 12 rfl rfl (is := [12, 13, 14, 15, 16, 7, 8, 9, 10, 11]) (avs := [rv oS]) (rest := []) rfl rfl (nle rfl) ⟨nle rfl, nle rfl⟩ ⟨nle rfl, nle rfl⟩ dX11_gift_43 (by decide) rfl) (fun u_20 hp_21 => ?_)
      obtain ⟨B2_23, F2_24, H2_25, L2_26, hu_28, hB2_29, hF2_30, hH2_31, hL2_32⟩ := hp_21
      subst hu_28
      refine ⟨rfl, ?_⟩
      refine S_w (ws' := ([(h0, ob 10 f), (oW, ob 7 fW), (oP, ob 4 (uF (uF (uF fP 6 (iv p0)) 7 (iv n0)) 8 (iv k0))), (aA, ar 1206 Ab), (aT, ar 180 Tm), (aW, ar 6 Wq), (aS, ar 30 Sp), (oS, ob 5 fS), (aB, ar 6 B), (aF, ar 6 Fo), (aH, ar 6 Ho), (aL, ar 6 Lt), (oT, ob 5 (uF (uF (uF (uF fT 0 (iv pl)) 1 (iv n)) 2 (iv ec)) 3 (iv mk))), (tB, ar 6 B2_23), (tF, ar 6 F2_24), (tH, ar 6 H2_25), (tL, ar 6 L2_26), (wD, ar 6 WD), (wK, ar 6 WK), (oA, aq 4 (lwR ds)), (oD, ob 0 fD)] ++ (lwT ds y2_16))) (by simp only [putC, List.set, List.append_nil, List.cons_append, List.nil_append]) ?_
      have hB9 := hB2_29
      have hF9 := hF2_30
      have hH9 := hH2_31
      have hL9 := hL2_32
      have hte := te_0 (pl := pl) (by omega) hB9 hF9 hH9 hL9
      refine S_ldc (n := 1000000000) X m813 dX11_gift_46 ?_
      refine S_istore_n X dX11_gift_48 rfl (nle rfl) ?_
      refine S_iconst X dX11_gift_49 ?_
      refine S_istore X dX11_gift_50 (nle rfl) ?_
      refine S_iconst X dX11_gift_52 ?_
      refine S_istore X dX11_gift_53 (nle rfl) ?_
      have lp55_2 : ∀ (N : Nat) (i : Int) (be : Int) (who : Int) (Bz : Int → Int) (Aw : Int → Int) (Tw : Int → Int) (Ww : Int → Int) (Sw : Int → Int) (pw : Int) (nw : Int) (kw : Int) (L : Nat → Option AV), 0 ≤ i ∧ i ≤ pl → 0 ≤ be ∧ be ≤ 1000000000 → L 0 = some (rv h0) → L 1 = some (iv v) → L 2 = some (iv w9) → L 3 = some (iv be) → L 4 = some (iv who) → L 5 = some (iv i) → pl + 1 - i < (N : Int) → S_ p l e (rmD 8 0 0) s m args below meth c (MQ below (QcI D G A Po) args s 0 0 A) D G A 7 0 0 55 L [] ([(h0, ob 10 f), (oW, ob 7 fW), (oP, ob 4 (uF (uF (uF fP 6 (iv pw)) 7 (iv nw)) 8 (iv kw))), (aA, ar 1206 Aw), (aT, ar 180 Tw), (aW, ar 6 Ww), (aS, ar 30 Sw), (oS, ob 5 fS), (aB, ar 6 B), (aF, ar 6 Fo), (aH, ar 6 Ho), (aL, ar 6 Lt), (oT, ob 5 (uF (uF (uF (uF fT 0 (iv pl)) 1 (iv n)) 2 (iv ec)) 3 (iv mk))), (tB, ar 6 Bz), (tF, ar 6 F2_24), (tH, ar 6 H2_25), (tL, ar 6 L2_26), (wD, ar 6 WD), (wK, ar 6 WK), (oA, aq 4 (lwR ds)), (oD, ob 0 fD)] ++ (lwT ds y2_16)) := by
        intro N
        induction N with
        | zero =>
          intro i be who Bz Aw Tw Ww Sw pw nw kw L55 hi hbe hL55_0 hL55_1 hL55_2 hL55_3 hL55_4 hL55_5 hN55
          exfalso; omega
        | succ N ih55 =>
          intro i be who Bz Aw Tw Ww Sw pw nw kw L55 hi hbe hL55_0 hL55_1 hL55_2 hL55_3 hL55_4 hL55_5 hN55
          refine S_iload X dX11_gift_55 hL55_5 ?_
          refine S_aload_n X dX11_gift_57 rfl hL55_0 ?_
          refine S_get X fgX11_35_10 0 rfl hf0 dX11_gift_58 ?_
          refine S_get X fgX11_115_7 1 rfl hf4 dX11_gift_61 ?_
          refine S_icmp_ge (tgt := 138) X dX11_gift_64 (by decide) (by omega) (by omega) (fun c_33 => ?_) (fun c_33 => ?_)
          ·
            refine S_iload_n X dX11_gift_138 rfl hL55_1 ?_
            refine S_if_ne (tgt := 147) X dX11_gift_139 (by decide) (by omega) (fun c_34 => ?_) (fun c_34 => ?_)
            ·
              refine S_iload_n X dX11_gift_147 rfl hL55_3 ?_
              exact S_iret X (nle rfl) (nle rfl) dX11_gift_148 (hPo _ _ (⟨_, _, _, _, _, _, _, _, _, _, _, _, _, _, _, _, _, rfl, rfl, h91⟩))
            ·
              refine S_iload X dX11_gift_142 hL55_4 ?_
              refine S_goto (tgt := 148) X dX11_gift_144 (by decide) ?_
              exact S_iret X (nle rfl) (nle rfl) dX11_gift_148 (hPo _ _ (⟨_, _, _, _, _, _, _, _, _, _, _, _, _, _, _, _, _, rfl, rfl, h91⟩))
          ·
            refine S_aload_n X dX11_gift_67 rfl hL55_0 ?_
            refine S_get X fgX11_59_10 0 rfl hf1 dX11_gift_68 ?_
            refine S_get X fgX11_158_5 7 rfl hf13 dX11_gift_71 ?_
            refine S_iconst X dX11_gift_74 ?_
            refine S_aload_n X dX11_gift_75 rfl hL55_0 ?_
            refine S_get X fgX11_63_10 0 rfl hf3 dX11_gift_76 ?_
            refine S_get X fgX11_158_5 12 rfl hf17 dX11_gift_79 ?_
            refine S_iconst X dX11_gift_82 ?_
            refine S_bipush X dX11_gift_83 rfl ?_
            refine S_copy (sp := 0) (dp := 0) (n := 6) X m1062 m632 m631 m97 8 13 rfl rfl (by decide) (by decide) (by decide) (by omega) (by omega) (nle rfl) (nle rfl) (nle rfl) (nle rfl) dX11_gift_85 ?_
            refine S_w (ws' := ([(h0, ob 10 f), (oW, ob 7 fW), (oP, ob 4 (uF (uF (uF fP 6 (iv pw)) 7 (iv nw)) 8 (iv kw))), (aA, ar 1206 Aw), (aT, ar 180 Tw), (aW, ar 6 Ww), (aS, ar 30 Sw), (oS, ob 5 fS), (aB, ar 6 B), (aF, ar 6 Fo), (aH, ar 6 Ho), (aL, ar 6 Lt), (oT, ob 5 (uF (uF (uF (uF fT 0 (iv pl)) 1 (iv n)) 2 (iv ec)) 3 (iv mk))), (tB, ar 6 (cpZ B Bz 0 0 6)), (tF, ar 6 F2_24), (tH, ar 6 H2_25), (tL, ar 6 L2_26), (wD, ar 6 WD), (wK, ar 6 WK), (oA, aq 4 (lwR ds)), (oD, ob 0 fD)] ++ (lwT ds y2_16))) rfl ?_
            refine S_aload_n X dX11_gift_88 rfl hL55_0 ?_
            refine S_get X fgX11_35_10 0 rfl hf0 dX11_gift_89 ?_
            refine S_aload_n X dX11_gift_92 rfl hL55_0 ?_
            refine S_get X fgX11_63_10 0 rfl hf3 dX11_gift_93 ?_
            refine S_get X fgX11_158_5 12 rfl hf17 dX11_gift_96 ?_
            refine S_iload X dX11_gift_99 hL55_5 ?_
            refine S_iload_n X dX11_gift_101 rfl hL55_2 ?_
            refine S_callv X (kX8_goThroughDay l oW wD wK fW WD WK pl mt tB (cpZ B Bz 0 0 6) i w9 hf21 hf22 hf4 hf25 (by omega) hod (fun x h0 h1 => by rw [cpZ_in ⟨by omega, by omega⟩]; exact (hok.2.2.2.2.2.2 _ (by omega) (by omega)).2.2.1) (by omega) (by omega)) (is := [1, 17, 18, 13]) rfl (run_V X lkX11_212 1 rfl rfl (is := [1, 17, 18, 13]) (avs := [rv tB, iv i, iv w9]) (rest := []) rfl rfl (nle rfl) ⟨nle rfl, nle rfl⟩ ⟨nle rfl, nle rfl⟩ dX11_gift_102 (by decide) rfl) (fun u_35 hp_36 => ?_)
            obtain ⟨N2_38, hu_40, hN2_41⟩ := hp_36
            subst hu_40
            refine ⟨rfl, ?_⟩
            refine S_w (ws' := ([(h0, ob 10 f), (oW, ob 7 fW), (oP, ob 4 (uF (uF (uF fP 6 (iv pw)) 7 (iv nw)) 8 (iv kw))), (aA, ar 1206 Aw), (aT, ar 180 Tw), (aW, ar 6 Ww), (aS, ar 30 Sw), (oS, ob 5 fS), (aB, ar 6 B), (aF, ar 6 Fo), (aH, ar 6 Ho), (aL, ar 6 Lt), (oT, ob 5 (uF (uF (uF (uF fT 0 (iv pl)) 1 (iv n)) 2 (iv ec)) 3 (iv mk))), (tB, ar 6 N2_38), (tF, ar 6 F2_24), (tH, ar 6 H2_25), (tL, ar 6 L2_26), (wD, ar 6 WD), (wK, ar 6 WK), (oA, aq 4 (lwR ds)), (oD, ob 0 fD)] ++ (lwT ds y2_16))) (by simp only [putC, List.set, List.append_nil, List.cons_append, List.nil_append]) ?_
            have hN9 := hN2_41
            have hok9 := hok.bt hte (Bv := N2_38) (fun x h0 h1 => by rw [hN9]; exact paF_in ⟨hod1, hod2⟩ h0 h1)
            have hwr9 := hok9.worst (mk := mk)
            refine S_aload_n X dX11_gift_105 rfl hL55_0 ?_
            refine S_get X fgX11_69_10 0 rfl hf2 dX11_gift_106 ?_
            refine S_aload_n X dX11_gift_109 rfl hL55_0 ?_
            refine S_get X fgX11_63_10 0 rfl hf3 dX11_gift_110 ?_
            refine S_iload_n X dX11_gift_113 rfl hL55_3 ?_
            refine S_calli X (kX4_perform l fP (uF (uF (uF (uF fT 0 (iv pl)) 1 (iv n)) 2 (iv ec)) 3 (iv mk)) pl n ec mk oP oT aA aT aW aS tB tF tH tL Aw Tw Ww Sw N2_38 F2_24 H2_25 L2_26 pw nw kw be hf5 hf6 hf7 hf8 rfl rfl rfl rfl hf17 hf18 hf19 hf20 hok9 (by omega)) (is := [2, 3, 4, 5, 6, 12, 13, 14, 15, 16]) rfl (run_V X lkX11_235 2 rfl rfl (is := [2, 3, 4, 5, 6, 12, 13, 14, 15, 16]) (avs := [rv oT, iv be]) (rest := []) rfl rfl (nle rfl) ⟨nle rfl, nle rfl⟩ ⟨nle rfl, nle rfl⟩ dX11_gift_114 (by decide) rfl) (fun z_44 u_42 hp_43 => ?_)
            rcases hp_43 with ⟨A2_45, T2_46, W2_47, S2_48, hz_49, hu_50, hq_51⟩ | ⟨A2_52, T2_53, W2_54, S2_55, hz_56, hu_57, hq_58, hA2_59, hT2_60, hS2_61⟩
            ·
              replace hz_49 := Eq.symm hz_49
              subst hz_49
              subst hu_50
              refine ⟨rfl, ?_⟩
              refine S_w (ws' := ([(h0, ob 10 f), (oW, ob 7 fW), (oP, ob 4 (uF (uF (uF fP 6 (iv pl)) 7 (iv n)) 8 (iv mk))), (aA, ar 1206 A2_45), (aT, ar 180 T2_46), (aW, ar 6 W2_47), (aS, ar 30 S2_48), (oS, ob 5 fS), (aB, ar 6 B), (aF, ar 6 Fo), (aH, ar 6 Ho), (aL, ar 6 Lt), (oT, ob 5 (uF (uF (uF (uF fT 0 (iv pl)) 1 (iv n)) 2 (iv ec)) 3 (iv mk))), (tB, ar 6 N2_38), (tF, ar 6 F2_24), (tH, ar 6 H2_25), (tL, ar 6 L2_26), (wD, ar 6 WD), (wK, ar 6 WK), (oA, aq 4 (lwR ds)), (oD, ob 0 fD)] ++ (lwT ds y2_16))) (by simp only [putC, List.set, List.append_nil, List.cons_append, List.nil_append]) ?_
              refine S_istore X dX11_gift_117 (nle rfl) ?_
              refine S_iload X dX11_gift_119 rfl ?_
              refine S_iload_n X dX11_gift_121 rfl hL55_3 ?_
              refine S_icmp_ge (tgt := 132) X dX11_gift_122 (by decide) (by omega) (by omega) (fun c_62 => ?_) (fun c_62 => ?_)
              ·
                refine S_iinc X dX11_gift_132 (nle rfl) hL55_5 ?_
                refine S_goto (tgt := 55) X dX11_gift_135 (by decide) ?_
                exact ih55 (i + 1) be who N2_38 A2_45 T2_46 W2_47 S2_48 pl n mk _ (by omega) (by omega) hL55_0 hL55_1 hL55_2 hL55_3 hL55_4 rfl (by omega)
              ·
                refine S_iload X dX11_gift_125 rfl ?_
                refine S_istore_n X dX11_gift_127 rfl (nle rfl) ?_
                refine S_iload X dX11_gift_128 hL55_5 ?_
                refine S_istore X dX11_gift_130 (nle rfl) ?_
                refine S_iinc X dX11_gift_132 (nle rfl) hL55_5 ?_
                refine S_goto (tgt := 55) X dX11_gift_135 (by decide) ?_
                exact ih55 (i + 1) be i N2_38 A2_45 T2_46 W2_47 S2_48 pl n mk _ (by omega) (by omega) hL55_0 hL55_1 hL55_2 rfl rfl rfl (by omega)
            ·
              subst hz_56
              subst hu_57
              refine ⟨rfl, ?_⟩
              refine S_w (ws' := ([(h0, ob 10 f), (oW, ob 7 fW), (oP, ob 4 (uF (uF (uF fP 6 (iv pl)) 7 (iv n)) 8 (iv mk))), (aA, ar 1206 A2_52), (aT, ar 180 T2_53), (aW, ar 6 W2_54), (aS, ar 30 S2_55), (oS, ob 5 fS), (aB, ar 6 B), (aF, ar 6 Fo), (aH, ar 6 Ho), (aL, ar 6 Lt), (oT, ob 5 (uF (uF (uF (uF fT 0 (iv pl)) 1 (iv n)) 2 (iv ec)) 3 (iv mk))), (tB, ar 6 N2_38), (tF, ar 6 F2_24), (tH, ar 6 H2_25), (tL, ar 6 L2_26), (wD, ar 6 WD), (wK, ar 6 WK), (oA, aq 4 (lwR ds)), (oD, ob 0 fD)] ++ (lwT ds y2_16))) (by simp only [putC, List.set, List.append_nil, List.cons_append, List.nil_append]) ?_
              refine S_istore X dX11_gift_117 (nle rfl) ?_
              refine S_iload X dX11_gift_119 rfl ?_
              refine S_iload_n X dX11_gift_121 rfl hL55_3 ?_
              refine S_icmp_ge (tgt := 132) X dX11_gift_122 (by decide) (by omega) (by omega) (fun c_63 => ?_) (fun c_63 => ?_)
              ·
                refine S_iinc X dX11_gift_132 (nle rfl) hL55_5 ?_
                refine S_goto (tgt := 55) X dX11_gift_135 (by decide) ?_
                exact ih55 (i + 1) be who N2_38 A2_52 T2_53 W2_54 S2_55 pl n mk _ (by omega) (by omega) hL55_0 hL55_1 hL55_2 hL55_3 hL55_4 rfl (by omega)
              ·
                refine S_iload X dX11_gift_125 rfl ?_
                refine S_istore_n X dX11_gift_127 rfl (nle rfl) ?_
                refine S_iload X dX11_gift_128 hL55_5 ?_
                refine S_istore X dX11_gift_130 (nle rfl) ?_
                refine S_iinc X dX11_gift_132 (nle rfl) hL55_5 ?_
                refine S_goto (tgt := 55) X dX11_gift_135 (by decide) ?_
                exact ih55 (i + 1) (WO pl n ec mk F2_24 H2_25 N2_38 L2_26) i N2_38 A2_52 T2_53 W2_54 S2_55 pl n mk _ (by omega) (by omega) hL55_0 hL55_1 hL55_2 rfl rfl rfl (by omega)
      exact lp55_2 (Int.toNat (pl + 1 - 0) + 1) 0 1000000000 0 B2_23 Ab Tm Wq Sp p0 n0 k0 _ (by omega) (by omega) rfl rfl rfl rfl rfl rfl (by omega)
    ·
      refine S_iconst X dX11_gift_21 ?_
      exact S_iret X (nle rfl) (nle rfl) dX11_gift_22 (hPo _ _ (⟨_, _, _, _, _, _, _, _, _, _, _, _, _, _, _, _, ys, rfl, rfl, hdy⟩))
set_option maxHeartbeats 4000000 in
set_option maxRecDepth 100000 in
theorem kX10_find (l : Launch) (oK : Nat) (fK : Nat → AV) (kk : Int) (ro : Int) (le : Int) (kW : Nat) (kB : Nat) (Kw : Int → Int) (Bh : Int → Int) (fP : Nat → AV) (fS : Nat → AV) (pl : Int) (n : Int) (ec : Int) (mk : Int) (oP : Nat) (oS : Nat) (aA : Nat) (aT : Nat) (aW : Nat) (aS : Nat) (aB : Nat) (aF : Nat) (aH : Nat) (aL : Nat) (Ab : Int → Int) (Tm : Int → Int) (Wq : Int → Int) (Sp : Int → Int) (B : Int → Int) (Fo : Int → Int) (Ho : Int → Int) (Lt : Int → Int) (oW : Nat) (wD : Nat) (wK : Nat) (fW : Nat → AV) (WD : Int → Int) (WK : Int → Int) (mt : Int) (oT : Nat) (tB : Nat) (tF : Nat) (tH : Nat) (tL : Nat) (fT : Nat → AV) (TB : Int → Int) (TF : Int → Int) (TH : Int → Int) (TL : Int → Int) (t0 : Int) (t1 : Int) (t2 : Int) (t3 : Int) (p0 : Int) (n0 : Int) (k0 : Int) (hf0 : fK 3 = rv oP) (hf1 : fK 4 = rv oT) (hf2 : fK 5 = rv kW) (hf3 : fK 6 = rv kB) (hf4 : fW 3 = rv wD) (hf5 : fW 4 = rv wK) (hf6 : fW 0 = iv pl) (hf7 : fW 1 = iv mt) (hf8 : fP 0 = rv aA) (hf9 : fP 1 = rv aT) (hf10 : fP 2 = rv aW) (hf11 : fP 3 = rv aS) (hf12 : fS 0 = iv pl) (hf13 : fS 1 = iv n) (hf14 : fS 2 = iv ec) (hf15 : fS 3 = iv mk) (hf16 : fS 4 = rv aB) (hf17 : fS 5 = rv aF) (hf18 : fS 6 = rv aH) (hf19 : fS 7 = rv aL) (hf20 : fT 4 = rv tB) (hf21 : fT 5 = rv tF) (hf22 : fT 6 = rv tH) (hf23 : fT 7 = rv tL) (hok : okS pl n ec Fo Ho B Lt) (hod : okDy pl mt WK WD) (hkw : ∀ x, 0 ≤ x → x < 6 → 0 ≤ Kw x ∧ Kw x ≤ 9) : AMv l yX10_find cX10_find 4 12 0 0 [rv oK, rv oW, rv oS] [(oK, ob 9 (uF (uF (uF fK 0 (iv kk)) 1 (iv ro)) 2 (iv le))), (kW, ar 6 Kw), (kB, ar 42 Bh), (oW, ob 7 fW), (wD, ar 6 WD), (wK, ar 6 WK), (oP, ob 4 (uF (uF (uF fP 6 (iv p0)) 7 (iv n0)) 8 (iv k0))), (aA, ar 1206 Ab), (aT, ar 180 Tm), (aW, ar 6 Wq), (aS, ar 30 Sp), (oS, ob 5 fS), (aB, ar 6 B), (aF, ar 6 Fo), (aH, ar 6 Ho), (aL, ar 6 Lt), (oT, ob 5 (uF (uF (uF (uF fT 0 (iv t0)) 1 (iv t1)) 2 (iv t2)) 3 (iv t3))), (tB, ar 6 TB), (tF, ar 6 TF), (tH, ar 6 TH), (tL, ar 6 TL)] (fun u => ∃ r2 : Int, ∃ l2 : Int, ∃ p9 : Int, ∃ n9 : Int, ∃ k9 : Int, ∃ A2 : Int → Int, ∃ T2 : Int → Int, ∃ W2 : Int → Int, ∃ S2 : Int → Int, ∃ B4 : Int → Int, ∃ B3 : Int → Int, ∃ F3 : Int → Int, ∃ H3 : Int → Int, ∃ L3 : Int → Int, u = [(oK, ob 9 (uF (uF (uF fK 0 (iv 1)) 1 (iv r2)) 2 (iv l2))), (kW, ar 6 Kw), (kB, ar 42 B4), (oW, ob 7 fW), (wD, ar 6 WD), (wK, ar 6 WK), (oP, ob 4 (uF (uF (uF fP 6 (iv p9)) 7 (iv n9)) 8 (iv k9))), (aA, ar 1206 A2), (aT, ar 180 T2), (aW, ar 6 W2), (aS, ar 30 S2), (oS, ob 5 fS), (aB, ar 6 B), (aF, ar 6 Fo), (aH, ar 6 Ho), (aL, ar 6 Lt), (oT, ob 5 (uF (uF (uF (uF fT 0 (iv pl)) 1 (iv n)) 2 (iv ec)) 3 (iv mk))), (tB, ar 6 B3), (tF, ar 6 F3), (tH, ar 6 H3), (tL, ar 6 L3)] ∧ (0 ≤ r2 ∧ r2 ≤ 1000000000) ∧ (0 ≤ l2 ∧ l2 ≤ 1000000000)) := by
  refine AMv.of2 rfl (nle rfl) ?_
  intro D G A p e s m args below meth c Po hPo hnm X
  have hpl := hok.2.1
  have hpl1 := hok.1
  have hn1 := hok.2.2.1
  have hn2 := hok.2.2.2.1
  have hec := hok.2.2.2.2
  refine S_aload_n X dX10_find_0 rfl rfl ?_
  refine S_get X fgX10_22_9 0 rfl hf1 dX10_find_1 ?_
  refine S_aload_n X dX10_find_4 rfl rfl ?_
  refine S_callv X (kX6_copyFrom l fS pl n ec mk oS aB aF aH aL B Fo Ho Lt oT tB tF tH tL fT TB TF TH TL t0 t1 t2 t3 hf12 hf13 hf14 hf15 hf16 hf17 hf18 hf19 hf20 hf21 hf22 hf23) (is := [16, 17, 18, 19, 20, 11, 12, 13, 14, 15]) rfl (run_V X lkX10_26 16 rfl rfl (is := [16, 17, 18, 19, 20, 11, 12, 13, 14, 15]) (avs := [rv oS]) (rest := []) rfl rfl (nle rfl) ⟨nle rfl, nle rfl⟩ ⟨nle rfl, nle rfl⟩ dX10_find_5 (by decide) rfl) (fun u_1 hp_2 => ?_)
  obtain ⟨B2_4, F2_5, H2_6, L2_7, hu_9, hB2_10, hF2_11, hH2_12, hL2_13⟩ := hp_2
  subst hu_9
  refine ⟨rfl, ?_⟩
  refine S_w (ws' := [(oK, ob 9 (uF (uF (uF fK 0 (iv kk)) 1 (iv ro)) 2 (iv le))), (kW, ar 6 Kw), (kB, ar 42 Bh), (oW, ob 7 fW), (wD, ar 6 WD), (wK, ar 6 WK), (oP, ob 4 (uF (uF (uF fP 6 (iv p0)) 7 (iv n0)) 8 (iv k0))), (aA, ar 1206 Ab), (aT, ar 180 Tm), (aW, ar 6 Wq), (aS, ar 30 Sp), (oS, ob 5 fS), (aB, ar 6 B), (aF, ar 6 Fo), (aH, ar 6 Ho), (aL, ar 6 Lt), (oT, ob 5 (uF (uF (uF (uF fT 0 (iv pl)) 1 (iv n)) 2 (iv ec)) 3 (iv mk))), (tB, ar 6 B2_4), (tF, ar 6 F2_5), (tH, ar 6 H2_6), (tL, ar 6 L2_7)]) rfl ?_
  have hB9 := hB2_10
  have hF9 := hF2_11
  have hH9 := hH2_12
  have hL9 := hL2_13
  have hte := te_0 (pl := pl) (by omega) hB9 hF9 hH9 hL9
  refine S_aload_n X dX10_find_8 rfl rfl ?_
  refine S_aload_n X dX10_find_9 rfl rfl ?_
  refine S_aload_n X dX10_find_10 rfl rfl ?_
  refine S_callv X (kX10_foresee l oK (uF (uF (uF fK 0 (iv kk)) 1 (iv ro)) 2 (iv le)) kW kB Kw Bh oW wD wK fW WD WK pl mt fS pl n ec oS aB B Fo Ho Lt hf2 hf3 hf4 hf5 hf6 hf7 hf16 hok hod hkw) (is := [0, 1, 2, 3, 4, 5, 11, 12]) rfl (run_V X lkX10_32 0 rfl rfl (is := [0, 1, 2, 3, 4, 5, 11, 12]) (avs := [rv oW, rv oS]) (rest := []) rfl rfl (nle rfl) ⟨nle rfl, nle rfl⟩ ⟨nle rfl, nle rfl⟩ dX10_find_11 (by decide) rfl) (fun u_14 hp_15 => ?_)
  obtain ⟨B2_17, hu_19, hB2_20⟩ := hp_15
  subst hu_19
  refine ⟨rfl, ?_⟩
  refine S_w (ws' := [(oK, ob 9 (uF (uF (uF fK 0 (iv kk)) 1 (iv ro)) 2 (iv le))), (kW, ar 6 Kw), (kB, ar 42 B2_17), (oW, ob 7 fW), (wD, ar 6 WD), (wK, ar 6 WK), (oP, ob 4 (uF (uF (uF fP 6 (iv p0)) 7 (iv n0)) 8 (iv k0))), (aA, ar 1206 Ab), (aT, ar 180 Tm), (aW, ar 6 Wq), (aS, ar 30 Sp), (oS, ob 5 fS), (aB, ar 6 B), (aF, ar 6 Fo), (aH, ar 6 Ho), (aL, ar 6 Lt), (oT, ob 5 (uF (uF (uF (uF fT 0 (iv pl)) 1 (iv n)) 2 (iv ec)) 3 (iv mk))), (tB, ar 6 B2_4), (tF, ar 6 F2_5), (tH, ar 6 H2_6), (tL, ar 6 L2_7)]) rfl ?_
  have hbh9 := hB2_20
  refine S_iconst X dX10_find_14 ?_
  refine S_istore_n X dX10_find_15 rfl (nle rfl) ?_
  have lp16_0 : ∀ (N : Nat) (i : Int) (Bv : Int → Int) (L : Nat → Option AV), 0 ≤ i ∧ i ≤ pl → (∀ x, 0 ≤ x → x < i → 1 ≤ Bv x ∧ Bv x ≤ 199) → L 0 = some (rv oK) → L 1 = some (rv oW) → L 2 = some (rv oS) → L 3 = some (iv i) → pl + 1 - i < (N : Int) → S_ p l e (rmD 12 0 0) s m args below meth c (MQ below (QcV D G A Po) args s 0 0 A) D G A 4 0 0 16 L [] [(oK, ob 9 (uF (uF (uF fK 0 (iv kk)) 1 (iv ro)) 2 (iv le))), (kW, ar 6 Kw), (kB, ar 42 B2_17), (oW, ob 7 fW), (wD, ar 6 WD), (wK, ar 6 WK), (oP, ob 4 (uF (uF (uF fP 6 (iv p0)) 7 (iv n0)) 8 (iv k0))), (aA, ar 1206 Ab), (aT, ar 180 Tm), (aW, ar 6 Wq), (aS, ar 30 Sp), (oS, ob 5 fS), (aB, ar 6 B), (aF, ar 6 Fo), (aH, ar 6 Ho), (aL, ar 6 Lt), (oT, ob 5 (uF (uF (uF (uF fT 0 (iv pl)) 1 (iv n)) 2 (iv ec)) 3 (iv mk))), (tB, ar 6 Bv), (tF, ar 6 F2_5), (tH, ar 6 H2_6), (tL, ar 6 L2_7)] := by
    intro N
    induction N with
    | zero =>
      intro i Bv L16 hi hBv hL16_0 hL16_1 hL16_2 hL16_3 hN16
      exfalso; omega
    | succ N ih16 =>
      intro i Bv L16 hi hBv hL16_0 hL16_1 hL16_2 hL16_3 hN16
      refine S_iload_n X dX10_find_16 rfl hL16_3 ?_
      refine S_aload_n X dX10_find_17 rfl hL16_0 ?_
      refine S_get X fgX10_22_9 0 rfl hf1 dX10_find_18 ?_
      refine S_get (v := iv pl) X fgX10_36_5 16 rfl rfl dX10_find_21 ?_
      refine S_icmp_ge (tgt := 52) X dX10_find_24 (by decide) (by omega) (by omega) (fun c_21 => ?_) (fun c_21 => ?_)
      ·
        refine S_aload_n X dX10_find_52 rfl hL16_0 ?_
        refine S_ldc (n := 1000000000) X m1049 dX10_find_53 ?_
        refine S_put X fpX10_48_9 0 rfl FT_i dX10_find_55 ?_
        refine S_w (ws' := [(oK, ob 9 (uF (uF (uF fK 0 (iv kk)) 1 (iv 1000000000)) 2 (iv le))), (kW, ar 6 Kw), (kB, ar 42 B2_17), (oW, ob 7 fW), (wD, ar 6 WD), (wK, ar 6 WK), (oP, ob 4 (uF (uF (uF fP 6 (iv p0)) 7 (iv n0)) 8 (iv k0))), (aA, ar 1206 Ab), (aT, ar 180 Tm), (aW, ar 6 Wq), (aS, ar 30 Sp), (oS, ob 5 fS), (aB, ar 6 B), (aF, ar 6 Fo), (aH, ar 6 Ho), (aL, ar 6 Lt), (oT, ob 5 (uF (uF (uF (uF fT 0 (iv pl)) 1 (iv n)) 2 (iv ec)) 3 (iv mk))), (tB, ar 6 Bv), (tF, ar 6 F2_5), (tH, ar 6 H2_6), (tL, ar 6 L2_7)]) (by simp only [List.set]; rw [uF_mv (j := 2) (k := 1) (by decide), uF_same (k := 1)]) ?_
        refine S_aload_n X dX10_find_58 rfl hL16_0 ?_
        refine S_ldc (n := 1000000000) X m1049 dX10_find_59 ?_
        refine S_put X fpX10_51_9 0 rfl FT_i dX10_find_61 ?_
        refine S_w (ws' := [(oK, ob 9 (uF (uF (uF fK 0 (iv kk)) 1 (iv 1000000000)) 2 (iv 1000000000))), (kW, ar 6 Kw), (kB, ar 42 B2_17), (oW, ob 7 fW), (wD, ar 6 WD), (wK, ar 6 WK), (oP, ob 4 (uF (uF (uF fP 6 (iv p0)) 7 (iv n0)) 8 (iv k0))), (aA, ar 1206 Ab), (aT, ar 180 Tm), (aW, ar 6 Wq), (aS, ar 30 Sp), (oS, ob 5 fS), (aB, ar 6 B), (aF, ar 6 Fo), (aH, ar 6 Ho), (aL, ar 6 Lt), (oT, ob 5 (uF (uF (uF (uF fT 0 (iv pl)) 1 (iv n)) 2 (iv ec)) 3 (iv mk))), (tB, ar 6 Bv), (tF, ar 6 F2_5), (tH, ar 6 H2_6), (tL, ar 6 L2_7)]) (by simp only [List.set]; rw [uF_same (k := 2)]) ?_
        refine S_aload_n X dX10_find_64 rfl hL16_0 ?_
        refine S_iconst X dX10_find_65 ?_
        refine S_iconst X dX10_find_66 ?_
        refine S_iconst X dX10_find_67 ?_
        refine S_iconst X dX10_find_68 ?_
        refine S_callv X ((cho_all l 6) oK (uF fK 0 (iv kk)) 1000000000 1000000000 kB B2_17 fP (uF (uF (uF (uF fT 0 (iv pl)) 1 (iv n)) 2 (iv ec)) 3 (iv mk)) pl n ec mk oP oT aA aT aW aS tB tF tH tL Ab Tm Wq Sp Bv F2_5 H2_6 L2_7 p0 n0 k0 5 0 0 1 hf0 hf1 hf3 hf8 hf9 hf10 hf11 rfl rfl rfl rfl hf20 hf21 hf22 hf23 (hok.bt hte (fun x h0 h1 => hBv x h0 (by omega))) ⟨by decide, by decide⟩ (by decide) ⟨by decide, by decide⟩ (by decide) hbh9 (by omega) (by omega)) (is := [0, 6, 7, 8, 9, 10, 16, 17, 18, 19, 20, 2]) rfl (run_S X lkX10_54 (is := [0, 6, 7, 8, 9, 10, 16, 17, 18, 19, 20, 2]) (avs := [rv oK, iv 5, iv 0, iv 0, iv 1]) (rest := []) rfl rfl (nle rfl) ⟨nle rfl, nle rfl⟩ ⟨nle rfl, nle rfl⟩ dX10_find_69 (by decide) rfl) (fun u_22 hp_23 => ?_)
        obtain ⟨r2_25, l2_26, p9_27, n9_28, k9_29, A2_30, T2_31, W2_32, S2_33, B2_34, hu_36, h1_37, h2_38, hB2_39⟩ := hp_23
        subst hu_36
        refine ⟨rfl, ?_⟩
        refine S_w (ws' := [(oK, ob 9 (uF (uF (uF fK 0 (iv kk)) 1 (iv r2_25)) 2 (iv l2_26))), (kW, ar 6 Kw), (kB, ar 42 B2_17), (oW, ob 7 fW), (wD, ar 6 WD), (wK, ar 6 WK), (oP, ob 4 (uF (uF (uF fP 6 (iv p9_27)) 7 (iv n9_28)) 8 (iv k9_29))), (aA, ar 1206 A2_30), (aT, ar 180 T2_31), (aW, ar 6 W2_32), (aS, ar 30 S2_33), (oS, ob 5 fS), (aB, ar 6 B), (aF, ar 6 Fo), (aH, ar 6 Ho), (aL, ar 6 Lt), (oT, ob 5 (uF (uF (uF (uF fT 0 (iv pl)) 1 (iv n)) 2 (iv ec)) 3 (iv mk))), (tB, ar 6 B2_34), (tF, ar 6 F2_5), (tH, ar 6 H2_6), (tL, ar 6 L2_7)]) rfl ?_
        have h91 := h1_37
        have h92 := h2_38
        refine S_aload_n X dX10_find_72 rfl hL16_0 ?_
        refine S_iconst X dX10_find_73 ?_
        refine S_put X fpX10_58_9 0 rfl (FT_b (Or.inr rfl)) dX10_find_74 ?_
        refine S_w (ws' := [(oK, ob 9 (uF (uF (uF fK 0 (iv 1)) 1 (iv r2_25)) 2 (iv l2_26))), (kW, ar 6 Kw), (kB, ar 42 B2_17), (oW, ob 7 fW), (wD, ar 6 WD), (wK, ar 6 WK), (oP, ob 4 (uF (uF (uF fP 6 (iv p9_27)) 7 (iv n9_28)) 8 (iv k9_29))), (aA, ar 1206 A2_30), (aT, ar 180 T2_31), (aW, ar 6 W2_32), (aS, ar 30 S2_33), (oS, ob 5 fS), (aB, ar 6 B), (aF, ar 6 Fo), (aH, ar 6 Ho), (aL, ar 6 Lt), (oT, ob 5 (uF (uF (uF (uF fT 0 (iv pl)) 1 (iv n)) 2 (iv ec)) 3 (iv mk))), (tB, ar 6 B2_34), (tF, ar 6 F2_5), (tH, ar 6 H2_6), (tL, ar 6 L2_7)]) (by simp only [List.set]; rw [uF_mv (j := 2) (k := 0) (by decide), uF_mv (j := 1) (k := 0) (by decide), uF_same (k := 0)]) ?_
        exact S_vret X (nle rfl) (nle rfl) dX10_find_77 (hPo _ (⟨_, _, _, _, _, _, _, _, _, _, _, _, _, _, rfl, h91, h92⟩))
      ·
        have hb9 := hbh9 i (-1) (by omega) (by omega) (by omega) (by omega)
        refine S_aload_n X dX10_find_27 rfl hL16_0 ?_
        refine S_get X fgX10_22_9 0 rfl hf1 dX10_find_28 ?_
        refine S_get X fgX10_40_5 16 rfl hf20 dX10_find_31 ?_
        refine S_iload_n X dX10_find_34 rfl hL16_3 ?_
        refine S_aload_n X dX10_find_35 rfl hL16_0 ?_
        refine S_get X fgX10_15_9 0 rfl hf3 dX10_find_36 ?_
        refine S_iload_n X dX10_find_39 rfl hL16_3 ?_
        refine S_iconst X dX10_find_40 ?_
        refine S_calli X (kX10_slot l i (-1) (by omega) (by omega)) (is := []) rfl (run_S X lkX10_43 (is := []) (avs := [iv i, iv (-1)]) (rest := [rv kB, iv i, rv tB]) rfl rfl (nle rfl) ⟨nle rfl, nle rfl⟩ ⟨nle rfl, nle rfl⟩ dX10_find_41 (by decide) rfl) (fun z_42 u_40 hp_41 => ?_)
        obtain ⟨hz_43, hu_44⟩ := hp_41
        subst hz_43
        subst hu_44
        refine ⟨rfl, ?_⟩
        refine S_w (ws' := [(oK, ob 9 (uF (uF (uF fK 0 (iv kk)) 1 (iv ro)) 2 (iv le))), (kW, ar 6 Kw), (kB, ar 42 B2_17), (oW, ob 7 fW), (wD, ar 6 WD), (wK, ar 6 WK), (oP, ob 4 (uF (uF (uF fP 6 (iv p0)) 7 (iv n0)) 8 (iv k0))), (aA, ar 1206 Ab), (aT, ar 180 Tm), (aW, ar 6 Wq), (aS, ar 30 Sp), (oS, ob 5 fS), (aB, ar 6 B), (aF, ar 6 Fo), (aH, ar 6 Ho), (aL, ar 6 Lt), (oT, ob 5 (uF (uF (uF (uF fT 0 (iv pl)) 1 (iv n)) 2 (iv ec)) 3 (iv mk))), (tB, ar 6 Bv), (tF, ar 6 F2_5), (tH, ar 6 H2_6), (tL, ar 6 L2_7)]) rfl ?_
        refine S_iald X 2 rfl (by omega) (by omega) (nle rfl) dX10_find_44 ?_
        refine S_iast X 17 rfl (by omega) (by omega) (nle rfl) dX10_find_45 ?_
        refine S_w (ws' := [(oK, ob 9 (uF (uF (uF fK 0 (iv kk)) 1 (iv ro)) 2 (iv le))), (kW, ar 6 Kw), (kB, ar 42 B2_17), (oW, ob 7 fW), (wD, ar 6 WD), (wK, ar 6 WK), (oP, ob 4 (uF (uF (uF fP 6 (iv p0)) 7 (iv n0)) 8 (iv k0))), (aA, ar 1206 Ab), (aT, ar 180 Tm), (aW, ar 6 Wq), (aS, ar 30 Sp), (oS, ob 5 fS), (aB, ar 6 B), (aF, ar 6 Fo), (aH, ar 6 Ho), (aL, ar 6 Lt), (oT, ob 5 (uF (uF (uF (uF fT 0 (iv pl)) 1 (iv n)) 2 (iv ec)) 3 (iv mk))), (tB, ar 6 (uZ Bv i (B2_17 (i * 7 + (-1) + 1)))), (tF, ar 6 F2_5), (tH, ar 6 H2_6), (tL, ar 6 L2_7)]) rfl ?_
        refine S_iinc X dX10_find_46 (nle rfl) hL16_3 ?_
        refine S_goto (tgt := 16) X dX10_find_49 (by decide) ?_
        exact ih16 (i + 1) (uZ Bv i (B2_17 (i * 7 + (-1) + 1))) _ (by omega) (fun x h0 h1 => by unfold uZ; split; exact hb9; exact hBv x h0 (by omega)) hL16_0 hL16_1 hL16_2 rfl (by omega)
  exact lp16_0 (Int.toNat (pl + 1 - 0) + 1) 0 B2_4 _ (by omega) (fun x h0 h1 => by omega) rfl rfl rfl rfl (by omega)
set_option maxHeartbeats 4000000 in
set_option maxRecDepth 100000 in
theorem kX11_week (l : Launch) (h0 : Nat) (f : Nat → AV) (oW : Nat) (fW : Nat → AV) (fP : Nat → AV) (fS : Nat → AV) (pl : Int) (n : Int) (ec : Int) (mk : Int) (oP : Nat) (oS : Nat) (aA : Nat) (aT : Nat) (aW : Nat) (aS : Nat) (aB : Nat) (aF : Nat) (aH : Nat) (aL : Nat) (Ab : Int → Int) (Tm : Int → Int) (Wq : Int → Int) (Sp : Int → Int) (B : Int → Int) (Fo : Int → Int) (Ho : Int → Int) (Lt : Int → Int) (p0 : Int) (n0 : Int) (k0 : Int) (v : Int) (oK : Nat) (fK : Nat → AV) (kk : Int) (ro : Int) (le : Int) (kW : Nat) (kB : Nat) (Kw : Int → Int) (Bh : Int → Int) (wD : Nat) (wK : Nat) (WD : Int → Int) (WK : Int → Int) (oT : Nat) (tB : Nat) (tF : Nat) (tH : Nat) (tL : Nat) (fT : Nat → AV) (TB : Int → Int) (TF : Int → Int) (TH : Int → Int) (TL : Int → Int) (t0 : Int) (t1 : Int) (t2 : Int) (t3 : Int) (oD : Nat) (fD : Nat → AV) (td : Int) (ds : List LwS) (ys : Nat → LwY) (mt : Int) (lw : Int) (oA : Nat) (ho : Int) (hf0 : f 3 = rv oW) (hf1 : f 7 = rv oS) (hf2 : f 9 = rv oP) (hf3 : fW 0 = iv pl) (hf4 : fP 0 = rv aA) (hf5 : fP 1 = rv aT) (hf6 : fP 2 = rv aW) (hf7 : fP 3 = rv aS) (hf8 : fS 0 = iv pl) (hf9 : fS 1 = iv n) (hf10 : fS 2 = iv ec) (hf11 : fS 3 = iv mk) (hf12 : fS 4 = rv aB) (hf13 : fS 5 = rv aF) (hf14 : fS 6 = rv aH) (hf15 : fS 7 = rv aL) (hf16 : fK 3 = rv oP) (hf17 : fK 4 = rv oT) (hf18 : fK 5 = rv kW) (hf19 : fK 6 = rv kB) (hf20 : fW 3 = rv wD) (hf21 : fW 4 = rv wK) (hf22 : f 4 = rv oA) (hf23 : f 14 = iv ho) (hf24 : fW 1 = iv mt) (hf25 : fT 4 = rv tB) (hf26 : fT 5 = rv tF) (hf27 : fT 6 = rv tH) (hf28 : fT 7 = rv tL) (hf29 : f 5 = rv oD) (hf30 : fD 0 = iv td) (hf31 : f 11 = rv oK) (hf32 : f 8 = rv oT) (hz : okZ pl n ec Fo Ho B Lt) (hx_v : inR v) (hod0 : 1 ≤ pl → okDy pl mt WK WD) (hds : (ds.length : Int) = lw ∧ 0 ≤ lw ∧ lw ≤ 4) (hdy : okW ds ys mt pl) (hho : -1 ≤ ho ∧ ho < lw) (htd : 0 ≤ td ∧ td ≤ 1000) (hkw : ∀ x, 0 ≤ x → x < 6 → 0 ≤ Kw x ∧ Kw x ≤ 9) (hkk : kk = 0 ∨ kk = 1) (hrl : 0 ≤ ro ∧ ro ≤ 1000000000 ∧ 0 ≤ le ∧ le ≤ 1000000000) : AMi l yX11_week cX11_week 3 .int 13 0 0 [rv h0, iv v] ([(h0, ob 10 f), (oW, ob 7 fW), (oK, ob 9 (uF (uF (uF fK 0 (iv kk)) 1 (iv ro)) 2 (iv le))), (kW, ar 6 Kw), (kB, ar 42 Bh), (wD, ar 6 WD), (wK, ar 6 WK), (oP, ob 4 (uF (uF (uF fP 6 (iv p0)) 7 (iv n0)) 8 (iv k0))), (aA, ar 1206 Ab), (aT, ar 180 Tm), (aW, ar 6 Wq), (aS, ar 30 Sp), (oS, ob 5 fS), (aB, ar 6 B), (aF, ar 6 Fo), (aH, ar 6 Ho), (aL, ar 6 Lt), (oT, ob 5 (uF (uF (uF (uF fT 0 (iv t0)) 1 (iv t1)) 2 (iv t2)) 3 (iv t3))), (tB, ar 6 TB), (tF, ar 6 TF), (tH, ar 6 TH), (tL, ar 6 TL), (oD, ob 0 fD), (oA, aq 4 (lwR ds))] ++ (lwT ds ys)) (fun z u => ∃ z9 : Int, ∃ r2 : Int, ∃ l2 : Int, ∃ p9 : Int, ∃ n9 : Int, ∃ k9 : Int, ∃ A2 : Int → Int, ∃ T2 : Int → Int, ∃ W2 : Int → Int, ∃ S2 : Int → Int, ∃ B4 : Int → Int, ∃ B3 : Int → Int, ∃ F3 : Int → Int, ∃ H3 : Int → Int, ∃ L3 : Int → Int, ∃ Kw2 : Int → Int, ∃ t4 : Int, ∃ t5 : Int, ∃ t6 : Int, ∃ t7 : Int, ∃ k2 : Int, ∃ y2 : Nat → LwY, z = z9 ∧ u = ([(h0, ob 10 f), (oW, ob 7 fW), (oK, ob 9 (uF (uF (uF fK 0 (iv k2)) 1 (iv r2)) 2 (iv l2))), (kW, ar 6 Kw2), (kB, ar 42 B4), (wD, ar 6 WD), (wK, ar 6 WK), (oP, ob 4 (uF (uF (uF fP 6 (iv p9)) 7 (iv n9)) 8 (iv k9))), (aA, ar 1206 A2), (aT, ar 180 T2), (aW, ar 6 W2), (aS, ar 30 S2), (oS, ob 5 fS), (aB, ar 6 B), (aF, ar 6 Fo), (aH, ar 6 Ho), (aL, ar 6 Lt), (oT, ob 5 (uF (uF (uF (uF fT 0 (iv t4)) 1 (iv t5)) 2 (iv t6)) 3 (iv t7))), (tB, ar 6 B3), (tF, ar 6 F3), (tH, ar 6 H3), (tL, ar 6 L3), (oD, ob 0 fD), (oA, aq 4 (lwR ds))] ++ (lwT ds y2)) ∧ okW ds y2 mt pl ∧ (∀ x, 0 ≤ x → x < 6 → 0 ≤ Kw2 x ∧ Kw2 x ≤ 9) ∧ (k2 = 0 ∨ k2 = 1) ∧ (0 ≤ r2 ∧ r2 ≤ 1000000000 ∧ 0 ≤ l2 ∧ l2 ≤ 1000000000)) := by
  refine AMi.of2 rfl (nle rfl) ?_
  intro D G A p e s m args below meth c Po hPo X
  have hz6 := hz.2.1
  have hz0 := hz.1
  have hzn := hz.2.2.1
  have hzm := hz.2.2.2.1
  have hze := hz.2.2.2.2
  refine S_aload_n X dX11_week_0 rfl rfl ?_
  refine S_iload_n X dX11_week_1 rfl rfl ?_
  refine S_calli X (kX11_isOneOfTwo l h0 f oW fW pl v hf0 hf3 (by omega) (by omega)) (is := [0, 1]) rfl (run_V X lkX11_252 0 rfl rfl (is := [0, 1]) (avs := [iv v]) (rest := []) rfl rfl (nle rfl) ⟨nle rfl, nle rfl⟩ ⟨nle rfl, nle rfl⟩ dX11_week_2 (by decide) rfl) (fun z_3 u_1 hp_2 => ?_)
  rcases hp_2 with ⟨hz_4, hu_5, hp_6⟩ | ⟨hz_7, hu_8, hp_9⟩
  ·
    subst hz_4
    subst hu_5
    refine ⟨rfl, ?_⟩
    refine S_w (ws' := ([(h0, ob 10 f), (oW, ob 7 fW), (oK, ob 9 (uF (uF (uF fK 0 (iv kk)) 1 (iv ro)) 2 (iv le))), (kW, ar 6 Kw), (kB, ar 42 Bh), (wD, ar 6 WD), (wK, ar 6 WK), (oP, ob 4 (uF (uF (uF fP 6 (iv p0)) 7 (iv n0)) 8 (iv k0))), (aA, ar 1206 Ab), (aT, ar 180 Tm), (aW, ar 6 Wq), (aS, ar 30 Sp), (oS, ob 5 fS), (aB, ar 6 B), (aF, ar 6 Fo), (aH, ar 6 Ho), (aL, ar 6 Lt), (oT, ob 5 (uF (uF (uF (uF fT 0 (iv t0)) 1 (iv t1)) 2 (iv t2)) 3 (iv t3))), (tB, ar 6 TB), (tF, ar 6 TF), (tH, ar 6 TH), (tL, ar 6 TL), (oD, ob 0 fD), (oA, aq 4 (lwR ds))] ++ (lwT ds ys))) (by simp only [putC, List.set, List.append_nil, List.cons_append, List.nil_append]) ?_
    refine S_if_eq (tgt := 24) X dX11_week_5 (by decide) (by decide) (fun _ => ?_) (fun h9 => absurd h9 (by decide))
    refine S_iconst X dX11_week_24 ?_
    exact S_iret X (nle rfl) (nle rfl) dX11_week_25 (hPo _ _ (⟨_, _, _, _, _, _, _, _, _, _, _, _, _, _, _, _, _, _, _, _, _, _, rfl, rfl, hdy, hkw, by omega, by omega⟩))
  ·
    subst hz_7
    subst hu_8
    refine ⟨rfl, ?_⟩
    refine S_w (ws' := ([(h0, ob 10 f), (oW, ob 7 fW), (oK, ob 9 (uF (uF (uF fK 0 (iv kk)) 1 (iv ro)) 2 (iv le))), (kW, ar 6 Kw), (kB, ar 42 Bh), (wD, ar 6 WD), (wK, ar 6 WK), (oP, ob 4 (uF (uF (uF fP 6 (iv p0)) 7 (iv n0)) 8 (iv k0))), (aA, ar 1206 Ab), (aT, ar 180 Tm), (aW, ar 6 Wq), (aS, ar 30 Sp), (oS, ob 5 fS), (aB, ar 6 B), (aF, ar 6 Fo), (aH, ar 6 Ho), (aL, ar 6 Lt), (oT, ob 5 (uF (uF (uF (uF fT 0 (iv t0)) 1 (iv t1)) 2 (iv t2)) 3 (iv t3))), (tB, ar 6 TB), (tF, ar 6 TF), (tH, ar 6 TH), (tL, ar 6 TL), (oD, ob 0 fD), (oA, aq 4 (lwR ds))] ++ (lwT ds ys))) (by simp only [putC, List.set, List.append_nil, List.cons_append, List.nil_append]) ?_
    refine S_if_eq (tgt := 24) X dX11_week_5 (by decide) (by decide) (fun h9 => absurd h9 (by decide)) (fun _ => ?_)
    refine S_aload_n X dX11_week_8 rfl rfl ?_
    refine S_get X fgX11_48_10 0 rfl hf29 dX11_week_9 ?_
    refine S_get X fgX11_205_0 22 rfl hf30 dX11_week_12 ?_
    refine S_bipush X dX11_week_15 rfl ?_
    refine S_iadd X dX11_week_17 ?_
    refine S_sipush X dX11_week_18 rfl ?_
    refine S_icmp_le (tgt := 26) X dX11_week_21 (by decide) (by omega) (by decide) (fun c_12 => ?_) (fun c_12 => ?_)
    ·
      have hok := hz.s (by omega)
      have hpl := hok.2.1
      have hpl1 := hok.1
      have hn1 := hok.2.2.1
      have hn2 := hok.2.2.2.1
      have hec := hok.2.2.2.2
      have hod := hod0 (by omega)
      have hod1 := hod.1
      have hod2 := hod.2.1
      refine S_aload_n X dX11_week_26 rfl rfl ?_
      refine S_get X fgX11_85_10 0 rfl hf31 dX11_week_27 ?_
      refine S_get (v := iv kk) X fgX11_143_9 2 rfl rfl dX11_week_30 ?_
      refine S_if_ne (tgt := 87) X dX11_week_33 (by decide) (by omega) (fun c_13 => ?_) (fun c_13 => ?_)
      ·
        refine S_iload_n X dX11_week_87 rfl rfl ?_
        refine S_if_ne (tgt := 101) X dX11_week_88 (by decide) (by omega) (fun c_14 => ?_) (fun c_14 => ?_)
        ·
          refine S_aload_n X dX11_week_101 rfl rfl ?_
          refine S_get X fgX11_85_10 0 rfl hf31 dX11_week_102 ?_
          refine S_get (v := iv le) X fgX11_319_9 2 rfl rfl dX11_week_105 ?_
          exact S_iret X (nle rfl) (nle rfl) dX11_week_108 (hPo _ _ (⟨_, _, _, _, _, _, _, _, _, _, _, _, _, _, _, _, _, _, _, _, _, _, rfl, rfl, hdy, hkw, by omega, by omega⟩))
        ·
          refine S_aload_n X dX11_week_91 rfl rfl ?_
          refine S_get X fgX11_85_10 0 rfl hf31 dX11_week_92 ?_
          refine S_get (v := iv ro) X fgX11_316_9 2 rfl rfl dX11_week_95 ?_
          refine S_goto (tgt := 108) X dX11_week_98 (by decide) ?_
          exact S_iret X (nle rfl) (nle rfl) dX11_week_108 (hPo _ _ (⟨_, _, _, _, _, _, _, _, _, _, _, _, _, _, _, _, _, _, _, _, _, _, rfl, rfl, hdy, hkw, by omega, by omega⟩))
      ·
        refine S_iconst X dX11_week_36 ?_
        refine S_istore_n X dX11_week_37 rfl (nle rfl) ?_
        have lp38_3 : ∀ (N : Nat) (j : Int) (Kv : Int → Int) (yv : Nat → LwY) (L : Nat → Option AV), 0 ≤ j ∧ j ≤ 6 → (∀ x, 0 ≤ x → x < 6 → 0 ≤ Kv x ∧ Kv x ≤ 9) → okW ds yv mt pl → L 0 = some (rv h0) → L 1 = some (iv v) → L 2 = some (iv j) → 7 - j < (N : Int) → S_ p l e (rmD 13 0 0) s m args below meth c (MQ below (QcI D G A Po) args s 0 0 A) D G A 3 0 0 38 L [] ([(h0, ob 10 f), (oW, ob 7 fW), (oK, ob 9 (uF (uF (uF fK 0 (iv kk)) 1 (iv ro)) 2 (iv le))), (kW, ar 6 Kv), (kB, ar 42 Bh), (wD, ar 6 WD), (wK, ar 6 WK), (oP, ob 4 (uF (uF (uF fP 6 (iv p0)) 7 (iv n0)) 8 (iv k0))), (aA, ar 1206 Ab), (aT, ar 180 Tm), (aW, ar 6 Wq), (aS, ar 30 Sp), (oS, ob 5 fS), (aB, ar 6 B), (aF, ar 6 Fo), (aH, ar 6 Ho), (aL, ar 6 Lt), (oT, ob 5 (uF (uF (uF (uF fT 0 (iv t0)) 1 (iv t1)) 2 (iv t2)) 3 (iv t3))), (tB, ar 6 TB), (tF, ar 6 TF), (tH, ar 6 TH), (tL, ar 6 TL), (oD, ob 0 fD), (oA, aq 4 (lwR ds))] ++ (lwT ds yv)) := by
          intro N
          induction N with
          | zero =>
            intro j Kv yv L38 hj hkv hyv hL38_0 hL38_1 hL38_2 hN38
            exfalso; omega
          | succ N ih38 =>
            intro j Kv yv L38 hj hkv hyv hL38_0 hL38_1 hL38_2 hN38
            refine S_iload_n X dX11_week_38 rfl hL38_2 ?_
            refine S_bipush X dX11_week_39 rfl ?_
            refine S_icmp_ge (tgt := 72) X dX11_week_41 (by decide) (by omega) (by decide) (fun c_15 => ?_) (fun c_15 => ?_)
            ·
              refine S_aload_n X dX11_week_72 rfl hL38_0 ?_
              refine S_get X fgX11_85_10 0 rfl hf31 dX11_week_73 ?_
              refine S_aload_n X dX11_week_76 rfl hL38_0 ?_
              refine S_get X fgX11_35_10 0 rfl hf0 dX11_week_77 ?_
              refine S_aload_n X dX11_week_80 rfl hL38_0 ?_
              refine S_get X fgX11_59_10 0 rfl hf1 dX11_week_81 ?_
              refine S_callv X (kX10_find l oK fK kk ro le kW kB Kv Bh fP fS pl n ec mk oP oS aA aT aW aS aB aF aH aL Ab Tm Wq Sp B Fo Ho Lt oW wD wK fW WD WK mt oT tB tF tH tL fT TB TF TH TL t0 t1 t2 t3 p0 n0 k0 hf16 hf17 hf18 hf19 hf20 hf21 hf3 hf24 hf4 hf5 hf6 hf7 hf8 hf9 hf10 hf11 hf12 hf13 hf14 hf15 hf25 hf26 hf27 hf28 hok hod hkv) (is := [2, 3, 4, 1, 5, 6, 7, 8, 9, 10, 11, 12, 13, 14, 15, 16, 17, 18, 19, 20, 21]) rfl (run_V X lkX11_313 2 rfl rfl (is := [2, 3, 4, 1, 5, 6, 7, 8, 9, 10, 11, 12, 13, 14, 15, 16, 17, 18, 19, 20, 21]) (avs := [rv oW, rv oS]) (rest := []) rfl rfl (nle rfl) ⟨nle rfl, nle rfl⟩ ⟨nle rfl, nle rfl⟩ dX11_week_84 (by decide) rfl) (fun u_16 hp_17 => ?_)
              obtain ⟨r2_19, l2_20, p9_21, n9_22, k9_23, A2_24, T2_25, W2_26, S2_27, B4_28, B3_29, F3_30, H3_31, L3_32, hu_34, h1_35, h2_36⟩ := hp_17
              subst hu_34
              refine ⟨rfl, ?_⟩
              refine S_w (ws' := ([(h0, ob 10 f), (oW, ob 7 fW), (oK, ob 9 (uF (uF (uF fK 0 (iv 1)) 1 (iv r2_19)) 2 (iv l2_20))), (kW, ar 6 Kv), (kB, ar 42 B4_28), (wD, ar 6 WD), (wK, ar 6 WK), (oP, ob 4 (uF (uF (uF fP 6 (iv p9_21)) 7 (iv n9_22)) 8 (iv k9_23))), (aA, ar 1206 A2_24), (aT, ar 180 T2_25), (aW, ar 6 W2_26), (aS, ar 30 S2_27), (oS, ob 5 fS), (aB, ar 6 B), (aF, ar 6 Fo), (aH, ar 6 Ho), (aL, ar 6 Lt), (oT, ob 5 (uF (uF (uF (uF fT 0 (iv pl)) 1 (iv n)) 2 (iv ec)) 3 (iv mk))), (tB, ar 6 B3_29), (tF, ar 6 F3_30), (tH, ar 6 H3_31), (tL, ar 6 L3_32), (oD, ob 0 fD), (oA, aq 4 (lwR ds))] ++ (lwT ds yv))) (by simp only [putC, List.set, List.append_nil, List.cons_append, List.nil_append]) ?_
              have h81 := h1_35
              have h82 := h2_36
              refine S_iload_n X dX11_week_87 rfl hL38_1 ?_
              refine S_if_ne (tgt := 101) X dX11_week_88 (by decide) (by omega) (fun c_37 => ?_) (fun c_37 => ?_)
              ·
                refine S_aload_n X dX11_week_101 rfl hL38_0 ?_
                refine S_get X fgX11_85_10 0 rfl hf31 dX11_week_102 ?_
                refine S_get (v := iv l2_20) X fgX11_319_9 2 rfl rfl dX11_week_105 ?_
                exact S_iret X (nle rfl) (nle rfl) dX11_week_108 (hPo _ _ (⟨_, _, _, _, _, _, _, _, _, _, _, _, _, _, _, _, _, _, _, _, _, _, rfl, rfl, hyv, hkv, by omega, by omega⟩))
              ·
                refine S_aload_n X dX11_week_91 rfl hL38_0 ?_
                refine S_get X fgX11_85_10 0 rfl hf31 dX11_week_92 ?_
                refine S_get (v := iv r2_19) X fgX11_316_9 2 rfl rfl dX11_week_95 ?_
                refine S_goto (tgt := 108) X dX11_week_98 (by decide) ?_
                exact S_iret X (nle rfl) (nle rfl) dX11_week_108 (hPo _ _ (⟨_, _, _, _, _, _, _, _, _, _, _, _, _, _, _, _, _, _, _, _, _, _, rfl, rfl, hyv, hkv, by omega, by omega⟩))
            ·
              refine S_aload_n X dX11_week_44 rfl hL38_0 ?_
              refine S_get X fgX11_85_10 0 rfl hf31 dX11_week_45 ?_
              refine S_get X fgX11_310_9 2 rfl hf18 dX11_week_48 ?_
              refine S_iload_n X dX11_week_51 rfl hL38_2 ?_
              refine S_aload_n X dX11_week_52 rfl hL38_0 ?_
              refine S_aload_n X dX11_week_53 rfl hL38_0 ?_
              refine S_get X fgX11_48_10 0 rfl hf29 dX11_week_54 ?_
              refine S_get X fgX11_205_0 22 rfl hf30 dX11_week_57 ?_
              refine S_iload_n X dX11_week_60 rfl hL38_2 ?_
              refine S_iadd X dX11_week_61 ?_
              refine S_calliT X (kX11_wetness l h0 f oW fW pl ds yv mt lw oA ho (td + j) hf0 hf3 hf22 hf23 hf24 (by omega) (by omega) hds hyv hho (by omega)) (is := [0, 1, 23]) rfl (run_V X lkX11_199 0 rfl rfl (is := isT [0, 1, 23] 24 (List.length (lwT ds yv))) (avs := [iv (td + j)]) (rest := [iv j, rv kW]) rfl rfl (nle rfl) ⟨nle rfl, nle rfl⟩ ⟨nle rfl, nle rfl⟩ dX11_week_62 (isT_nd rfl (by decide)) (isT_map rfl)) (fun z_40 u_38 hp_39 => ?_)
              obtain ⟨y2_41, hz_42, hu_43, hy2_44⟩ := hp_39
              subst hz_42
              subst hu_43
              refine ⟨_, _, rfl, rfl, lwT_key _ _ _, ?_⟩
              refine S_w (ws' := ([(h0, ob 10 f), (oW, ob 7 fW), (oK, ob 9 (uF (uF (uF fK 0 (iv kk)) 1 (iv ro)) 2 (iv le))), (kW, ar 6 Kv), (kB, ar 42 Bh), (wD, ar 6 WD), (wK, ar 6 WK), (oP, ob 4 (uF (uF (uF fP 6 (iv p0)) 7 (iv n0)) 8 (iv k0))), (aA, ar 1206 Ab), (aT, ar 180 Tm), (aW, ar 6 Wq), (aS, ar 30 Sp), (oS, ob 5 fS), (aB, ar 6 B), (aF, ar 6 Fo), (aH, ar 6 Ho), (aL, ar 6 Lt), (oT, ob 5 (uF (uF (uF (uF fT 0 (iv t0)) 1 (iv t1)) 2 (iv t2)) 3 (iv t3))), (tB, ar 6 TB), (tF, ar 6 TF), (tH, ar 6 TH), (tL, ar 6 TL), (oD, ob 0 fD), (oA, aq 4 (lwR ds))] ++ (lwT ds y2_41))) (by simp only [putC, List.set, List.append_nil, List.cons_append, List.nil_append]) ?_
              have h91 := hy2_44
              obtain ⟨w9, hw9⟩ : ∃ z9, z9 = aDy ho (csA ds ho) mt pl (td + j) := ⟨_, rfl⟩
              rw [← hw9]
              have hwr := aDy_in (ho := ho) (cs := csA ds ho) (mt := mt) (pl := pl) (d := td + j) (by omega)
              rw [← hw9] at hwr
              refine S_iast X 3 rfl (by omega) (by omega) (nle rfl) dX11_week_65 ?_
              refine S_w (ws' := ([(h0, ob 10 f), (oW, ob 7 fW), (oK, ob 9 (uF (uF (uF fK 0 (iv kk)) 1 (iv ro)) 2 (iv le))), (kW, ar 6 (uZ Kv j w9)), (kB, ar 42 Bh), (wD, ar 6 WD), (wK, ar 6 WK), (oP, ob 4 (uF (uF (uF fP 6 (iv p0)) 7 (iv n0)) 8 (iv k0))), (aA, ar 1206 Ab), (aT, ar 180 Tm), (aW, ar 6 Wq), (aS, ar 30 Sp), (oS, ob 5 fS), (aB, ar 6 B), (aF, ar 6 Fo), (aH, ar 6 Ho), (aL, ar 6 Lt), (oT, ob 5 (uF (uF (uF (uF fT 0 (iv t0)) 1 (iv t1)) 2 (iv t2)) 3 (iv t3))), (tB, ar 6 TB), (tF, ar 6 TF), (tH, ar 6 TH), (tL, ar 6 TL), (oD, ob 0 fD), (oA, aq 4 (lwR ds))] ++ (lwT ds y2_41))) rfl ?_
              refine S_iinc X dX11_week_66 (nle rfl) hL38_2 ?_
              refine S_goto (tgt := 38) X dX11_week_69 (by decide) ?_
              exact ih38 (j + 1) (uZ Kv j w9) y2_41 _ (by omega) (fun x h0 h1 => by unfold uZ; split; omega; exact hkv x h0 h1) (h91) hL38_0 hL38_1 rfl (by omega)
        exact lp38_3 (Int.toNat (7 - 0) + 1) 0 Kw ys _ (by omega) (hkw) (hdy) rfl rfl rfl (by omega)
    ·
      refine S_iconst X dX11_week_24 ?_
      exact S_iret X (nle rfl) (nle rfl) dX11_week_25 (hPo _ _ (⟨_, _, _, _, _, _, _, _, _, _, _, _, _, _, _, _, _, _, _, _, _, _, rfl, rfl, hdy, hkw, by omega, by omega⟩))
