
set_option maxHeartbeats 4000000 in
set_option maxRecDepth 100000 in
theorem kX11_wetness (l : Launch) (h0 : Nat) (f : Nat → AV) (oW : Nat) (fW : Nat → AV) (pl : Int) (ds : List LwS) (ys : Nat → LwY) (mt : Int) (lw : Int) (oA : Nat) (ho : Int) (dd : Int) (hf0 : f 3 = rv oW) (hf1 : fW 0 = iv pl) (hf2 : f 4 = rv oA) (hf3 : f 14 = iv ho) (hf4 : fW 1 = iv mt) (hpl : 0 ≤ pl ∧ pl ≤ 6) (hmt : 1 ≤ mt ∧ mt ≤ 99) (hds : (ds.length : Int) = lw ∧ 0 ≤ lw ∧ lw ≤ 4) (hdy : okW ds ys mt pl) (hho : -1 ≤ ho ∧ ho < lw) (hdd : 0 ≤ dd ∧ dd ≤ 999) : AMi l yX11_wetness cX11_wetness 3 .int 5 0 0 [rv h0, iv dd] ([(h0, ob 10 f), (oW, ob 7 fW), (oA, aq 4 (lwR ds))] ++ (lwT ds ys)) (fun z u => ∃ y2 : Nat → LwY, z = aDy ho (csA ds ho) mt pl dd ∧ u = ([(h0, ob 10 f), (oW, ob 7 fW), (oA, aq 4 (lwR ds))] ++ (lwT ds y2)) ∧ okW ds y2 mt pl) := by
  refine AMi.of2 rfl (nle rfl) ?_
  intro D G A p e s m args below meth c Po hPo X
  refine S_aload_n X dX11_wetness_0 rfl rfl ?_
  refine S_get X fgX11_93_10 0 rfl hf3 dX11_wetness_1 ?_
  refine S_if_lt (tgt := 27) X dX11_wetness_4 (by decide) (by omega) (fun c_1 => ?_) (fun c_1 => ?_)
  ·
    refine S_anull X dX11_wetness_27 ?_
    refine S_astore_nN X dX11_wetness_28 rfl (nle rfl) ?_
    refine S_aload_nN X dX11_wetness_29 rfl rfl ?_
    refine S_ifnonnull (tgt := 37) X dX11_wetness_30 (by decide) (fun a9 h9 => by cases h9) (fun _ => ?_)
    refine S_iconst X dX11_wetness_33 ?_
    refine S_goto (tgt := 46) X dX11_wetness_34 (by decide) ?_
    exact S_iret X (nle rfl) (nle rfl) dX11_wetness_46 (hPo _ _ (⟨ys, by unfold aDy; rw [if_pos (by omega)], rfl, hdy⟩))
  ·
    refine S_aload_n X dX11_wetness_7 rfl rfl ?_
    refine S_get X fgX11_93_10 0 rfl hf3 dX11_wetness_8 ?_
    refine S_iconst X dX11_wetness_11 ?_
    refine S_icmp_ge (tgt := 27) X dX11_wetness_12 (by decide) (by omega) (by decide) (fun c_2 => ?_) (fun c_2 => ?_)
    ·
      refine S_anull X dX11_wetness_27 ?_
      refine S_astore_nN X dX11_wetness_28 rfl (nle rfl) ?_
      refine S_aload_nN X dX11_wetness_29 rfl rfl ?_
      refine S_ifnonnull (tgt := 37) X dX11_wetness_30 (by decide) (fun a9 h9 => by cases h9) (fun _ => ?_)
      refine S_iconst X dX11_wetness_33 ?_
      refine S_goto (tgt := 46) X dX11_wetness_34 (by decide) ?_
      exact S_iret X (nle rfl) (nle rfl) dX11_wetness_46 (hPo _ _ (⟨ys, by unfold aDy; rw [if_pos (by omega)], rfl, hdy⟩))
    ·
      refine S_aload_n X dX11_wetness_15 rfl rfl ?_
      refine S_get X fgX11_41_10 0 rfl hf2 dX11_wetness_16 ?_
      refine S_aload_n X dX11_wetness_19 rfl rfl ?_
      refine S_get X fgX11_93_10 0 rfl hf3 dX11_wetness_20 ?_
      obtain ⟨x9, hx9, hr9⟩ := lwR_at (ds := ds) (j := ho) (by omega) (by omega)
      obtain ⟨rs9, hp9, hb9⟩ := lw_front (y := ys) hx9
      obtain ⟨⟨⟨hg0, hg1, hg2⟩, hg3, hg4, hg5, hg6, hg7⟩, hg8, hg9⟩ := hdy _ _ hx9
      refine S_aald X 2 rfl (by omega) (by omega) (nle rfl) dX11_wetness_23 ?_
      rw [hr9]
      refine S_perm (hp9 _) ?_
      refine S_w (ws' := ([(h0, ob 10 f), (oW, ob 7 fW), (oA, aq 4 (lwR ds)), (x9.o, ob 1 (uF (uF x9.f 3 (iv ((ys ho.toNat).tp))) 4 (iv ((ys ho.toNat).kn)))), (x9.c, ar x9.nc x9.CC), (x9.s, ar x9.nc ((ys ho.toNat).S)), (x9.k, ar x9.nk ((ys ho.toNat).K))] ++ rs9)) rfl ?_
      refine S_goto (tgt := 28) X dX11_wetness_24 (by decide) ?_
      refine S_astore_n X dX11_wetness_28 rfl (nle rfl) ?_
      refine S_aload_n X dX11_wetness_29 rfl rfl ?_
      refine S_ifnonnull (tgt := 37) X dX11_wetness_30 (by decide) (fun _ _ => ?_) (fun h9 => by cases h9)
      refine S_aload_n X dX11_wetness_37 rfl rfl ?_
      refine S_iload_n X dX11_wetness_38 rfl rfl ?_
      refine S_aload_n X dX11_wetness_39 rfl rfl ?_
      refine S_get X fgX11_35_10 0 rfl hf0 dX11_wetness_40 ?_
      refine S_calli X (kX1_wetness l x9.o x9.f x9.c x9.s x9.k x9.nc x9.nk x9.CC ((ys ho.toNat).S) ((ys ho.toNat).K) ((ys ho.toNat).tp) ((ys ho.toNat).kn) oW fW pl mt dd x9.cs hg0 hg1 hg2 hf1 hf4 hg3 hg4 hg5 hg6 hg7 hg8 hg9 (by omega) (by omega)) (is := [3, 4, 5, 6, 1]) rfl (run_V X lkX11_202 3 rfl rfl (is := [3, 4, 5, 6, 1]) (avs := [iv dd, rv oW]) (rest := []) rfl rfl (nle rfl) ⟨nle rfl, nle rfl⟩ ⟨nle rfl, nle rfl⟩ dX11_wetness_43 (by decide) rfl) (fun z_5 u_3 hp_4 => ?_)
      obtain ⟨S2_6, t2_7, K2_8, k2_9, hz_10, hu_11, hk2_12, hkk2_13⟩ := hp_4
      subst hz_10
      subst hu_11
      refine ⟨rfl, ?_⟩
      refine S_w (ws' := ([(h0, ob 10 f), (oW, ob 7 fW), (oA, aq 4 (lwR ds)), (x9.o, ob 1 (uF (uF x9.f 3 (iv t2_7)) 4 (iv k2_9))), (x9.c, ar x9.nc x9.CC), (x9.s, ar x9.nc S2_6), (x9.k, ar x9.nk K2_8)] ++ rs9)) (by simp only [putC, List.set, List.append_nil, List.cons_append, List.nil_append]) ?_
      have hk8 := hk2_12
      have hk9 := hkk2_13
      refine S_perm (hb9 [(h0, ob 10 f), (oW, ob 7 fW), (oA, aq 4 (lwR ds))] (lwY0 S2_6 K2_8 t2_7 k2_9)) ?_
      obtain ⟨z9, hz9⟩ : ∃ z9, z9 = aDy ho (csA ds ho) mt pl dd := ⟨_, rfl⟩
      have hcs9 : dyI x9.cs mt pl dd = z9 := by rw [hz9]; unfold aDy; rw [if_neg (by omega), csA_at hx9 rfl]
      rw [hcs9]
      exact S_iret X (nle rfl) (nle rfl) dX11_wetness_46 (hPo _ _ (⟨_, hz9, rfl, hdy.set hx9 ⟨hk8, hk9⟩⟩))
