theorem dy_next {cs : List (List Int × List Int)} {mt pl d b : Int} (hd : 0 ≤ d) (h : (d = 0 ∧ b = 0) ∨ (1 ≤ d ∧ b = dyI cs mt pl (d - 1))) : max 0 (min 9 (wth (envI d mt pl b) cs)) = dyI cs mt pl d := by
  rcases h with ⟨h1, h2⟩ | ⟨h1, h2⟩
  · rw [h1, h2]; exact dyI_0.symm
  · have e := dyI_S (cs := cs) (mt := mt) (pl := pl) (d := d - 1) (by omega)
    rw [Int.sub_add_cancel, ← h2] at e
    exact e.symm
theorem wth_r {cs : List (List Int × List Int)} {d mt pl b : Int} (h : okLaw cs) (he : ∀ j, inB (envI d mt pl b j)) (hl : ((codesOf cs).length : Int) ≤ 160) : -1000000 ≤ wth (envI d mt pl b) cs ∧ wth (envI d mt pl b) cs ≤ 1000000 := wth_in he cs (h _ _ (clPQ he)) hl
theorem codes_flat : ∀ cs : List (List Int × List Int), ((codesOf cs).length : Int) ≤ ((flatLaw cs).length : Int)
  | [] => Int.le_refl _
  | p :: r => by
    have e : flatLaw (p :: r) = joinC p.1 p.2 ++ flatLaw r := rfl
    have h1 := codesOf_c (l := r) (p := p)
    have h2 := codes_flat r
    have h3 := joinC_len (p := p)
    rw [e, List.length_append]
    omega
set_option maxHeartbeats 4000000 in
set_option maxRecDepth 100000 in
theorem kX1_forget (l : Launch) (oL : Nat) (fL : Nat → AV) (tp : Int) (kn : Int) : AMv l yX1_forget cX1_forget 1 0 0 0 [rv oL] [(oL, ob 1 (uF (uF fL 3 (iv tp)) 4 (iv kn)))] (fun u => u = [(oL, ob 1 (uF (uF fL 3 (iv tp)) 4 (iv 0)))]) := by
  refine AMv.of2 rfl (nle rfl) ?_
  intro D G A p e s m args below meth c Po hPo hnm X
  refine S_aload_n X dX1_forget_0 rfl rfl ?_
  refine S_iconst X dX1_forget_1 ?_
  refine S_put X fpX1_21_1 0 rfl FT_i dX1_forget_2 ?_
  refine S_w (ws' := [(oL, ob 1 (uF (uF fL 3 (iv tp)) 4 (iv 0)))]) (by simp only [List.set]; rw [uF_same (k := 4)]) ?_
  exact S_vret X (nle rfl) (nle rfl) dX1_forget_5 (hPo _ (rfl))
set_option maxHeartbeats 4000000 in
set_option maxRecDepth 100000 in
theorem kX1_wetness (l : Launch) (oL : Nat) (fL : Nat → AV) (lC : Nat) (lS : Nat) (lK : Nat) (nc : Nat) (nk : Nat) (CC : Int → Int) (SS9 : Int → Int) (KK : Int → Int) (tp : Int) (kn : Int) (oW : Nat) (fW : Nat → AV) (pl : Int) (mt : Int) (dd : Int) (cs : List (List Int × List Int)) (hf0 : fL 0 = rv lC) (hf1 : fL 1 = rv lS) (hf2 : fL 2 = rv lK) (hf3 : fW 0 = iv pl) (hf4 : fW 1 = iv mt) (hnc : nc ≤ 160 ∧ (nc : Int) = ((flatLaw cs).length : Int)) (hcc : ∀ (j : Nat) (u : Int), (flatLaw cs)[j]? = some u → CC (0 + j) = u) (hcb : ∀ j, 0 ≤ j → j < (nc : Int) → -200 ≤ CC j ∧ CC j ≤ 9999) (hol : okLaw cs) (hnk : nk = 1000 ∨ (nk = 0 ∧ noO (flatLaw cs))) (hkn : 0 ≤ kn ∧ kn ≤ (nk : Int)) (hkk : ∀ j, 0 ≤ j → j < kn → KK j = dyI cs mt pl j) (hpm : (0 ≤ pl ∧ pl ≤ 6) ∧ 1 ≤ mt ∧ mt ≤ 99) (hdd : 0 ≤ dd ∧ dd ≤ 999) : AMi l yX1_wetness cX1_wetness 4 .int 4 0 0 [rv oL, iv dd, rv oW] [(oL, ob 1 (uF (uF fL 3 (iv tp)) 4 (iv kn))), (lC, ar nc CC), (lS, ar nc SS9), (lK, ar nk KK), (oW, ob 7 fW)] (fun z u => ∃ S2 : Int → Int, ∃ t2 : Int, ∃ K2 : Int → Int, ∃ k2 : Int, z = dyI cs mt pl dd ∧ u = [(oL, ob 1 (uF (uF fL 3 (iv t2)) 4 (iv k2))), (lC, ar nc CC), (lS, ar nc S2), (lK, ar nk K2), (oW, ob 7 fW)] ∧ (0 ≤ k2 ∧ k2 ≤ (nk : Int)) ∧ (∀ j, 0 ≤ j → j < k2 → K2 j = dyI cs mt pl j)) := by
  refine AMi.of2 rfl (nle rfl) ?_
  intro D G A p e s m args below meth c Po hPo X
  refine S_iload_n X dX1_wetness_0 rfl rfl ?_
  refine S_if_lt (tgt := 13) X dX1_wetness_1 (by decide) (by omega) (fun c_1 => ?_) (fun c_1 => ?_)
  ·
    refine S_aload_n X dX1_wetness_13 rfl rfl ?_
    refine S_iload_n X dX1_wetness_14 rfl rfl ?_
    refine S_iconst X dX1_wetness_15 ?_
    have hen9 := envI_in (d := dd) (mt := mt) (pl := pl) (o := 0) (inB_of (by omega)) (inB_of (by omega)) (inB_of (by omega)) (inB_of (by omega))
    have hcf := codes_flat cs
    have hwr := wth_r hol hen9 (by omega)
    refine S_aload_n X dX1_wetness_16 rfl rfl ?_
    refine S_calli X (kX1_worth l oL fL lC lS lK nc nk CC SS9 KK tp kn oW fW pl mt dd 0 cs hf0 hf1 hf2 hf3 hf4 hnc hcc hcb (by omega) hol hen9) (is := [0, 1, 2, 3, 4]) rfl (run_V X lkX1_25 0 rfl rfl (is := [0, 1, 2, 3, 4]) (avs := [iv dd, iv 0, rv oW]) (rest := []) rfl rfl (nle rfl) ⟨nle rfl, nle rfl⟩ ⟨nle rfl, nle rfl⟩ dX1_wetness_17 (by decide) rfl) (fun z_4 u_2 hp_3 => ?_)
    obtain ⟨S2_5, t2_6, hz_7, hu_8⟩ := hp_3
    subst hz_7
    subst hu_8
    refine ⟨rfl, ?_⟩
    refine S_w (ws' := [(oL, ob 1 (uF (uF fL 3 (iv t2_6)) 4 (iv kn))), (lC, ar nc CC), (lS, ar nc S2_5), (lK, ar nk KK), (oW, ob 7 fW)]) rfl ?_
    refine S_iconst X dX1_wetness_20 ?_
    refine S_bipush X dX1_wetness_21 rfl ?_
    refine S_calli X (kX11_held l (wth (envI dd mt pl 0) cs) 0 9 (by omega) (by omega) (by omega) (by omega)) (is := []) rfl (run_SN X lkX1_29 (is := []) (avs := [iv (wth (envI dd mt pl 0) cs), iv 0, iv 9]) (rest := []) rfl rfl (nle rfl) ⟨nle rfl, nle rfl⟩ ⟨nle rfl, nle rfl⟩ dX1_wetness_23 (by decide) rfl) (fun z_11 u_9 hp_10 => ?_)
    obtain ⟨hz_12, hu_13⟩ := hp_10
    subst hz_12
    subst hu_13
    refine ⟨rfl, ?_⟩
    refine S_w (ws' := [(oL, ob 1 (uF (uF fL 3 (iv t2_6)) 4 (iv kn))), (lC, ar nc CC), (lS, ar nc S2_5), (lK, ar nk KK), (oW, ob 7 fW)]) rfl ?_
    exact S_iret X (nle rfl) (nle rfl) dX1_wetness_26 (hPo _ _ (⟨_, _, _, _, dyI_noO (by omega) (hnk.elim (fun h9 => by exfalso; omega) (fun h9 => h9.2)), rfl, hkn, hkk⟩))
  ·
    refine S_iload_n X dX1_wetness_4 rfl rfl ?_
    refine S_aload_n X dX1_wetness_5 rfl rfl ?_
    refine S_get X fgX1_18_1 0 rfl hf2 dX1_wetness_6 ?_
    refine S_alen X 3 rfl dX1_wetness_9 ?_
    refine S_icmp_lt (tgt := 27) X dX1_wetness_10 (by decide) (by omega) (by omega) (fun c_14 => ?_) (fun c_14 => ?_)
    ·
      have lp27_2 : ∀ (N : Nat) (k1 : Int) (t1 : Int) (Sv : Int → Int) (Kv : Int → Int) (L : Nat → Option AV), 0 ≤ k1 ∧ k1 ≤ (nk : Int) → (∀ j, 0 ≤ j → j < k1 → Kv j = dyI cs mt pl j) → L 0 = some (rv oL) → L 1 = some (iv dd) → L 2 = some (rv oW) → (nk : Int) + 1 - k1 < (N : Int) → S_ p l e (rmD 4 0 0) s m args below meth c (MQ below (QcI D G A Po) args s 0 0 A) D G A 4 0 0 27 L [] [(oL, ob 1 (uF (uF fL 3 (iv t1)) 4 (iv k1))), (lC, ar nc CC), (lS, ar nc Sv), (lK, ar nk Kv), (oW, ob 7 fW)] := by
        intro N
        induction N with
        | zero =>
          intro k1 t1 Sv Kv L27 hkr hk1 hL27_0 hL27_1 hL27_2 hN27
          exfalso; omega
        | succ N ih27 =>
          intro k1 t1 Sv Kv L27 hkr hk1 hL27_0 hL27_1 hL27_2 hN27
          refine S_aload_n X dX1_wetness_27 rfl hL27_0 ?_
          refine S_get (v := iv k1) X fgX1_21_1 0 rfl rfl dX1_wetness_28 ?_
          refine S_iload_n X dX1_wetness_31 rfl hL27_1 ?_
          refine S_icmp_gt (tgt := 108) X dX1_wetness_32 (by decide) (by omega) (by omega) (fun c_15 => ?_) (fun c_15 => ?_)
          ·
            refine S_aload_n X dX1_wetness_108 rfl hL27_0 ?_
            refine S_get X fgX1_18_1 0 rfl hf2 dX1_wetness_109 ?_
            refine S_iload_n X dX1_wetness_112 rfl hL27_1 ?_
            refine S_iald X 3 rfl (by omega) (by omega) (by omega) dX1_wetness_113 ?_
            exact S_iret X (nle rfl) (nle rfl) dX1_wetness_114 (hPo _ _ (⟨_, _, _, _, hk1 dd (by omega) (by omega), rfl, hkr, hk1⟩))
          ·
            refine S_aload_n X dX1_wetness_35 rfl hL27_0 ?_
            refine S_get (v := iv k1) X fgX1_21_1 0 rfl rfl dX1_wetness_36 ?_
            refine S_aload_n X dX1_wetness_39 rfl hL27_0 ?_
            refine S_get X fgX1_18_1 0 rfl hf2 dX1_wetness_40 ?_
            refine S_alen X 3 rfl dX1_wetness_43 ?_
            refine S_icmp_ge (tgt := 108) X dX1_wetness_44 (by decide) (by omega) (by omega) (fun c_16 => ?_) (fun c_16 => ?_)
            ·
              refine S_aload_n X dX1_wetness_108 rfl hL27_0 ?_
              refine S_get X fgX1_18_1 0 rfl hf2 dX1_wetness_109 ?_
              refine S_iload_n X dX1_wetness_112 rfl hL27_1 ?_
              refine S_iald X 3 rfl (by omega) (by omega) (by omega) dX1_wetness_113 ?_
              exact S_iret X (nle rfl) (nle rfl) dX1_wetness_114 (hPo _ _ (⟨_, _, _, _, hk1 dd (by omega) (by omega), rfl, hkr, hk1⟩))
            ·
              refine S_aload_n X dX1_wetness_47 rfl hL27_0 ?_
              refine S_get (v := iv k1) X fgX1_21_1 0 rfl rfl dX1_wetness_48 ?_
              refine S_if_le (tgt := 68) X dX1_wetness_51 (by decide) (by omega) (fun c_17 => ?_) (fun c_17 => ?_)
              ·
                refine S_iconst X dX1_wetness_68 ?_
                refine S_istore_n X dX1_wetness_69 rfl (nle rfl) ?_
                have hbv : (k1 = 0 ∧ (0 : Int) = 0) ∨ (1 ≤ k1 ∧ (0 : Int) = dyI cs mt pl (k1 - 1)) := Or.inl ⟨by omega, rfl⟩
                have hbr : 0 ≤ (0 : Int) ∧ (0 : Int) ≤ 9 := by rcases hbv with h9 | h9; (omega); have := dyI_in (cs := cs) (mt := mt) (pl := pl) (k1 - 1) (by omega); omega
                have hen9 := envI_in (d := k1) (mt := mt) (pl := pl) (o := 0) (inB_of (by omega)) (inB_of (by omega)) (inB_of (by omega)) (inB_of (by omega))
                have hcf := codes_flat cs
                have hwr := wth_r hol hen9 (by omega)
                refine S_aload_n X dX1_wetness_70 rfl hL27_0 ?_
                refine S_get X fgX1_18_1 0 rfl hf2 dX1_wetness_71 ?_
                refine S_aload_n X dX1_wetness_74 rfl hL27_0 ?_
                refine S_get (v := iv k1) X fgX1_21_1 0 rfl rfl dX1_wetness_75 ?_
                refine S_aload_n X dX1_wetness_78 rfl hL27_0 ?_
                refine S_aload_n X dX1_wetness_79 rfl hL27_0 ?_
                refine S_get (v := iv k1) X fgX1_21_1 0 rfl rfl dX1_wetness_80 ?_
                refine S_iload_n X dX1_wetness_83 rfl rfl ?_
                refine S_aload_n X dX1_wetness_84 rfl hL27_2 ?_
                refine S_calli X (kX1_worth l oL fL lC lS lK nc nk CC Sv Kv t1 k1 oW fW pl mt k1 0 cs hf0 hf1 hf2 hf3 hf4 hnc hcc hcb (by omega) hol hen9) (is := [0, 1, 2, 3, 4]) rfl (run_V X lkX1_25 0 rfl rfl (is := [0, 1, 2, 3, 4]) (avs := [iv k1, iv 0, rv oW]) (rest := [iv k1, rv lK]) rfl rfl (nle rfl) ⟨nle rfl, nle rfl⟩ ⟨nle rfl, nle rfl⟩ dX1_wetness_85 (by decide) rfl) (fun z_20 u_18 hp_19 => ?_)
                obtain ⟨S2_21, t2_22, hz_23, hu_24⟩ := hp_19
                subst hz_23
                subst hu_24
                refine ⟨rfl, ?_⟩
                refine S_w (ws' := [(oL, ob 1 (uF (uF fL 3 (iv t2_22)) 4 (iv k1))), (lC, ar nc CC), (lS, ar nc S2_21), (lK, ar nk Kv), (oW, ob 7 fW)]) rfl ?_
                refine S_iconst X dX1_wetness_88 ?_
                refine S_bipush X dX1_wetness_89 rfl ?_
                refine S_calli X (kX11_held l (wth (envI k1 mt pl 0) cs) 0 9 (by omega) (by omega) (by omega) (by omega)) (is := []) rfl (run_SN X lkX1_29 (is := []) (avs := [iv (wth (envI k1 mt pl 0) cs), iv 0, iv 9]) (rest := [iv k1, rv lK]) rfl rfl (nle rfl) ⟨nle rfl, nle rfl⟩ ⟨nle rfl, nle rfl⟩ dX1_wetness_91 (by decide) rfl) (fun z_27 u_25 hp_26 => ?_)
                obtain ⟨hz_28, hu_29⟩ := hp_26
                subst hz_28
                subst hu_29
                refine ⟨rfl, ?_⟩
                refine S_w (ws' := [(oL, ob 1 (uF (uF fL 3 (iv t2_22)) 4 (iv k1))), (lC, ar nc CC), (lS, ar nc S2_21), (lK, ar nk Kv), (oW, ob 7 fW)]) rfl ?_
                refine S_iast X 3 rfl (by omega) (by omega) (by omega) dX1_wetness_94 ?_
                refine S_w (ws' := [(oL, ob 1 (uF (uF fL 3 (iv t2_22)) 4 (iv k1))), (lC, ar nc CC), (lS, ar nc S2_21), (lK, ar nk (uZ Kv k1 (max 0 (min 9 (wth (envI k1 mt pl 0) cs))))), (oW, ob 7 fW)]) rfl ?_
                refine S_aload_n X dX1_wetness_95 rfl hL27_0 ?_
                refine S_dup X dX1_wetness_96 ?_
                refine S_get (v := iv k1) X fgX1_21_1 0 rfl rfl dX1_wetness_97 ?_
                refine S_iconst X dX1_wetness_100 ?_
                refine S_iadd X dX1_wetness_101 ?_
                refine S_put X fpX1_21_1 0 rfl FT_i dX1_wetness_102 ?_
                refine S_w (ws' := [(oL, ob 1 (uF (uF fL 3 (iv t2_22)) 4 (iv (k1 + 1)))), (lC, ar nc CC), (lS, ar nc S2_21), (lK, ar nk (uZ Kv k1 (max 0 (min 9 (wth (envI k1 mt pl 0) cs))))), (oW, ob 7 fW)]) (by simp only [List.set]; rw [uF_same (k := 4)]) ?_
                refine S_goto (tgt := 27) X dX1_wetness_105 (by decide) ?_
                exact ih27 (k1 + 1) t2_22 S2_21 (uZ Kv k1 (max 0 (min 9 (wth (envI k1 mt pl 0) cs)))) _ (by omega) (fun j h0 h1 => (by omega : j < k1 ∨ j = k1).elim (fun q9 => by rw [uZ_ne (by omega)]; exact hk1 j h0 q9) (fun q9 => by rw [q9, uZ_at]; exact dy_next (by omega) hbv)) hL27_0 hL27_1 hL27_2 (by omega)
              ·
                refine S_aload_n X dX1_wetness_54 rfl hL27_0 ?_
                refine S_get X fgX1_18_1 0 rfl hf2 dX1_wetness_55 ?_
                refine S_aload_n X dX1_wetness_58 rfl hL27_0 ?_
                refine S_get (v := iv k1) X fgX1_21_1 0 rfl rfl dX1_wetness_59 ?_
                refine S_iconst X dX1_wetness_62 ?_
                refine S_isub X dX1_wetness_63 ?_
                refine S_iald X 3 rfl (by omega) (by omega) (by omega) dX1_wetness_64 ?_
                refine S_goto (tgt := 69) X dX1_wetness_65 (by decide) ?_
                refine S_istore_n X dX1_wetness_69 rfl (nle rfl) ?_
                have hbv : (k1 = 0 ∧ (Kv (k1 - 1) : Int) = 0) ∨ (1 ≤ k1 ∧ (Kv (k1 - 1) : Int) = dyI cs mt pl (k1 - 1)) := Or.inr ⟨by omega, hk1 (k1 - 1) (by omega) (by omega)⟩
                have hbr : 0 ≤ (Kv (k1 - 1) : Int) ∧ (Kv (k1 - 1) : Int) ≤ 9 := by rcases hbv with h9 | h9; (omega); have := dyI_in (cs := cs) (mt := mt) (pl := pl) (k1 - 1) (by omega); omega
                have hen9 := envI_in (d := k1) (mt := mt) (pl := pl) (o := Kv (k1 - 1)) (inB_of (by omega)) (inB_of (by omega)) (inB_of (by omega)) (inB_of (by omega))
                have hcf := codes_flat cs
                have hwr := wth_r hol hen9 (by omega)
                refine S_aload_n X dX1_wetness_70 rfl hL27_0 ?_
                refine S_get X fgX1_18_1 0 rfl hf2 dX1_wetness_71 ?_
                refine S_aload_n X dX1_wetness_74 rfl hL27_0 ?_
                refine S_get (v := iv k1) X fgX1_21_1 0 rfl rfl dX1_wetness_75 ?_
                refine S_aload_n X dX1_wetness_78 rfl hL27_0 ?_
                refine S_aload_n X dX1_wetness_79 rfl hL27_0 ?_
                refine S_get (v := iv k1) X fgX1_21_1 0 rfl rfl dX1_wetness_80 ?_
                refine S_iload_n X dX1_wetness_83 rfl rfl ?_
                refine S_aload_n X dX1_wetness_84 rfl hL27_2 ?_
                refine S_calli X (kX1_worth l oL fL lC lS lK nc nk CC Sv Kv t1 k1 oW fW pl mt k1 (Kv (k1 - 1)) cs hf0 hf1 hf2 hf3 hf4 hnc hcc hcb (by omega) hol hen9) (is := [0, 1, 2, 3, 4]) rfl (run_V X lkX1_25 0 rfl rfl (is := [0, 1, 2, 3, 4]) (avs := [iv k1, iv (Kv (k1 - 1)), rv oW]) (rest := [iv k1, rv lK]) rfl rfl (nle rfl) ⟨nle rfl, nle rfl⟩ ⟨nle rfl, nle rfl⟩ dX1_wetness_85 (by decide) rfl) (fun z_32 u_30 hp_31 => ?_)
                obtain ⟨S2_33, t2_34, hz_35, hu_36⟩ := hp_31
                subst hz_35
                subst hu_36
                refine ⟨rfl, ?_⟩
                refine S_w (ws' := [(oL, ob 1 (uF (uF fL 3 (iv t2_34)) 4 (iv k1))), (lC, ar nc CC), (lS, ar nc S2_33), (lK, ar nk Kv), (oW, ob 7 fW)]) rfl ?_
                refine S_iconst X dX1_wetness_88 ?_
                refine S_bipush X dX1_wetness_89 rfl ?_
                refine S_calli X (kX11_held l (wth (envI k1 mt pl (Kv (k1 - 1))) cs) 0 9 (by omega) (by omega) (by omega) (by omega)) (is := []) rfl (run_SN X lkX1_29 (is := []) (avs := [iv (wth (envI k1 mt pl (Kv (k1 - 1))) cs), iv 0, iv 9]) (rest := [iv k1, rv lK]) rfl rfl (nle rfl) ⟨nle rfl, nle rfl⟩ ⟨nle rfl, nle rfl⟩ dX1_wetness_91 (by decide) rfl) (fun z_39 u_37 hp_38 => ?_)
                obtain ⟨hz_40, hu_41⟩ := hp_38
                subst hz_40
                subst hu_41
                refine ⟨rfl, ?_⟩
                refine S_w (ws' := [(oL, ob 1 (uF (uF fL 3 (iv t2_34)) 4 (iv k1))), (lC, ar nc CC), (lS, ar nc S2_33), (lK, ar nk Kv), (oW, ob 7 fW)]) rfl ?_
                refine S_iast X 3 rfl (by omega) (by omega) (by omega) dX1_wetness_94 ?_
                refine S_w (ws' := [(oL, ob 1 (uF (uF fL 3 (iv t2_34)) 4 (iv k1))), (lC, ar nc CC), (lS, ar nc S2_33), (lK, ar nk (uZ Kv k1 (max 0 (min 9 (wth (envI k1 mt pl (Kv (k1 - 1))) cs))))), (oW, ob 7 fW)]) rfl ?_
                refine S_aload_n X dX1_wetness_95 rfl hL27_0 ?_
                refine S_dup X dX1_wetness_96 ?_
                refine S_get (v := iv k1) X fgX1_21_1 0 rfl rfl dX1_wetness_97 ?_
                refine S_iconst X dX1_wetness_100 ?_
                refine S_iadd X dX1_wetness_101 ?_
                refine S_put X fpX1_21_1 0 rfl FT_i dX1_wetness_102 ?_
                refine S_w (ws' := [(oL, ob 1 (uF (uF fL 3 (iv t2_34)) 4 (iv (k1 + 1)))), (lC, ar nc CC), (lS, ar nc S2_33), (lK, ar nk (uZ Kv k1 (max 0 (min 9 (wth (envI k1 mt pl (Kv (k1 - 1))) cs))))), (oW, ob 7 fW)]) (by simp only [List.set]; rw [uF_same (k := 4)]) ?_
                refine S_goto (tgt := 27) X dX1_wetness_105 (by decide) ?_
                exact ih27 (k1 + 1) t2_34 S2_33 (uZ Kv k1 (max 0 (min 9 (wth (envI k1 mt pl (Kv (k1 - 1))) cs)))) _ (by omega) (fun j h0 h1 => (by omega : j < k1 ∨ j = k1).elim (fun q9 => by rw [uZ_ne (by omega)]; exact hk1 j h0 q9) (fun q9 => by rw [q9, uZ_at]; exact dy_next (by omega) hbv)) hL27_0 hL27_1 hL27_2 (by omega)
      exact lp27_2 (Int.toNat ((nk : Int) + 1 - kn) + 1) kn tp SS9 KK _ (by omega) (hkk) rfl rfl rfl (by omega)
    ·
      refine S_aload_n X dX1_wetness_13 rfl rfl ?_
      refine S_iload_n X dX1_wetness_14 rfl rfl ?_
      refine S_iconst X dX1_wetness_15 ?_
      have hen9 := envI_in (d := dd) (mt := mt) (pl := pl) (o := 0) (inB_of (by omega)) (inB_of (by omega)) (inB_of (by omega)) (inB_of (by omega))
      have hcf := codes_flat cs
      have hwr := wth_r hol hen9 (by omega)
      refine S_aload_n X dX1_wetness_16 rfl rfl ?_
      refine S_calli X (kX1_worth l oL fL lC lS lK nc nk CC SS9 KK tp kn oW fW pl mt dd 0 cs hf0 hf1 hf2 hf3 hf4 hnc hcc hcb (by omega) hol hen9) (is := [0, 1, 2, 3, 4]) rfl (run_V X lkX1_25 0 rfl rfl (is := [0, 1, 2, 3, 4]) (avs := [iv dd, iv 0, rv oW]) (rest := []) rfl rfl (nle rfl) ⟨nle rfl, nle rfl⟩ ⟨nle rfl, nle rfl⟩ dX1_wetness_17 (by decide) rfl) (fun z_44 u_42 hp_43 => ?_)
      obtain ⟨S2_45, t2_46, hz_47, hu_48⟩ := hp_43
      subst hz_47
      subst hu_48
      refine ⟨rfl, ?_⟩
      refine S_w (ws' := [(oL, ob 1 (uF (uF fL 3 (iv t2_46)) 4 (iv kn))), (lC, ar nc CC), (lS, ar nc S2_45), (lK, ar nk KK), (oW, ob 7 fW)]) rfl ?_
      refine S_iconst X dX1_wetness_20 ?_
      refine S_bipush X dX1_wetness_21 rfl ?_
      refine S_calli X (kX11_held l (wth (envI dd mt pl 0) cs) 0 9 (by omega) (by omega) (by omega) (by omega)) (is := []) rfl (run_SN X lkX1_29 (is := []) (avs := [iv (wth (envI dd mt pl 0) cs), iv 0, iv 9]) (rest := []) rfl rfl (nle rfl) ⟨nle rfl, nle rfl⟩ ⟨nle rfl, nle rfl⟩ dX1_wetness_23 (by decide) rfl) (fun z_51 u_49 hp_50 => ?_)
      obtain ⟨hz_52, hu_53⟩ := hp_50
      subst hz_52
      subst hu_53
      refine ⟨rfl, ?_⟩
      refine S_w (ws' := [(oL, ob 1 (uF (uF fL 3 (iv t2_46)) 4 (iv kn))), (lC, ar nc CC), (lS, ar nc S2_45), (lK, ar nk KK), (oW, ob 7 fW)]) rfl ?_
      exact S_iret X (nle rfl) (nle rfl) dX1_wetness_26 (hPo _ _ (⟨_, _, _, _, dyI_noO (by omega) (hnk.elim (fun h9 => by exfalso; omega) (fun h9 => h9.2)), rfl, hkn, hkk⟩))
set_option maxHeartbeats 4000000 in
set_option maxRecDepth 100000 in
theorem kX8_copyFrom (l : Launch) (oW : Nat) (wB : Nat) (wD : Nat) (wK : Nat) (wF : Nat) (wH : Nat) (fW : Nat → AV) (WB : Int → Int) (WD : Int → Int) (WK : Int → Int) (WF : Int → Int) (WH : Int → Int) (pl : Int) (mt : Int) (oU : Nat) (uB : Nat) (uD : Nat) (uK : Nat) (uF9 : Nat) (uH : Nat) (fU : Nat → AV) (UB : Int → Int) (UD : Int → Int) (UK : Int → Int) (UF : Int → Int) (UH : Int → Int) (p0 : Int) (m0 : Int) (hf0 : fU 2 = rv uB) (hf1 : fU 3 = rv uD) (hf2 : fU 4 = rv uK) (hf3 : fU 5 = rv uF9) (hf4 : fU 6 = rv uH) (hf5 : fW 2 = rv wB) (hf6 : fW 3 = rv wD) (hf7 : fW 4 = rv wK) (hf8 : fW 5 = rv wF) (hf9 : fW 6 = rv wH) (hf10 : fW 0 = iv pl) (hf11 : fW 1 = iv mt) : AMv l yX8_copyFrom cX8_copyFrom 2 1 0 0 [rv oU, rv oW] [(oU, ob 7 (uF (uF fU 0 (iv p0)) 1 (iv m0))), (uB, ar 6 UB), (uD, ar 6 UD), (uK, ar 6 UK), (uF9, ar 6 UF), (uH, ar 6 UH), (oW, ob 7 fW), (wB, ar 6 WB), (wD, ar 6 WD), (wK, ar 6 WK), (wF, ar 6 WF), (wH, ar 6 WH)] (fun u => ∃ B2 : Int → Int, ∃ D2 : Int → Int, ∃ K2 : Int → Int, ∃ F2 : Int → Int, ∃ H2 : Int → Int, u = [(oU, ob 7 (uF (uF fU 0 (iv pl)) 1 (iv mt))), (uB, ar 6 B2), (uD, ar 6 D2), (uK, ar 6 K2), (uF9, ar 6 F2), (uH, ar 6 H2), (oW, ob 7 fW), (wB, ar 6 WB), (wD, ar 6 WD), (wK, ar 6 WK), (wF, ar 6 WF), (wH, ar 6 WH)] ∧ (∀ x, 0 ≤ x → x < 6 → B2 x = WB x) ∧ (∀ x, 0 ≤ x → x < 6 → D2 x = WD x) ∧ (∀ x, 0 ≤ x → x < 6 → K2 x = WK x) ∧ (∀ x, 0 ≤ x → x < 6 → F2 x = WF x) ∧ (∀ x, 0 ≤ x → x < 6 → H2 x = WH x)) := by
  refine AMv.of2 rfl (nle rfl) ?_
  intro D G A p e s m args below meth c Po hPo hnm X
  refine S_aload_n X dX8_copyFrom_0 rfl rfl ?_
  refine S_aload_n X dX8_copyFrom_1 rfl rfl ?_
  refine S_get X fgX8_31_7 6 rfl hf10 dX8_copyFrom_2 ?_
  refine S_put X fpX8_31_7 0 rfl FT_i dX8_copyFrom_5 ?_
  refine S_w (ws' := [(oU, ob 7 (uF (uF fU 0 (iv pl)) 1 (iv m0))), (uB, ar 6 UB), (uD, ar 6 UD), (uK, ar 6 UK), (uF9, ar 6 UF), (uH, ar 6 UH), (oW, ob 7 fW), (wB, ar 6 WB), (wD, ar 6 WD), (wK, ar 6 WK), (wF, ar 6 WF), (wH, ar 6 WH)]) (by simp only [List.set]; rw [uF_mv (j := 1) (k := 0) (by decide), uF_same (k := 0)]) ?_
  refine S_aload_n X dX8_copyFrom_8 rfl rfl ?_
  refine S_aload_n X dX8_copyFrom_9 rfl rfl ?_
  refine S_get X fgX8_9_7 6 rfl hf11 dX8_copyFrom_10 ?_
  refine S_put X fpX8_9_7 0 rfl FT_i dX8_copyFrom_13 ?_
  refine S_w (ws' := [(oU, ob 7 (uF (uF fU 0 (iv pl)) 1 (iv mt))), (uB, ar 6 UB), (uD, ar 6 UD), (uK, ar 6 UK), (uF9, ar 6 UF), (uH, ar 6 UH), (oW, ob 7 fW), (wB, ar 6 WB), (wD, ar 6 WD), (wK, ar 6 WK), (wF, ar 6 WF), (wH, ar 6 WH)]) (by simp only [List.set]; rw [uF_same (k := 1)]) ?_
  refine S_aload_n X dX8_copyFrom_16 rfl rfl ?_
  refine S_get X fgX8_15_7 6 rfl hf5 dX8_copyFrom_17 ?_
  refine S_iconst X dX8_copyFrom_20 ?_
  refine S_aload_n X dX8_copyFrom_21 rfl rfl ?_
  refine S_get X fgX8_15_7 0 rfl hf0 dX8_copyFrom_22 ?_
  refine S_iconst X dX8_copyFrom_25 ?_
  refine S_bipush X dX8_copyFrom_26 rfl ?_
  refine S_copy (sp := 0) (dp := 0) (n := 6) X m630 m632 m631 m97 7 1 rfl rfl (by decide) (by decide) (by decide) (by omega) (by omega) (nle rfl) (nle rfl) (nle rfl) (nle rfl) dX8_copyFrom_28 ?_
  refine S_w (ws' := [(oU, ob 7 (uF (uF fU 0 (iv pl)) 1 (iv mt))), (uB, ar 6 (cpZ WB UB 0 0 6)), (uD, ar 6 UD), (uK, ar 6 UK), (uF9, ar 6 UF), (uH, ar 6 UH), (oW, ob 7 fW), (wB, ar 6 WB), (wD, ar 6 WD), (wK, ar 6 WK), (wF, ar 6 WF), (wH, ar 6 WH)]) rfl ?_
  refine S_aload_n X dX8_copyFrom_31 rfl rfl ?_
  refine S_get X fgX8_19_7 6 rfl hf6 dX8_copyFrom_32 ?_
  refine S_iconst X dX8_copyFrom_35 ?_
  refine S_aload_n X dX8_copyFrom_36 rfl rfl ?_
  refine S_get X fgX8_19_7 0 rfl hf1 dX8_copyFrom_37 ?_
  refine S_iconst X dX8_copyFrom_40 ?_
  refine S_bipush X dX8_copyFrom_41 rfl ?_
  refine S_copy (sp := 0) (dp := 0) (n := 6) X m630 m632 m631 m97 8 2 rfl rfl (by decide) (by decide) (by decide) (by omega) (by omega) (nle rfl) (nle rfl) (nle rfl) (nle rfl) dX8_copyFrom_43 ?_
  refine S_w (ws' := [(oU, ob 7 (uF (uF fU 0 (iv pl)) 1 (iv mt))), (uB, ar 6 (cpZ WB UB 0 0 6)), (uD, ar 6 (cpZ WD UD 0 0 6)), (uK, ar 6 UK), (uF9, ar 6 UF), (uH, ar 6 UH), (oW, ob 7 fW), (wB, ar 6 WB), (wD, ar 6 WD), (wK, ar 6 WK), (wF, ar 6 WF), (wH, ar 6 WH)]) rfl ?_
  refine S_aload_n X dX8_copyFrom_46 rfl rfl ?_
  refine S_get X fgX8_22_7 6 rfl hf7 dX8_copyFrom_47 ?_
  refine S_iconst X dX8_copyFrom_50 ?_
  refine S_aload_n X dX8_copyFrom_51 rfl rfl ?_
  refine S_get X fgX8_22_7 0 rfl hf2 dX8_copyFrom_52 ?_
  refine S_iconst X dX8_copyFrom_55 ?_
  refine S_bipush X dX8_copyFrom_56 rfl ?_
  refine S_copy (sp := 0) (dp := 0) (n := 6) X m630 m632 m631 m97 9 3 rfl rfl (by decide) (by decide) (by decide) (by omega) (by omega) (nle rfl) (nle rfl) (nle rfl) (nle rfl) dX8_copyFrom_58 ?_
  refine S_w (ws' := [(oU, ob 7 (uF (uF fU 0 (iv pl)) 1 (iv mt))), (uB, ar 6 (cpZ WB UB 0 0 6)), (uD, ar 6 (cpZ WD UD 0 0 6)), (uK, ar 6 (cpZ WK UK 0 0 6)), (uF9, ar 6 UF), (uH, ar 6 UH), (oW, ob 7 fW), (wB, ar 6 WB), (wD, ar 6 WD), (wK, ar 6 WK), (wF, ar 6 WF), (wH, ar 6 WH)]) rfl ?_
  refine S_aload_n X dX8_copyFrom_61 rfl rfl ?_
  refine S_get X fgX8_25_7 6 rfl hf8 dX8_copyFrom_62 ?_
  refine S_iconst X dX8_copyFrom_65 ?_
  refine S_aload_n X dX8_copyFrom_66 rfl rfl ?_
  refine S_get X fgX8_25_7 0 rfl hf3 dX8_copyFrom_67 ?_
  refine S_iconst X dX8_copyFrom_70 ?_
  refine S_bipush X dX8_copyFrom_71 rfl ?_
  refine S_copy (sp := 0) (dp := 0) (n := 6) X m630 m632 m631 m97 10 4 rfl rfl (by decide) (by decide) (by decide) (by omega) (by omega) (nle rfl) (nle rfl) (nle rfl) (nle rfl) dX8_copyFrom_73 ?_
  refine S_w (ws' := [(oU, ob 7 (uF (uF fU 0 (iv pl)) 1 (iv mt))), (uB, ar 6 (cpZ WB UB 0 0 6)), (uD, ar 6 (cpZ WD UD 0 0 6)), (uK, ar 6 (cpZ WK UK 0 0 6)), (uF9, ar 6 (cpZ WF UF 0 0 6)), (uH, ar 6 UH), (oW, ob 7 fW), (wB, ar 6 WB), (wD, ar 6 WD), (wK, ar 6 WK), (wF, ar 6 WF), (wH, ar 6 WH)]) rfl ?_
  refine S_aload_n X dX8_copyFrom_76 rfl rfl ?_
  refine S_get X fgX8_28_7 6 rfl hf9 dX8_copyFrom_77 ?_
  refine S_iconst X dX8_copyFrom_80 ?_
  refine S_aload_n X dX8_copyFrom_81 rfl rfl ?_
  refine S_get X fgX8_28_7 0 rfl hf4 dX8_copyFrom_82 ?_
  refine S_iconst X dX8_copyFrom_85 ?_
  refine S_bipush X dX8_copyFrom_86 rfl ?_
  refine S_copy (sp := 0) (dp := 0) (n := 6) X m630 m632 m631 m97 11 5 rfl rfl (by decide) (by decide) (by decide) (by omega) (by omega) (nle rfl) (nle rfl) (nle rfl) (nle rfl) dX8_copyFrom_88 ?_
  refine S_w (ws' := [(oU, ob 7 (uF (uF fU 0 (iv pl)) 1 (iv mt))), (uB, ar 6 (cpZ WB UB 0 0 6)), (uD, ar 6 (cpZ WD UD 0 0 6)), (uK, ar 6 (cpZ WK UK 0 0 6)), (uF9, ar 6 (cpZ WF UF 0 0 6)), (uH, ar 6 (cpZ WH UH 0 0 6)), (oW, ob 7 fW), (wB, ar 6 WB), (wD, ar 6 WD), (wK, ar 6 WK), (wF, ar 6 WF), (wH, ar 6 WH)]) rfl ?_
  exact S_vret X (nle rfl) (nle rfl) dX8_copyFrom_91 (hPo _ (⟨_, _, _, _, _, rfl, fun x h0 h1 => cpZ_in ⟨h0, h1⟩, fun x h0 h1 => cpZ_in ⟨h0, h1⟩, fun x h0 h1 => cpZ_in ⟨h0, h1⟩, fun x h0 h1 => cpZ_in ⟨h0, h1⟩, fun x h0 h1 => cpZ_in ⟨h0, h1⟩⟩))
