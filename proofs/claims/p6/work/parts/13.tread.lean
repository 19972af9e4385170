
set_option maxHeartbeats 4000000 in
set_option maxRecDepth 100000 in
theorem kX9_readClause (l : Launch) (h0 : Nat) (ht : Nat) (hb : Nat) (f : Nat → AV) (ft : Nat → AV) (T : Int → Int) (n : Int) (a : Int) (w : Int) (x : Int) (hd : Nat) (fd : Nat → AV) (hB : Nat) (hD : Nat) (hK : Nat) (hF : Nat) (hH : Nat) (pl : Int) (mt : Int) (R : Int → Int → Int) (hf0 : f 0 = rv ht) (hf1 : ft 0 = rv hb) (hf2 : ft 1 = iv n) (hf3 : f 3 = rv hd) (hf4 : fd 2 = rv hB) (hf5 : fd 3 = rv hD) (hf6 : fd 4 = rv hK) (hf7 : fd 5 = rv hF) (hf8 : fd 6 = rv hH) (hT : okT T n) (ha : 0 ≤ a ∧ a ≤ n) (hs : okTS (pl, mt, x, R)) : AMi l yX9_readClause cX9_readClause 2 .boolean 4 0 0 [rv h0] [(h0, ob 8 (uF (uF (uF f 1 (iv a)) 2 (iv w)) 4 (iv x))), (ht, ob 6 ft), (hb, ar 160 T), (hd, ob 7 (uF (uF fd 0 (iv pl)) 1 (iv mt))), (hB, ar 6 (colR R 0)), (hD, ar 6 (colR R 1)), (hK, ar 6 (colR R 2)), (hF, ar 6 (colR R 3)), (hH, ar 6 (colR R 4))] (fun z u => (∃ a2 : Int, ∃ fl : Int, ∃ x2 : Int, ∃ pl2 : Int, ∃ mt2 : Int, ∃ R2 : Int → Int → Int, z = 0 ∧ u = [(h0, ob 8 (uF (uF (uF f 1 (iv a2)) 2 (iv fl)) 4 (iv x2))), (ht, ob 6 ft), (hb, ar 160 T), (hd, ob 7 (uF (uF fd 0 (iv pl2)) 1 (iv mt2))), (hB, ar 6 (colR R2 0)), (hD, ar 6 (colR R2 1)), (hK, ar 6 (colR R2 2)), (hF, ar 6 (colR R2 3)), (hH, ar 6 (colR R2 4))] ∧ pCl T n a (pl, mt, x, R) = .inl fl) ∨ (∃ a2 : Int, ∃ x2 : Int, ∃ pl2 : Int, ∃ mt2 : Int, ∃ R2 : Int → Int → Int, z = 1 ∧ u = [(h0, ob 8 (uF (uF (uF f 1 (iv a2)) 2 (iv w)) 4 (iv x2))), (ht, ob 6 ft), (hb, ar 160 T), (hd, ob 7 (uF (uF fd 0 (iv pl2)) 1 (iv mt2))), (hB, ar 6 (colR R2 0)), (hD, ar 6 (colR R2 1)), (hK, ar 6 (colR R2 2)), (hF, ar 6 (colR R2 3)), (hH, ar 6 (colR R2 4))] ∧ pCl T n a (pl, mt, x, R) = .inr (a2, (pl2, mt2, x2, R2)))) := by
  refine AMi.of2 rfl (nle rfl) ?_
  intro D G A p e s m args below meth c Po hPo X
  obtain ⟨hn0, hn1, hT2⟩ := id hT
  have hsk := sk_in (T := T) (n := n) (a := a) (by omega)
  have hch := ch_in (a := sk T n a) hT (by omega)
  obtain ⟨s1, s2, s3, s4⟩ := id hs
  dsimp only at s1 s2 s3
  refine S_aload_n X dX9_readClause_0 rfl rfl ?_
  refine S_calli X (kX5_peek_8 l h0 ht hb f ft T n a w x hf0 hf1 hf2 (by omega) (by omega)) (is := [0, 1, 2]) rfl (run_U X lkX9_27_8 0 rfl rfl (is := [0, 1, 2]) (avs := []) (rest := []) rfl rfl (nle rfl) ⟨nle rfl, nle rfl⟩ ⟨nle rfl, nle rfl⟩ dX9_readClause_1 (by decide) rfl) (fun z_3 u_1 hp_2 => ?_)
  obtain ⟨hz_4, hu_5⟩ := hp_2
  subst hz_4
  subst hu_5
  refine ⟨rfl, ?_⟩
  refine S_w (ws' := [(h0, ob 8 (uF (uF (uF f 1 (iv (sk T n a))) 2 (iv w)) 4 (iv x))), (ht, ob 6 ft), (hb, ar 160 T), (hd, ob 7 (uF (uF fd 0 (iv pl)) 1 (iv mt))), (hB, ar 6 (colR R 0)), (hD, ar 6 (colR R 1)), (hK, ar 6 (colR R 2)), (hF, ar 6 (colR R 3)), (hH, ar 6 (colR R 4))]) rfl ?_
  refine S_istore_n X dX9_readClause_4 rfl (nle rfl) ?_
  refine S_iload_n X dX9_readClause_5 rfl rfl ?_
  refine S_bipush X dX9_readClause_6 rfl ?_
  refine S_icmp_ne (tgt := 46) X dX9_readClause_8 (by decide) (by omega) (by decide) (fun c_6 => ?_) (fun c_6 => ?_)
  ·
    refine S_iload_n X dX9_readClause_46 rfl rfl ?_
    refine S_bipush X dX9_readClause_47 rfl ?_
    refine S_icmp_ne (tgt := 80) X dX9_readClause_49 (by decide) (by omega) (by decide) (fun c_7 => ?_) (fun c_7 => ?_)
    ·
      refine S_aload_n X dX9_readClause_80 rfl rfl ?_
      refine S_calli X (kX5_fail_8 l h0 ht hb f ft T n (sk T n a) w x hf0 hf1 hf2) (is := [0, 1, 2]) rfl (run_U X lkX9_45_8 0 rfl rfl (is := [0, 1, 2]) (avs := []) (rest := []) rfl rfl (nle rfl) ⟨nle rfl, nle rfl⟩ ⟨nle rfl, nle rfl⟩ dX9_readClause_81 (by decide) rfl) (fun z_10 u_8 hp_9 => ?_)
      obtain ⟨hz_11, hu_12⟩ := hp_9
      subst hz_11
      subst hu_12
      refine ⟨rfl, ?_⟩
      refine S_w (ws' := [(h0, ob 8 (uF (uF (uF f 1 (iv (sk T n a))) 2 (iv (sk T n a))) 4 (iv x))), (ht, ob 6 ft), (hb, ar 160 T), (hd, ob 7 (uF (uF fd 0 (iv pl)) 1 (iv mt))), (hB, ar 6 (colR R 0)), (hD, ar 6 (colR R 1)), (hK, ar 6 (colR R 2)), (hF, ar 6 (colR R 3)), (hH, ar 6 (colR R 4))]) rfl ?_
      exact S_zret X (Or.inl rfl) (nle rfl) (nle rfl) dX9_readClause_84 (hPo _ _ (Or.inl ⟨_, _, _, _, _, _, rfl, rfl, pCl_n (by dsimp only; omega) (by dsimp only; omega)⟩))
    ·
      refine S_aload_n X dX9_readClause_52 rfl rfl ?_
      refine S_get (v := iv x) X fgX9_23_8 0 rfl rfl dX9_readClause_53 ?_
      refine S_if_ne (tgt := 80) X dX9_readClause_56 (by decide) (by omega) (fun c_13 => ?_) (fun c_13 => ?_)
      ·
        refine S_aload_n X dX9_readClause_80 rfl rfl ?_
        refine S_calli X (kX5_fail_8 l h0 ht hb f ft T n (sk T n a) w x hf0 hf1 hf2) (is := [0, 1, 2]) rfl (run_U X lkX9_45_8 0 rfl rfl (is := [0, 1, 2]) (avs := []) (rest := []) rfl rfl (nle rfl) ⟨nle rfl, nle rfl⟩ ⟨nle rfl, nle rfl⟩ dX9_readClause_81 (by decide) rfl) (fun z_16 u_14 hp_15 => ?_)
        obtain ⟨hz_17, hu_18⟩ := hp_15
        subst hz_17
        subst hu_18
        refine ⟨rfl, ?_⟩
        refine S_w (ws' := [(h0, ob 8 (uF (uF (uF f 1 (iv (sk T n a))) 2 (iv (sk T n a))) 4 (iv x))), (ht, ob 6 ft), (hb, ar 160 T), (hd, ob 7 (uF (uF fd 0 (iv pl)) 1 (iv mt))), (hB, ar 6 (colR R 0)), (hD, ar 6 (colR R 1)), (hK, ar 6 (colR R 2)), (hF, ar 6 (colR R 3)), (hH, ar 6 (colR R 4))]) rfl ?_
        exact S_zret X (Or.inl rfl) (nle rfl) (nle rfl) dX9_readClause_84 (hPo _ _ (Or.inl ⟨_, _, _, _, _, _, rfl, rfl, pCl_n (by dsimp only; omega) (by dsimp only; omega)⟩))
      ·
        have hlt : sk T n a < n := ch_lt (T := T) (by omega)
        refine S_aload_n X dX9_readClause_59 rfl rfl ?_
        refine S_dup X dX9_readClause_60 ?_
        refine S_get (v := iv (sk T n a)) X fgX9_35_8 0 rfl rfl dX9_readClause_61 ?_
        refine S_iconst X dX9_readClause_64 ?_
        refine S_iadd X dX9_readClause_65 ?_
        refine S_put X fpX9_35_8 0 rfl FT_i dX9_readClause_66 ?_
        refine S_w (ws' := [(h0, ob 8 (uF (uF (uF f 1 (iv ((sk T n a) + 1))) 2 (iv w)) 4 (iv x))), (ht, ob 6 ft), (hb, ar 160 T), (hd, ob 7 (uF (uF fd 0 (iv pl)) 1 (iv mt))), (hB, ar 6 (colR R 0)), (hD, ar 6 (colR R 1)), (hK, ar 6 (colR R 2)), (hF, ar 6 (colR R 3)), (hH, ar 6 (colR R 4))]) (by simp only [List.set]; rw [uF_mv (j := 4) (k := 1) (by decide), uF_mv (j := 2) (k := 1) (by decide), uF_same (k := 1)]) ?_
        refine S_aload_n X dX9_readClause_69 rfl rfl ?_
        refine S_iconst X dX9_readClause_70 ?_
        refine S_put X fpX9_23_8 0 rfl (FT_b (Or.inr rfl)) dX9_readClause_71 ?_
        refine S_w (ws' := [(h0, ob 8 (uF (uF (uF f 1 (iv ((sk T n a) + 1))) 2 (iv w)) 4 (iv 1))), (ht, ob 6 ft), (hb, ar 160 T), (hd, ob 7 (uF (uF fd 0 (iv pl)) 1 (iv mt))), (hB, ar 6 (colR R 0)), (hD, ar 6 (colR R 1)), (hK, ar 6 (colR R 2)), (hF, ar 6 (colR R 3)), (hH, ar 6 (colR R 4))]) (by simp only [List.set]; rw [uF_same (k := 4)]) ?_
        refine S_aload_n X dX9_readClause_74 rfl rfl ?_
        refine S_iconst X dX9_readClause_75 ?_
        refine S_calli X (kX9_readItems_M l h0 ht hb f ft T n ((sk T n a) + 1) w 1 hd fd hB hD hK hF hH pl mt R hf0 hf1 hf2 hf3 hf4 hf5 hf6 hf7 hf8 (by omega) (by omega) (by omega)) (is := [0, 1, 2, 3, 4, 5, 6, 7, 8]) rfl (run_V X lkX9_41 0 rfl rfl (is := [0, 1, 2, 3, 4, 5, 6, 7, 8]) (avs := [iv 0]) (rest := []) rfl rfl (nle rfl) ⟨nle rfl, nle rfl⟩ ⟨nle rfl, nle rfl⟩ dX9_readClause_76 (by decide) rfl) (fun z_21 u_19 hp_20 => ?_)
        rcases hp_20 with ⟨a2_22, fl_23, mt2_24, hz_25, hu_26, hq_27, hr_28⟩ | ⟨a2_29, r2_30, hz_31, hu_32, hq_33⟩
        ·
          subst hz_25
          subst hu_26
          refine ⟨rfl, ?_⟩
          refine S_w (ws' := [(h0, ob 8 (uF (uF (uF f 1 (iv a2_22)) 2 (iv fl_23)) 4 (iv 1))), (ht, ob 6 ft), (hb, ar 160 T), (hd, ob 7 (uF (uF fd 0 (iv pl)) 1 (iv mt2_24))), (hB, ar 6 (colR R 0)), (hD, ar 6 (colR R 1)), (hK, ar 6 (colR R 2)), (hF, ar 6 (colR R 3)), (hH, ar 6 (colR R 4))]) rfl ?_
          exact S_zret X (Or.inl rfl) (nle rfl) (nle rfl) dX9_readClause_79 (hPo _ _ (Or.inl ⟨_, _, _, _, _, _, rfl, rfl, pCl_mf ⟨by assumption, by dsimp only; omega⟩ hq_27⟩))
        ·
          subst hz_31
          subst hu_32
          refine ⟨rfl, ?_⟩
          refine S_w (ws' := [(h0, ob 8 (uF (uF (uF f 1 (iv a2_29)) 2 (iv w)) 4 (iv 1))), (ht, ob 6 ft), (hb, ar 160 T), (hd, ob 7 (uF (uF fd 0 (iv pl)) 1 (iv (r2_30 0)))), (hB, ar 6 (colR R 0)), (hD, ar 6 (colR R 1)), (hK, ar 6 (colR R 2)), (hF, ar 6 (colR R 3)), (hH, ar 6 (colR R 4))]) rfl ?_
          exact S_zret X (Or.inr rfl) (nle rfl) (nle rfl) dX9_readClause_79 (hPo _ _ (Or.inr ⟨_, _, _, _, _, rfl, rfl, pCl_m ⟨by assumption, by dsimp only; omega⟩ hq_33⟩))
  ·
    refine S_aload_n X dX9_readClause_11 rfl rfl ?_
    refine S_get X fgX9_14_8 0 rfl hf3 dX9_readClause_12 ?_
    refine S_get (v := iv pl) X fgX9_31_7 3 rfl rfl dX9_readClause_15 ?_
    refine S_bipush X dX9_readClause_18 rfl ?_
    refine S_icmp_ge (tgt := 46) X dX9_readClause_20 (by decide) (by omega) (by decide) (fun c_34 => ?_) (fun c_34 => ?_)
    ·
      refine S_iload_n X dX9_readClause_46 rfl rfl ?_
      refine S_bipush X dX9_readClause_47 rfl ?_
      refine S_icmp_ne (tgt := 80) X dX9_readClause_49 (by decide) (by omega) (by decide) (fun c_35 => ?_) (fun c_35 => ?_)
      ·
        refine S_aload_n X dX9_readClause_80 rfl rfl ?_
        refine S_calli X (kX5_fail_8 l h0 ht hb f ft T n (sk T n a) w x hf0 hf1 hf2) (is := [0, 1, 2]) rfl (run_U X lkX9_45_8 0 rfl rfl (is := [0, 1, 2]) (avs := []) (rest := []) rfl rfl (nle rfl) ⟨nle rfl, nle rfl⟩ ⟨nle rfl, nle rfl⟩ dX9_readClause_81 (by decide) rfl) (fun z_38 u_36 hp_37 => ?_)
        obtain ⟨hz_39, hu_40⟩ := hp_37
        subst hz_39
        subst hu_40
        refine ⟨rfl, ?_⟩
        refine S_w (ws' := [(h0, ob 8 (uF (uF (uF f 1 (iv (sk T n a))) 2 (iv (sk T n a))) 4 (iv x))), (ht, ob 6 ft), (hb, ar 160 T), (hd, ob 7 (uF (uF fd 0 (iv pl)) 1 (iv mt))), (hB, ar 6 (colR R 0)), (hD, ar 6 (colR R 1)), (hK, ar 6 (colR R 2)), (hF, ar 6 (colR R 3)), (hH, ar 6 (colR R 4))]) rfl ?_
        exact S_zret X (Or.inl rfl) (nle rfl) (nle rfl) dX9_readClause_84 (hPo _ _ (Or.inl ⟨_, _, _, _, _, _, rfl, rfl, pCl_n (by dsimp only; omega) (by dsimp only; omega)⟩))
      ·
        refine S_aload_n X dX9_readClause_52 rfl rfl ?_
        refine S_get (v := iv x) X fgX9_23_8 0 rfl rfl dX9_readClause_53 ?_
        refine S_if_ne (tgt := 80) X dX9_readClause_56 (by decide) (by omega) (fun c_41 => ?_) (fun c_41 => ?_)
        ·
          refine S_aload_n X dX9_readClause_80 rfl rfl ?_
          refine S_calli X (kX5_fail_8 l h0 ht hb f ft T n (sk T n a) w x hf0 hf1 hf2) (is := [0, 1, 2]) rfl (run_U X lkX9_45_8 0 rfl rfl (is := [0, 1, 2]) (avs := []) (rest := []) rfl rfl (nle rfl) ⟨nle rfl, nle rfl⟩ ⟨nle rfl, nle rfl⟩ dX9_readClause_81 (by decide) rfl) (fun z_44 u_42 hp_43 => ?_)
          obtain ⟨hz_45, hu_46⟩ := hp_43
          subst hz_45
          subst hu_46
          refine ⟨rfl, ?_⟩
          refine S_w (ws' := [(h0, ob 8 (uF (uF (uF f 1 (iv (sk T n a))) 2 (iv (sk T n a))) 4 (iv x))), (ht, ob 6 ft), (hb, ar 160 T), (hd, ob 7 (uF (uF fd 0 (iv pl)) 1 (iv mt))), (hB, ar 6 (colR R 0)), (hD, ar 6 (colR R 1)), (hK, ar 6 (colR R 2)), (hF, ar 6 (colR R 3)), (hH, ar 6 (colR R 4))]) rfl ?_
          exact S_zret X (Or.inl rfl) (nle rfl) (nle rfl) dX9_readClause_84 (hPo _ _ (Or.inl ⟨_, _, _, _, _, _, rfl, rfl, pCl_n (by dsimp only; omega) (by dsimp only; omega)⟩))
        ·
          have hlt : sk T n a < n := ch_lt (T := T) (by omega)
          refine S_aload_n X dX9_readClause_59 rfl rfl ?_
          refine S_dup X dX9_readClause_60 ?_
          refine S_get (v := iv (sk T n a)) X fgX9_35_8 0 rfl rfl dX9_readClause_61 ?_
          refine S_iconst X dX9_readClause_64 ?_
          refine S_iadd X dX9_readClause_65 ?_
          refine S_put X fpX9_35_8 0 rfl FT_i dX9_readClause_66 ?_
          refine S_w (ws' := [(h0, ob 8 (uF (uF (uF f 1 (iv ((sk T n a) + 1))) 2 (iv w)) 4 (iv x))), (ht, ob 6 ft), (hb, ar 160 T), (hd, ob 7 (uF (uF fd 0 (iv pl)) 1 (iv mt))), (hB, ar 6 (colR R 0)), (hD, ar 6 (colR R 1)), (hK, ar 6 (colR R 2)), (hF, ar 6 (colR R 3)), (hH, ar 6 (colR R 4))]) (by simp only [List.set]; rw [uF_mv (j := 4) (k := 1) (by decide), uF_mv (j := 2) (k := 1) (by decide), uF_same (k := 1)]) ?_
          refine S_aload_n X dX9_readClause_69 rfl rfl ?_
          refine S_iconst X dX9_readClause_70 ?_
          refine S_put X fpX9_23_8 0 rfl (FT_b (Or.inr rfl)) dX9_readClause_71 ?_
          refine S_w (ws' := [(h0, ob 8 (uF (uF (uF f 1 (iv ((sk T n a) + 1))) 2 (iv w)) 4 (iv 1))), (ht, ob 6 ft), (hb, ar 160 T), (hd, ob 7 (uF (uF fd 0 (iv pl)) 1 (iv mt))), (hB, ar 6 (colR R 0)), (hD, ar 6 (colR R 1)), (hK, ar 6 (colR R 2)), (hF, ar 6 (colR R 3)), (hH, ar 6 (colR R 4))]) (by simp only [List.set]; rw [uF_same (k := 4)]) ?_
          refine S_aload_n X dX9_readClause_74 rfl rfl ?_
          refine S_iconst X dX9_readClause_75 ?_
          refine S_calli X (kX9_readItems_M l h0 ht hb f ft T n ((sk T n a) + 1) w 1 hd fd hB hD hK hF hH pl mt R hf0 hf1 hf2 hf3 hf4 hf5 hf6 hf7 hf8 (by omega) (by omega) (by omega)) (is := [0, 1, 2, 3, 4, 5, 6, 7, 8]) rfl (run_V X lkX9_41 0 rfl rfl (is := [0, 1, 2, 3, 4, 5, 6, 7, 8]) (avs := [iv 0]) (rest := []) rfl rfl (nle rfl) ⟨nle rfl, nle rfl⟩ ⟨nle rfl, nle rfl⟩ dX9_readClause_76 (by decide) rfl) (fun z_49 u_47 hp_48 => ?_)
          rcases hp_48 with ⟨a2_50, fl_51, mt2_52, hz_53, hu_54, hq_55, hr_56⟩ | ⟨a2_57, r2_58, hz_59, hu_60, hq_61⟩
          ·
            subst hz_53
            subst hu_54
            refine ⟨rfl, ?_⟩
            refine S_w (ws' := [(h0, ob 8 (uF (uF (uF f 1 (iv a2_50)) 2 (iv fl_51)) 4 (iv 1))), (ht, ob 6 ft), (hb, ar 160 T), (hd, ob 7 (uF (uF fd 0 (iv pl)) 1 (iv mt2_52))), (hB, ar 6 (colR R 0)), (hD, ar 6 (colR R 1)), (hK, ar 6 (colR R 2)), (hF, ar 6 (colR R 3)), (hH, ar 6 (colR R 4))]) rfl ?_
            exact S_zret X (Or.inl rfl) (nle rfl) (nle rfl) dX9_readClause_79 (hPo _ _ (Or.inl ⟨_, _, _, _, _, _, rfl, rfl, pCl_mf ⟨by assumption, by dsimp only; omega⟩ hq_55⟩))
          ·
            subst hz_59
            subst hu_60
            refine ⟨rfl, ?_⟩
            refine S_w (ws' := [(h0, ob 8 (uF (uF (uF f 1 (iv a2_57)) 2 (iv w)) 4 (iv 1))), (ht, ob 6 ft), (hb, ar 160 T), (hd, ob 7 (uF (uF fd 0 (iv pl)) 1 (iv (r2_58 0)))), (hB, ar 6 (colR R 0)), (hD, ar 6 (colR R 1)), (hK, ar 6 (colR R 2)), (hF, ar 6 (colR R 3)), (hH, ar 6 (colR R 4))]) rfl ?_
            exact S_zret X (Or.inr rfl) (nle rfl) (nle rfl) dX9_readClause_79 (hPo _ _ (Or.inr ⟨_, _, _, _, _, rfl, rfl, pCl_m ⟨by assumption, by dsimp only; omega⟩ hq_61⟩))
    ·
      have hlt : sk T n a < n := ch_lt (T := T) (by omega)
      refine S_aload_n X dX9_readClause_23 rfl rfl ?_
      refine S_dup X dX9_readClause_24 ?_
      refine S_get (v := iv (sk T n a)) X fgX9_35_8 0 rfl rfl dX9_readClause_25 ?_
      refine S_iconst X dX9_readClause_28 ?_
      refine S_iadd X dX9_readClause_29 ?_
      refine S_put X fpX9_35_8 0 rfl FT_i dX9_readClause_30 ?_
      refine S_w (ws' := [(h0, ob 8 (uF (uF (uF f 1 (iv ((sk T n a) + 1))) 2 (iv w)) 4 (iv x))), (ht, ob 6 ft), (hb, ar 160 T), (hd, ob 7 (uF (uF fd 0 (iv pl)) 1 (iv mt))), (hB, ar 6 (colR R 0)), (hD, ar 6 (colR R 1)), (hK, ar 6 (colR R 2)), (hF, ar 6 (colR R 3)), (hH, ar 6 (colR R 4))]) (by simp only [List.set]; rw [uF_mv (j := 4) (k := 1) (by decide), uF_mv (j := 2) (k := 1) (by decide), uF_same (k := 1)]) ?_
      refine S_aload_n X dX9_readClause_33 rfl rfl ?_
      refine S_get X fgX9_14_8 0 rfl hf3 dX9_readClause_34 ?_
      refine S_callv X (kX8_addPlayer l hd fd hB hD hK hF hH pl mt R hf4 hf5 hf6 hf7 hf8 (by omega)) (is := [3, 4, 5, 6, 7, 8]) rfl (run_V X lkX9_38 3 rfl rfl (is := [3, 4, 5, 6, 7, 8]) (avs := []) (rest := []) rfl rfl (nle rfl) ⟨nle rfl, nle rfl⟩ ⟨nle rfl, nle rfl⟩ dX9_readClause_37 (by decide) rfl) (fun u_62 hp_63 => ?_)
      have hu_66 := hp_63
      subst hu_66
      refine ⟨rfl, ?_⟩
      refine S_w (ws' := [(h0, ob 8 (uF (uF (uF f 1 (iv ((sk T n a) + 1))) 2 (iv w)) 4 (iv x))), (ht, ob 6 ft), (hb, ar 160 T), (hd, ob 7 (uF (uF fd 0 (iv (pl + 1))) 1 (iv mt))), (hB, ar 6 (colR (uZ R pl row0) 0)), (hD, ar 6 (colR (uZ R pl row0) 1)), (hK, ar 6 (colR (uZ R pl row0) 2)), (hF, ar 6 (colR (uZ R pl row0) 3)), (hH, ar 6 (colR (uZ R pl row0) 4))]) rfl ?_
      refine S_aload_n X dX9_readClause_40 rfl rfl ?_
      refine S_iconst X dX9_readClause_41 ?_
      refine S_calli X (kX9_readItems_P l h0 ht hb f ft T n ((sk T n a) + 1) w x hd fd hB hD hK hF hH (pl + 1) mt R pl hf0 hf1 hf2 hf3 hf4 hf5 hf6 hf7 hf8 (by omega) (by omega) (by omega)) (is := [0, 1, 2, 3, 4, 5, 6, 7, 8]) rfl (run_V X lkX9_41 0 rfl rfl (is := [0, 1, 2, 3, 4, 5, 6, 7, 8]) (avs := [iv 1]) (rest := []) rfl rfl (nle rfl) ⟨nle rfl, nle rfl⟩ ⟨nle rfl, nle rfl⟩ dX9_readClause_42 (by decide) rfl) (fun z_69 u_67 hp_68 => ?_)
      rcases hp_68 with ⟨a2_70, fl_71, R2_72, hz_73, hu_74, hq_75, hr_76⟩ | ⟨a2_77, r2_78, hz_79, hu_80, hq_81⟩
      ·
        subst hz_73
        subst hu_74
        refine ⟨rfl, ?_⟩
        refine S_w (ws' := [(h0, ob 8 (uF (uF (uF f 1 (iv a2_70)) 2 (iv fl_71)) 4 (iv x))), (ht, ob 6 ft), (hb, ar 160 T), (hd, ob 7 (uF (uF fd 0 (iv (pl + 1))) 1 (iv mt))), (hB, ar 6 (colR R2_72 0)), (hD, ar 6 (colR R2_72 1)), (hK, ar 6 (colR R2_72 2)), (hF, ar 6 (colR R2_72 3)), (hH, ar 6 (colR R2_72 4))]) rfl ?_
        exact S_zret X (Or.inl rfl) (nle rfl) (nle rfl) dX9_readClause_45 (hPo _ _ (Or.inl ⟨_, _, _, _, _, _, rfl, rfl, pCl_pf ⟨by assumption, by dsimp only; omega⟩ hq_75⟩))
      ·
        subst hz_79
        subst hu_80
        refine ⟨rfl, ?_⟩
        refine S_w (ws' := [(h0, ob 8 (uF (uF (uF f 1 (iv a2_77)) 2 (iv w)) 4 (iv x))), (ht, ob 6 ft), (hb, ar 160 T), (hd, ob 7 (uF (uF fd 0 (iv (pl + 1))) 1 (iv mt))), (hB, ar 6 (colR (uZ R pl r2_78) 0)), (hD, ar 6 (colR (uZ R pl r2_78) 1)), (hK, ar 6 (colR (uZ R pl r2_78) 2)), (hF, ar 6 (colR (uZ R pl r2_78) 3)), (hH, ar 6 (colR (uZ R pl r2_78) 4))]) rfl ?_
        exact S_zret X (Or.inr rfl) (nle rfl) (nle rfl) dX9_readClause_45 (hPo _ _ (Or.inr ⟨_, _, _, _, _, rfl, rfl, pCl_p ⟨by assumption, by dsimp only; omega⟩ hq_81⟩))
set_option maxHeartbeats 4000000 in
set_option maxRecDepth 100000 in
theorem kX5_read_8 (l : Launch) (h0 : Nat) (ht : Nat) (hb : Nat) (f : Nat → AV) (ft : Nat → AV) (T : Int → Int) (n : Int) (a : Int) (w : Int) (x : Int) (hd : Nat) (fd : Nat → AV) (hB : Nat) (hD : Nat) (hK : Nat) (hF : Nat) (hH : Nat) (pl : Int) (mt : Int) (R : Int → Int → Int) (hf0 : f 0 = rv ht) (hf1 : ft 0 = rv hb) (hf2 : ft 1 = iv n) (hf3 : f 3 = rv hd) (hf4 : fd 2 = rv hB) (hf5 : fd 3 = rv hD) (hf6 : fd 4 = rv hK) (hf7 : fd 5 = rv hF) (hf8 : fd 6 = rv hH) (hT : okT T n) : AMi l yX5_read cX5_read 3 .int 5 0 0 [rv h0] [(h0, ob 8 (uF (uF (uF f 1 (iv a)) 2 (iv w)) 4 (iv x))), (ht, ob 6 ft), (hb, ar 160 T), (hd, ob 7 (uF (uF fd 0 (iv pl)) 1 (iv mt))), (hB, ar 6 (colR R 0)), (hD, ar 6 (colR R 1)), (hK, ar 6 (colR R 2)), (hF, ar 6 (colR R 3)), (hH, ar 6 (colR R 4))] (fun z u => (∃ a2 : Int, ∃ fl : Int, ∃ x2 : Int, ∃ pl2 : Int, ∃ mt2 : Int, ∃ R2 : Int → Int → Int, z = fl ∧ u = [(h0, ob 8 (uF (uF (uF f 1 (iv a2)) 2 (iv fl)) 4 (iv x2))), (ht, ob 6 ft), (hb, ar 160 T), (hd, ob 7 (uF (uF fd 0 (iv pl2)) 1 (iv mt2))), (hB, ar 6 (colR R2 0)), (hD, ar 6 (colR R2 1)), (hK, ar 6 (colR R2 2)), (hF, ar 6 (colR R2 3)), (hH, ar 6 (colR R2 4))] ∧ tnRes T n R = .inl fl ∧ (0 ≤ fl ∧ fl ≤ 160)) ∨ (∃ a2 : Int, ∃ x2 : Int, ∃ pl2 : Int, ∃ mt2 : Int, ∃ R2 : Int → Int → Int, z = -1 ∧ u = [(h0, ob 8 (uF (uF (uF f 1 (iv a2)) 2 (iv (-1))) 4 (iv x2))), (ht, ob 6 ft), (hb, ar 160 T), (hd, ob 7 (uF (uF fd 0 (iv pl2)) 1 (iv mt2))), (hB, ar 6 (colR R2 0)), (hD, ar 6 (colR R2 1)), (hK, ar 6 (colR R2 2)), (hF, ar 6 (colR R2 3)), (hH, ar 6 (colR R2 4))] ∧ tnRes T n R = .inr (pl2, mt2, x2, R2) ∧ okTS (pl2, mt2, x2, R2))) := by
  refine AMi.of2 rfl (nle rfl) ?_
  intro D G A p e s m args below meth c Po hPo X
  obtain ⟨hn0, hn1, hT2⟩ := id hT
  refine S_aload_n X dX5_read_0 rfl rfl ?_
  refine S_iconst X dX5_read_1 ?_
  refine S_put X fpX5_15_8 0 rfl FT_i dX5_read_2 ?_
  refine S_w (ws' := [(h0, ob 8 (uF (uF (uF f 1 (iv 0)) 2 (iv w)) 4 (iv x))), (ht, ob 6 ft), (hb, ar 160 T), (hd, ob 7 (uF (uF fd 0 (iv pl)) 1 (iv mt))), (hB, ar 6 (colR R 0)), (hD, ar 6 (colR R 1)), (hK, ar 6 (colR R 2)), (hF, ar 6 (colR R 3)), (hH, ar 6 (colR R 4))]) (by simp only [List.set]; rw [uF_mv (j := 4) (k := 1) (by decide), uF_mv (j := 2) (k := 1) (by decide), uF_same (k := 1)]) ?_
  refine S_aload_n X dX5_read_5 rfl rfl ?_
  refine S_iconst X dX5_read_6 ?_
  refine S_put X fpX5_19_8 0 rfl FT_i dX5_read_7 ?_
  refine S_w (ws' := [(h0, ob 8 (uF (uF (uF f 1 (iv 0)) 2 (iv (-1))) 4 (iv x))), (ht, ob 6 ft), (hb, ar 160 T), (hd, ob 7 (uF (uF fd 0 (iv pl)) 1 (iv mt))), (hB, ar 6 (colR R 0)), (hD, ar 6 (colR R 1)), (hK, ar 6 (colR R 2)), (hF, ar 6 (colR R 3)), (hH, ar 6 (colR R 4))]) (by simp only [List.set]; rw [uF_mv (j := 4) (k := 2) (by decide), uF_same (k := 2)]) ?_
  refine S_aload_n X dX5_read_10 rfl rfl ?_
  refine S_callv X (kX9_clear l h0 f 0 (-1) x hd fd pl mt hf3) (is := [0, 3]) rfl (run_A X lkX5_22_8 0 rfl rfl (is := [0, 3]) (avs := []) (rest := []) rfl rfl (nle rfl) ⟨nle rfl, nle rfl⟩ ⟨nle rfl, nle rfl⟩ dX5_read_11 (by decide) rfl) (fun u_1 hp_2 => ?_)
  have hu_5 := hp_2
  subst hu_5
  refine ⟨rfl, ?_⟩
  refine S_w (ws' := [(h0, ob 8 (uF (uF (uF f 1 (iv 0)) 2 (iv (-1))) 4 (iv 0))), (ht, ob 6 ft), (hb, ar 160 T), (hd, ob 7 (uF (uF fd 0 (iv 0)) 1 (iv 60))), (hB, ar 6 (colR R 0)), (hD, ar 6 (colR R 1)), (hK, ar 6 (colR R 2)), (hF, ar 6 (colR R 3)), (hH, ar 6 (colR R 4))]) rfl ?_
  refine S_iconst X dX5_read_14 ?_
  refine S_istore_n X dX5_read_15 rfl (nle rfl) ?_
  refine S_iconst X dX5_read_16 ?_
  refine S_istore_n X dX5_read_17 rfl (nle rfl) ?_
  refine S_iload_n X dX5_read_18 rfl rfl ?_
  refine S_if_eq (tgt := 55) X dX5_read_19 (by decide) (by decide) (fun h9 => absurd h9 (by decide)) (fun _ => ?_)
  have lp22_0 : ∀ (N : Nat) (i : Int) (a1 : Int) (x1 : Int) (pl1 : Int) (mt1 : Int) (R1 : Int → Int → Int) (L : Nat → Option AV), 0 ≤ i ∧ i ≤ 161 ∧ 0 ≤ a1 ∧ a1 ≤ n → okTS (pl1, mt1, x1, R1) → (∀ z9, pTnL T n (161 - i.toNat) a1 (pl1, mt1, x1, R1) = z9 → pTnL T n 161 0 (0, 60, 0, R) = z9) → L 0 = some (rv h0) → L 1 = some (iv 1) → L 2 = some (iv i) → 162 - i < (N : Int) → S_ p l e (rmD 5 0 0) s m args below meth c (MQ below (QcI D G A Po) args s 0 0 A) D G A 3 0 0 22 L [] [(h0, ob 8 (uF (uF (uF f 1 (iv a1)) 2 (iv (-1))) 4 (iv x1))), (ht, ob 6 ft), (hb, ar 160 T), (hd, ob 7 (uF (uF fd 0 (iv pl1)) 1 (iv mt1))), (hB, ar 6 (colR R1 0)), (hD, ar 6 (colR R1 1)), (hK, ar 6 (colR R1 2)), (hF, ar 6 (colR R1 3)), (hH, ar 6 (colR R1 4))] := by
    intro N
    induction N with
    | zero =>
      intro i a1 x1 pl1 mt1 R1 L22 hi hs hk hL22_0 hL22_1 hL22_2 hN22
      exfalso; omega
    | succ N ih22 =>
      intro i a1 x1 pl1 mt1 R1 L22 hi hs hk hL22_0 hL22_1 hL22_2 hN22
      refine S_iload_n X dX5_read_22 rfl hL22_2 ?_
      refine S_sipush X dX5_read_23 rfl ?_
      refine S_icmp_gt (tgt := 55) X dX5_read_26 (by decide) (by omega) (by decide) (fun c_7 => ?_) (fun c_7 => ?_)
      ·
        refine S_aload_n X dX5_read_55 rfl hL22_0 ?_
        refine S_get (v := iv (-1)) X fgX5_19_8 0 rfl rfl dX5_read_56 ?_
        refine S_iconst X dX5_read_59 ?_
        refine S_icmp_ne (tgt := 81) X dX5_read_60 (by decide) (by decide) (by decide) (fun h9 => absurd h9 (by decide)) (fun _ => ?_)
        have hs9 := hs
        have hs9a := hs9.1
        have hs9b := hs9.2.2.2
        dsimp only at hs9a hs9b
        refine S_aload_n X dX5_read_63 rfl hL22_0 ?_
        refine S_calli X (kX9_isWhole l h0 f a1 (-1) x1 hd fd hF pl1 mt1 R1 hf3 hf7 (by omega) hs9b) (is := [0, 3, 7]) rfl (run_A X lkX5_34_8 0 rfl rfl (is := [0, 3, 7]) (avs := []) (rest := []) rfl rfl (nle rfl) ⟨nle rfl, nle rfl⟩ ⟨nle rfl, nle rfl⟩ dX5_read_64 (by decide) rfl) (fun z_11 u_9 hp_10 => ?_)
        rcases hp_10 with ⟨hz_12, hu_13, hq_14⟩ | ⟨hz_15, hu_16, hq_17⟩
        ·
          subst hz_12
          subst hu_13
          refine ⟨rfl, ?_⟩
          refine S_w (ws' := [(h0, ob 8 (uF (uF (uF f 1 (iv a1)) 2 (iv (-1))) 4 (iv x1))), (ht, ob 6 ft), (hb, ar 160 T), (hd, ob 7 (uF (uF fd 0 (iv pl1)) 1 (iv mt1))), (hB, ar 6 (colR R1 0)), (hD, ar 6 (colR R1 1)), (hK, ar 6 (colR R1 2)), (hF, ar 6 (colR R1 3)), (hH, ar 6 (colR R1 4))]) rfl ?_
          refine S_if_ne (tgt := 81) X dX5_read_67 (by decide) (by decide) (fun h9 => absurd h9 (by decide)) (fun _ => ?_)
          refine S_aload_n X dX5_read_70 rfl hL22_0 ?_
          refine S_aload_n X dX5_read_71 rfl hL22_0 ?_
          refine S_get X fgX5_9_8 0 rfl hf0 dX5_read_72 ?_
          refine S_get X fgX5_37_6 1 rfl hf2 dX5_read_75 ?_
          refine S_put X fpX5_19_8 0 rfl FT_i dX5_read_78 ?_
          refine S_w (ws' := [(h0, ob 8 (uF (uF (uF f 1 (iv a1)) 2 (iv n)) 4 (iv x1))), (ht, ob 6 ft), (hb, ar 160 T), (hd, ob 7 (uF (uF fd 0 (iv pl1)) 1 (iv mt1))), (hB, ar 6 (colR R1 0)), (hD, ar 6 (colR R1 1)), (hK, ar 6 (colR R1 2)), (hF, ar 6 (colR R1 3)), (hH, ar 6 (colR R1 4))]) (by simp only [List.set]; rw [uF_mv (j := 4) (k := 2) (by decide), uF_same (k := 2)]) ?_
          refine S_aload_n X dX5_read_81 rfl hL22_0 ?_
          refine S_get (v := iv n) X fgX5_19_8 0 rfl rfl dX5_read_82 ?_
          exact S_iret X (nle rfl) (nle rfl) dX5_read_85 (hPo _ _ (Or.inl ⟨_, _, _, _, _, _, rfl, rfl, tnRes_n (hk _ (show pTnL T n (161 - i.toNat) a1 (pl1, mt1, x1, R1) = .inr (a1, (pl1, mt1, x1, R1)) by rw [show 161 - i.toNat = 0 by omega]; rfl)) hq_14, by omega⟩))
        ·
          subst hz_15
          subst hu_16
          refine ⟨rfl, ?_⟩
          refine S_w (ws' := [(h0, ob 8 (uF (uF (uF f 1 (iv a1)) 2 (iv (-1))) 4 (iv x1))), (ht, ob 6 ft), (hb, ar 160 T), (hd, ob 7 (uF (uF fd 0 (iv pl1)) 1 (iv mt1))), (hB, ar 6 (colR R1 0)), (hD, ar 6 (colR R1 1)), (hK, ar 6 (colR R1 2)), (hF, ar 6 (colR R1 3)), (hH, ar 6 (colR R1 4))]) rfl ?_
          refine S_if_ne (tgt := 81) X dX5_read_67 (by decide) (by decide) (fun _ => ?_) (fun h9 => absurd h9 (by decide))
          refine S_aload_n X dX5_read_81 rfl hL22_0 ?_
          refine S_get (v := iv (-1)) X fgX5_19_8 0 rfl rfl dX5_read_82 ?_
          exact S_iret X (nle rfl) (nle rfl) dX5_read_85 (hPo _ _ (Or.inr ⟨_, _, _, _, _, rfl, rfl, tnRes_y (hk _ (show pTnL T n (161 - i.toNat) a1 (pl1, mt1, x1, R1) = .inr (a1, (pl1, mt1, x1, R1)) by rw [show 161 - i.toNat = 0 by omega]; rfl)) hq_17, hs⟩))
      ·
        refine S_aload_n X dX5_read_29 rfl hL22_0 ?_
        refine S_calli X (kX9_readClause l h0 ht hb f ft T n a1 (-1) x1 hd fd hB hD hK hF hH pl1 mt1 R1 hf0 hf1 hf2 hf3 hf4 hf5 hf6 hf7 hf8 (by omega) (by omega) hs) (is := [0, 1, 2, 3, 4, 5, 6, 7, 8]) rfl (run_A X lkX5_27_8 0 rfl rfl (is := [0, 1, 2, 3, 4, 5, 6, 7, 8]) (avs := []) (rest := []) rfl rfl (nle rfl) ⟨nle rfl, nle rfl⟩ ⟨nle rfl, nle rfl⟩ dX5_read_30 (by decide) rfl) (fun z_22 u_20 hp_21 => ?_)
        rcases hp_21 with ⟨a2_23, fl_24, x2_25, pl2_26, mt2_27, R2_28, hz_29, hu_30, hq_31⟩ | ⟨a2_32, x2_33, pl2_34, mt2_35, R2_36, hz_37, hu_38, hq_39⟩
        ·
          subst hz_29
          subst hu_30
          refine ⟨rfl, ?_⟩
          refine S_w (ws' := [(h0, ob 8 (uF (uF (uF f 1 (iv a2_23)) 2 (iv fl_24)) 4 (iv x2_25))), (ht, ob 6 ft), (hb, ar 160 T), (hd, ob 7 (uF (uF fd 0 (iv pl2_26)) 1 (iv mt2_27))), (hB, ar 6 (colR R2_28 0)), (hD, ar 6 (colR R2_28 1)), (hK, ar 6 (colR R2_28 2)), (hF, ar 6 (colR R2_28 3)), (hH, ar 6 (colR R2_28 4))]) rfl ?_
          have hin := (pCl_in hn1 hi.2.2.1 hi.2.2.2 hs).1 _ hq_31
          refine S_if_eq (tgt := 47) X dX5_read_33 (by decide) (by decide) (fun _ => ?_) (fun h9 => absurd h9 (by decide))
          refine S_iconst X dX5_read_47 ?_
          refine S_istore_n X dX5_read_48 rfl (nle rfl) ?_
          refine S_iinc X dX5_read_49 (nle rfl) hL22_2 ?_
          refine S_goto (tgt := 18) X dX5_read_52 (by decide) ?_
          refine S_iload_n X dX5_read_18 rfl rfl ?_
          refine S_if_eq (tgt := 55) X dX5_read_19 (by decide) (by decide) (fun _ => ?_) (fun h9 => absurd h9 (by decide))
          refine S_aload_n X dX5_read_55 rfl hL22_0 ?_
          refine S_get (v := iv fl_24) X fgX5_19_8 0 rfl rfl dX5_read_56 ?_
          refine S_iconst X dX5_read_59 ?_
          refine S_icmp_ne (tgt := 81) X dX5_read_60 (by decide) (by omega) (by decide) (fun c_42 => ?_) (fun c_42 => by exfalso; omega)
          refine S_aload_n X dX5_read_81 rfl hL22_0 ?_
          refine S_get (v := iv fl_24) X fgX5_19_8 0 rfl rfl dX5_read_82 ?_
          exact S_iret X (nle rfl) (nle rfl) dX5_read_85 (hPo _ _ (Or.inl ⟨_, _, _, _, _, _, rfl, rfl, tnRes_f (hk _ (by rw [fuel161 (by omega) (by omega)]; exact pTnL_f hq_31)), by omega⟩))
        ·
          subst hz_37
          subst hu_38
          refine ⟨rfl, ?_⟩
          refine S_w (ws' := [(h0, ob 8 (uF (uF (uF f 1 (iv a2_32)) 2 (iv (-1))) 4 (iv x2_33))), (ht, ob 6 ft), (hb, ar 160 T), (hd, ob 7 (uF (uF fd 0 (iv pl2_34)) 1 (iv mt2_35))), (hB, ar 6 (colR R2_36 0)), (hD, ar 6 (colR R2_36 1)), (hK, ar 6 (colR R2_36 2)), (hF, ar 6 (colR R2_36 3)), (hH, ar 6 (colR R2_36 4))]) rfl ?_
          have hin := (pCl_in hn1 hi.2.2.1 hi.2.2.2 hs).2 _ hq_39
          have hs2 := hin.2.2
          dsimp only at hin hs2
          have hsk := sk_in (T := T) (n := n) hin.2.1
          refine S_if_eq (tgt := 47) X dX5_read_33 (by decide) (by decide) (fun h9 => absurd h9 (by decide)) (fun _ => ?_)
          refine S_aload_n X dX5_read_36 rfl hL22_0 ?_
          refine S_calli X (kX5_nextClause_8 l h0 ht hb f ft T n a2_32 (-1) x2_33 hf0 hf1 hf2 (by omega) (by omega)) (is := [0, 1, 2]) rfl (run_U X lkX5_31_8 0 rfl rfl (is := [0, 1, 2]) (avs := []) (rest := []) rfl rfl (nle rfl) ⟨nle rfl, nle rfl⟩ ⟨nle rfl, nle rfl⟩ dX5_read_37 (by decide) rfl) (fun z_46 u_44 hp_45 => ?_)
          rcases hp_45 with ⟨hz_47, hu_48, hq_49⟩ | ⟨a2_50, fl_51, hz_52, hu_53, hq_54, hr_55, hs_56⟩ | ⟨a2_57, hz_58, hu_59, hq_60, hr_61⟩
          ·
            subst hz_47
            subst hu_48
            refine ⟨rfl, ?_⟩
            refine S_w (ws' := [(h0, ob 8 (uF (uF (uF f 1 (iv (sk T n a2_32))) 2 (iv (-1))) 4 (iv x2_33))), (ht, ob 6 ft), (hb, ar 160 T), (hd, ob 7 (uF (uF fd 0 (iv pl2_34)) 1 (iv mt2_35))), (hB, ar 6 (colR R2_36 0)), (hD, ar 6 (colR R2_36 1)), (hK, ar 6 (colR R2_36 2)), (hF, ar 6 (colR R2_36 3)), (hH, ar 6 (colR R2_36 4))]) rfl ?_
            refine S_if_eq (tgt := 47) X dX5_read_40 (by decide) (by decide) (fun _ => ?_) (fun h9 => absurd h9 (by decide))
            refine S_iconst X dX5_read_47 ?_
            refine S_istore_n X dX5_read_48 rfl (nle rfl) ?_
            refine S_iinc X dX5_read_49 (nle rfl) hL22_2 ?_
            refine S_goto (tgt := 18) X dX5_read_52 (by decide) ?_
            refine S_iload_n X dX5_read_18 rfl rfl ?_
            refine S_if_eq (tgt := 55) X dX5_read_19 (by decide) (by decide) (fun _ => ?_) (fun h9 => absurd h9 (by decide))
            refine S_aload_n X dX5_read_55 rfl hL22_0 ?_
            refine S_get (v := iv (-1)) X fgX5_19_8 0 rfl rfl dX5_read_56 ?_
            refine S_iconst X dX5_read_59 ?_
            refine S_icmp_ne (tgt := 81) X dX5_read_60 (by decide) (by decide) (by decide) (fun h9 => absurd h9 (by decide)) (fun _ => ?_)
            have hs9 := hs2
            have hs9a := hs9.1
            have hs9b := hs9.2.2.2
            dsimp only at hs9a hs9b
            refine S_aload_n X dX5_read_63 rfl hL22_0 ?_
            refine S_calli X (kX9_isWhole l h0 f (sk T n a2_32) (-1) x2_33 hd fd hF pl2_34 mt2_35 R2_36 hf3 hf7 (by omega) hs9b) (is := [0, 3, 7]) rfl (run_A X lkX5_34_8 0 rfl rfl (is := [0, 3, 7]) (avs := []) (rest := []) rfl rfl (nle rfl) ⟨nle rfl, nle rfl⟩ ⟨nle rfl, nle rfl⟩ dX5_read_64 (by decide) rfl) (fun z_67 u_65 hp_66 => ?_)
            rcases hp_66 with ⟨hz_68, hu_69, hq_70⟩ | ⟨hz_71, hu_72, hq_73⟩
            ·
              subst hz_68
              subst hu_69
              refine ⟨rfl, ?_⟩
              refine S_w (ws' := [(h0, ob 8 (uF (uF (uF f 1 (iv (sk T n a2_32))) 2 (iv (-1))) 4 (iv x2_33))), (ht, ob 6 ft), (hb, ar 160 T), (hd, ob 7 (uF (uF fd 0 (iv pl2_34)) 1 (iv mt2_35))), (hB, ar 6 (colR R2_36 0)), (hD, ar 6 (colR R2_36 1)), (hK, ar 6 (colR R2_36 2)), (hF, ar 6 (colR R2_36 3)), (hH, ar 6 (colR R2_36 4))]) rfl ?_
              refine S_if_ne (tgt := 81) X dX5_read_67 (by decide) (by decide) (fun h9 => absurd h9 (by decide)) (fun _ => ?_)
              refine S_aload_n X dX5_read_70 rfl hL22_0 ?_
              refine S_aload_n X dX5_read_71 rfl hL22_0 ?_
              refine S_get X fgX5_9_8 0 rfl hf0 dX5_read_72 ?_
              refine S_get X fgX5_37_6 1 rfl hf2 dX5_read_75 ?_
              refine S_put X fpX5_19_8 0 rfl FT_i dX5_read_78 ?_
              refine S_w (ws' := [(h0, ob 8 (uF (uF (uF f 1 (iv (sk T n a2_32))) 2 (iv n)) 4 (iv x2_33))), (ht, ob 6 ft), (hb, ar 160 T), (hd, ob 7 (uF (uF fd 0 (iv pl2_34)) 1 (iv mt2_35))), (hB, ar 6 (colR R2_36 0)), (hD, ar 6 (colR R2_36 1)), (hK, ar 6 (colR R2_36 2)), (hF, ar 6 (colR R2_36 3)), (hH, ar 6 (colR R2_36 4))]) (by simp only [List.set]; rw [uF_mv (j := 4) (k := 2) (by decide), uF_same (k := 2)]) ?_
              refine S_aload_n X dX5_read_81 rfl hL22_0 ?_
              refine S_get (v := iv n) X fgX5_19_8 0 rfl rfl dX5_read_82 ?_
              exact S_iret X (nle rfl) (nle rfl) dX5_read_85 (hPo _ _ (Or.inl ⟨_, _, _, _, _, _, rfl, rfl, tnRes_n (hk _ (by rw [fuel161 (by omega) (by omega)]; exact pTnL_e hq_39 hq_49)) hq_70, by omega⟩))
            ·
              subst hz_71
              subst hu_72
              refine ⟨rfl, ?_⟩
              refine S_w (ws' := [(h0, ob 8 (uF (uF (uF f 1 (iv (sk T n a2_32))) 2 (iv (-1))) 4 (iv x2_33))), (ht, ob 6 ft), (hb, ar 160 T), (hd, ob 7 (uF (uF fd 0 (iv pl2_34)) 1 (iv mt2_35))), (hB, ar 6 (colR R2_36 0)), (hD, ar 6 (colR R2_36 1)), (hK, ar 6 (colR R2_36 2)), (hF, ar 6 (colR R2_36 3)), (hH, ar 6 (colR R2_36 4))]) rfl ?_
              refine S_if_ne (tgt := 81) X dX5_read_67 (by decide) (by decide) (fun _ => ?_) (fun h9 => absurd h9 (by decide))
              refine S_aload_n X dX5_read_81 rfl hL22_0 ?_
              refine S_get (v := iv (-1)) X fgX5_19_8 0 rfl rfl dX5_read_82 ?_
              exact S_iret X (nle rfl) (nle rfl) dX5_read_85 (hPo _ _ (Or.inr ⟨_, _, _, _, _, rfl, rfl, tnRes_y (hk _ (by rw [fuel161 (by omega) (by omega)]; exact pTnL_e hq_39 hq_49)) hq_73, hs2⟩))
          ·
            subst hz_52
            subst hu_53
            refine ⟨rfl, ?_⟩
            refine S_w (ws' := [(h0, ob 8 (uF (uF (uF f 1 (iv a2_50)) 2 (iv fl_51)) 4 (iv x2_33))), (ht, ob 6 ft), (hb, ar 160 T), (hd, ob 7 (uF (uF fd 0 (iv pl2_34)) 1 (iv mt2_35))), (hB, ar 6 (colR R2_36 0)), (hD, ar 6 (colR R2_36 1)), (hK, ar 6 (colR R2_36 2)), (hF, ar 6 (colR R2_36 3)), (hH, ar 6 (colR R2_36 4))]) rfl ?_
            refine S_if_eq (tgt := 47) X dX5_read_40 (by decide) (by decide) (fun _ => ?_) (fun h9 => absurd h9 (by decide))
            refine S_iconst X dX5_read_47 ?_
            refine S_istore_n X dX5_read_48 rfl (nle rfl) ?_
            refine S_iinc X dX5_read_49 (nle rfl) hL22_2 ?_
            refine S_goto (tgt := 18) X dX5_read_52 (by decide) ?_
            refine S_iload_n X dX5_read_18 rfl rfl ?_
            refine S_if_eq (tgt := 55) X dX5_read_19 (by decide) (by decide) (fun _ => ?_) (fun h9 => absurd h9 (by decide))
            refine S_aload_n X dX5_read_55 rfl hL22_0 ?_
            refine S_get (v := iv fl_51) X fgX5_19_8 0 rfl rfl dX5_read_56 ?_
            refine S_iconst X dX5_read_59 ?_
            refine S_icmp_ne (tgt := 81) X dX5_read_60 (by decide) (by omega) (by decide) (fun c_78 => ?_) (fun c_78 => by exfalso; omega)
            refine S_aload_n X dX5_read_81 rfl hL22_0 ?_
            refine S_get (v := iv fl_51) X fgX5_19_8 0 rfl rfl dX5_read_82 ?_
            exact S_iret X (nle rfl) (nle rfl) dX5_read_85 (hPo _ _ (Or.inl ⟨_, _, _, _, _, _, rfl, rfl, by rw [hs_56]; exact tnRes_f (hk _ (by rw [fuel161 (by omega) (by omega)]; exact pTnL_n hq_39 hq_54.1 hq_54.2)), by omega⟩))
          ·
            subst hz_58
            subst hu_59
            refine ⟨rfl, ?_⟩
            refine S_w (ws' := [(h0, ob 8 (uF (uF (uF f 1 (iv a2_57)) 2 (iv (-1))) 4 (iv x2_33))), (ht, ob 6 ft), (hb, ar 160 T), (hd, ob 7 (uF (uF fd 0 (iv pl2_34)) 1 (iv mt2_35))), (hB, ar 6 (colR R2_36 0)), (hD, ar 6 (colR R2_36 1)), (hK, ar 6 (colR R2_36 2)), (hF, ar 6 (colR R2_36 3)), (hH, ar 6 (colR R2_36 4))]) rfl ?_
            have hlt : sk T n a2_32 < n := ch_lt (T := T) (by omega)
            refine S_if_eq (tgt := 47) X dX5_read_40 (by decide) (by decide) (fun h9 => absurd h9 (by decide)) (fun _ => ?_)
            refine S_iconst X dX5_read_43 ?_
            refine S_goto (tgt := 48) X dX5_read_44 (by decide) ?_
            refine S_istore_n X dX5_read_48 rfl (nle rfl) ?_
            refine S_iinc X dX5_read_49 (nle rfl) hL22_2 ?_
            refine S_goto (tgt := 18) X dX5_read_52 (by decide) ?_
            refine S_iload_n X dX5_read_18 rfl rfl ?_
            refine S_if_eq (tgt := 55) X dX5_read_19 (by decide) (by decide) (fun h9 => absurd h9 (by decide)) (fun _ => ?_)
            exact ih22 (i + 1) a2_57 x2_33 pl2_34 mt2_35 R2_36 _ (by omega) (hs2) (fun z9 h9 => hk z9 (by rw [fuel161 (by omega) (by omega), pTnL_g hq_39 (by dsimp only; omega) hq_60]; rw [hr_61] at h9; exact h9)) hL22_0 rfl rfl (by omega)
  exact lp22_0 (Int.toNat (162 - 0) + 1) 0 0 0 0 60 R _ (by omega) (⟨by dsimp only; omega, by dsimp only; omega, Or.inl rfl, fun j j0 j1 => absurd j1 (by dsimp only; omega)⟩) (fun _ h9 => h9) rfl rfl rfl (by omega)
