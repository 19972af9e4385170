def rcN (F : Int → Int) : Nat → Int → Int → Int
  | 0, b, _ => b
  | k + 1, b, x => if x = -1 then b else rcN F k (zOr b (zShl 1 x)) (F x)
def aRingC (pl : Int) (F : Int → Int) (p : Int) : Int := if 0 ≤ p ∧ p < pl then rcN F 6 0 (itI F 6 p) else -1
def hcN (F : Int → Int) : Nat → Int → Int
  | 0, x => x
  | k + 1, x => if F x = -1 then x else hcN F k (F x)
def aHeadC (pl : Int) (F : Int → Int) (p : Int) : Int := if 0 ≤ p ∧ p < pl ∧ itI F 6 p = -1 then hcN F 6 p else -1
theorem itI_1 {F : Int → Int} {x : Int} : itI F 1 x = if x = -1 then -1 else F x := rfl
theorem it_in {F : Int → Int} {pl : Int} (hF : ∀ p, 0 ≤ p → p < pl → -1 ≤ F p ∧ F p < pl) {x : Int} (hx : -1 ≤ x ∧ x < pl) : ∀ k, 0 ≤ k → -1 ≤ itI F k x ∧ itI F k x < pl := by
  refine upI hx (fun k hk ih => ?_)
  rw [itI_S hk]
  split
  · omega
  · exact hF _ (by omega) ih.2
theorem rcN_e {F : Int → Int} {k : Nat} {b : Int} : rcN F k b (-1) = b := by cases k <;> rfl
set_option maxHeartbeats 4000000 in
set_option maxRecDepth 100000 in
theorem kX11_mostOf (l : Launch) (h0 : Nat) (f : Nat → AV) (lw : Int) (v : Int) (hf0 : f 13 = iv lw) (hlw : 0 ≤ lw ∧ lw ≤ 4) (hx_v : inR v) : AMi l yX11_mostOf cX11_mostOf 2 .int 0 0 0 [rv h0, iv v] [(h0, ob 10 f)] (fun z u => z = (if v = 0 then lw - 1 else if v = 1 then 30 else if v = 2 then 3 else if v = 3 then 999 else -1000000) ∧ u = [(h0, ob 10 f)]) := by
  refine AMi.of2 rfl (nle rfl) ?_
  intro D G A p e s m args below meth c Po hPo X
  refine S_iload_n X dX11_mostOf_0 rfl rfl ?_
  by_cases hs_1 : v = 0
  · refine S_tswIn (j := 0) (tgt := 32) X dX11_mostOf_1 hs_1 rfl (by decide) (by decide) ?_
    refine S_aload_n X dX11_mostOf_32 rfl rfl ?_
    refine S_get X fgX11_118_10 0 rfl hf0 dX11_mostOf_33 ?_
    refine S_iconst X dX11_mostOf_36 ?_
    refine S_isub X dX11_mostOf_37 ?_
    exact S_iret X (nle rfl) (nle rfl) dX11_mostOf_38 (hPo _ _ (⟨by (repeat' split) <;> omega, rfl⟩))
  by_cases hs_2 : v = 1
  · refine S_tswIn (j := 1) (tgt := 39) X dX11_mostOf_1 hs_2 rfl (by decide) (by decide) ?_
    refine S_bipush X dX11_mostOf_39 rfl ?_
    exact S_iret X (nle rfl) (nle rfl) dX11_mostOf_41 (hPo _ _ (⟨by (repeat' split) <;> omega, rfl⟩))
  by_cases hs_3 : v = 2
  · refine S_tswIn (j := 2) (tgt := 42) X dX11_mostOf_1 hs_3 rfl (by decide) (by decide) ?_
    refine S_iconst X dX11_mostOf_42 ?_
    exact S_iret X (nle rfl) (nle rfl) dX11_mostOf_43 (hPo _ _ (⟨by (repeat' split) <;> omega, rfl⟩))
  by_cases hs_4 : v = 3
  · refine S_tswIn (j := 3) (tgt := 44) X dX11_mostOf_1 hs_4 rfl (by decide) (by decide) ?_
    refine S_sipush X dX11_mostOf_44 rfl ?_
    exact S_iret X (nle rfl) (nle rfl) dX11_mostOf_47 (hPo _ _ (⟨by (repeat' split) <;> omega, rfl⟩))
  refine S_tswOut (tgt := 48) X dX11_mostOf_1 (by omega) (by omega) (by decide) ?_
  refine S_ldc (n := -1000000) X (by rw [show i32 (-1000000) = (-1000000 : Int32) from by decide]; exact m697) dX11_mostOf_48 ?_
  exact S_iret X (nle rfl) (nle rfl) dX11_mostOf_50 (hPo _ _ (⟨by (repeat' split) <;> omega, rfl⟩))
set_option maxHeartbeats 4000000 in
set_option maxRecDepth 100000 in
theorem kX11_set (l : Launch) (h0 : Nat) (f : Nat → AV) (fS : Nat → AV) (n : Int) (ec : Int) (oS : Nat) (oK : Nat) (fK : Nat → AV) (kk : Int) (lim : Int) (ho : Int) (lw : Int) (v : Int) (x : Int) (hf0 : f 7 = rv oS) (hf1 : f 11 = rv oK) (hf2 : f 13 = iv lw) (hlw : 0 ≤ lw ∧ lw ≤ 4) (hx_v : inR v) (hx_x : inR x) : AMi l yX11_set cX11_set 4 .boolean 1 0 0 [rv h0, iv v, iv x] [(h0, ob 10 (uF (uF f 12 (iv lim)) 14 (iv ho))), (oS, ob 5 (uF (uF fS 1 (iv n)) 2 (iv ec))), (oK, ob 9 (uF fK 0 (iv kk)))] (fun z u => (z = 0 ∧ u = [(h0, ob 10 (uF (uF f 12 (iv lim)) 14 (iv ho))), (oS, ob 5 (uF (uF fS 1 (iv n)) 2 (iv ec))), (oK, ob 9 (uF fK 0 (iv kk)))] ∧ (¬ ((v = 0 ∧ -1 ≤ x ∧ x < lw) ∨ (v = 1 ∧ 1 ≤ x ∧ x ≤ 30) ∨ (v = 2 ∧ 0 ≤ x ∧ x ≤ 3) ∨ (v = 3 ∧ 0 ≤ x ∧ x ≤ 999)))) ∨ (z = 1 ∧ u = [(h0, ob 10 (uF (uF f 12 (iv lim)) 14 (iv x))), (oS, ob 5 (uF (uF fS 1 (iv n)) 2 (iv ec))), (oK, ob 9 (uF fK 0 (iv 0)))] ∧ (v = 0 ∧ -1 ≤ x ∧ x < lw)) ∨ (z = 1 ∧ u = [(h0, ob 10 (uF (uF f 12 (iv lim)) 14 (iv ho))), (oS, ob 5 (uF (uF fS 1 (iv x)) 2 (iv ec))), (oK, ob 9 (uF fK 0 (iv 0)))] ∧ (v = 1 ∧ 1 ≤ x ∧ x ≤ 30)) ∨ (z = 1 ∧ u = [(h0, ob 10 (uF (uF f 12 (iv lim)) 14 (iv ho))), (oS, ob 5 (uF (uF fS 1 (iv n)) 2 (iv x))), (oK, ob 9 (uF fK 0 (iv 0)))] ∧ (v = 2 ∧ 0 ≤ x ∧ x ≤ 3)) ∨ (z = 1 ∧ u = [(h0, ob 10 (uF (uF f 12 (iv x)) 14 (iv ho))), (oS, ob 5 (uF (uF fS 1 (iv n)) 2 (iv ec))), (oK, ob 9 (uF fK 0 (iv 0)))] ∧ (v = 3 ∧ 0 ≤ x ∧ x ≤ 999))) := by
  refine AMi.of2 rfl (nle rfl) ?_
  intro D G A p e s m args below meth c Po hPo X
  refine S_iload_n X dX11_set_0 rfl rfl ?_
  refine S_if_ne (tgt := 8) X dX11_set_1 (by decide) (by omega) (fun c_1 => ?_) (fun c_1 => ?_)
  ·
    refine S_iload_n X dX11_set_8 rfl rfl ?_
    refine S_iconst X dX11_set_9 ?_
    refine S_icmp_ne (tgt := 17) X dX11_set_10 (by decide) (by omega) (by decide) (fun c_2 => ?_) (fun c_2 => ?_)
    ·
      refine S_iconst X dX11_set_17 ?_
      refine S_istore_n X dX11_set_18 rfl (nle rfl) ?_
      refine S_iload_n X dX11_set_19 rfl rfl ?_
      refine S_iload_n X dX11_set_20 rfl rfl ?_
      refine S_icmp_lt (tgt := 33) X dX11_set_21 (by decide) (by omega) (by decide) (fun c_3 => ?_) (fun c_3 => ?_)
      ·
        refine S_iconst X dX11_set_33 ?_
        exact S_zret X (Or.inl rfl) (nle rfl) (nle rfl) dX11_set_34 (hPo _ _ (Or.inl ⟨rfl, rfl, by omega⟩))
      ·
        refine S_iload_n X dX11_set_24 rfl rfl ?_
        refine S_aload_n X dX11_set_25 rfl rfl ?_
        refine S_iload_n X dX11_set_26 rfl rfl ?_
        refine S_calli X (kX11_mostOf l h0 (uF (uF f 12 (iv lim)) 14 (iv ho)) lw v hf2 (by omega) (by omega)) (is := [0]) rfl (run_V X lkX11_179 0 rfl rfl (is := [0]) (avs := [iv v]) (rest := [iv x]) rfl rfl (nle rfl) ⟨nle rfl, nle rfl⟩ ⟨nle rfl, nle rfl⟩ dX11_set_27 (by decide) rfl) (fun z_6 u_4 hp_5 => ?_)
        obtain ⟨hz_7, hu_8⟩ := hp_5
        subst hz_7
        subst hu_8
        refine ⟨rfl, ?_⟩
        refine S_w (ws' := [(h0, ob 10 (uF (uF f 12 (iv lim)) 14 (iv ho))), (oS, ob 5 (uF (uF fS 1 (iv n)) 2 (iv ec))), (oK, ob 9 (uF fK 0 (iv kk)))]) rfl ?_
        obtain ⟨mo9, hmo9⟩ : ∃ z9, z9 = (if v = 0 then lw - 1 else if v = 1 then 30 else if v = 2 then 3 else if v = 3 then 999 else -1000000) := ⟨_, rfl⟩
        rw [← hmo9]
        have hmo8 : (v = 0 ∧ mo9 = lw - 1) ∨ (v = 1 ∧ mo9 = 30) ∨ (v = 2 ∧ mo9 = 3) ∨ (v = 3 ∧ mo9 = 999) ∨ (v ≠ 0 ∧ v ≠ 1 ∧ v ≠ 2 ∧ v ≠ 3 ∧ mo9 = -1000000) := by rw [hmo9]; (repeat' split) <;> omega
        refine S_icmp_le (tgt := 35) X dX11_set_30 (by decide) (by omega) (by omega) (fun c_9 => ?_) (fun c_9 => ?_)
        ·
          refine S_aload_n X dX11_set_35 rfl rfl ?_
          refine S_get X fgX11_85_10 0 rfl hf1 dX11_set_36 ?_
          refine S_iconst X dX11_set_39 ?_
          refine S_put X fpX11_143_9 2 rfl (FT_b (Or.inl rfl)) dX11_set_40 ?_
          refine S_w (ws' := [(h0, ob 10 (uF (uF f 12 (iv lim)) 14 (iv ho))), (oS, ob 5 (uF (uF fS 1 (iv n)) 2 (iv ec))), (oK, ob 9 (uF fK 0 (iv 0)))]) (by simp only [List.set]; rw [uF_same (k := 0)]) ?_
          refine S_iload_n X dX11_set_43 rfl rfl ?_
          by_cases hs_10 : v = 0
          · refine S_tswIn (j := 0) (tgt := 72) X dX11_set_44 hs_10 rfl (by decide) (by decide) ?_
            refine S_aload_n X dX11_set_72 rfl rfl ?_
            refine S_iload_n X dX11_set_73 rfl rfl ?_
            refine S_put X fpX11_93_10 0 rfl FT_i dX11_set_74 ?_
            refine S_w (ws' := [(h0, ob 10 (uF (uF f 12 (iv lim)) 14 (iv x))), (oS, ob 5 (uF (uF fS 1 (iv n)) 2 (iv ec))), (oK, ob 9 (uF fK 0 (iv 0)))]) (by simp only [List.set]; rw [uF_same (k := 14)]) ?_
            refine S_iconst X dX11_set_77 ?_
            exact S_zret X (Or.inr rfl) (nle rfl) (nle rfl) dX11_set_78 (hPo _ _ (Or.inr (Or.inl (⟨rfl, rfl, by omega⟩))))
          by_cases hs_11 : v = 1
          · refine S_tswIn (j := 1) (tgt := 79) X dX11_set_44 hs_11 rfl (by decide) (by decide) ?_
            refine S_aload_n X dX11_set_79 rfl rfl ?_
            refine S_get X fgX11_59_10 0 rfl hf0 dX11_set_80 ?_
            refine S_iload_n X dX11_set_83 rfl rfl ?_
            refine S_put X fpX11_182_5 1 rfl FT_i dX11_set_84 ?_
            refine S_w (ws' := [(h0, ob 10 (uF (uF f 12 (iv lim)) 14 (iv ho))), (oS, ob 5 (uF (uF fS 1 (iv x)) 2 (iv ec))), (oK, ob 9 (uF fK 0 (iv 0)))]) (by simp only [List.set]; rw [uF_mv (j := 2) (k := 1) (by decide), uF_same (k := 1)]) ?_
            refine S_iconst X dX11_set_87 ?_
            exact S_zret X (Or.inr rfl) (nle rfl) (nle rfl) dX11_set_88 (hPo _ _ (Or.inr (Or.inr (Or.inl (⟨rfl, rfl, by omega⟩)))))
          by_cases hs_12 : v = 2
          · refine S_tswIn (j := 2) (tgt := 89) X dX11_set_44 hs_12 rfl (by decide) (by decide) ?_
            refine S_aload_n X dX11_set_89 rfl rfl ?_
            refine S_get X fgX11_59_10 0 rfl hf0 dX11_set_90 ?_
            refine S_iload_n X dX11_set_93 rfl rfl ?_
            refine S_put X fpX11_185_5 1 rfl FT_i dX11_set_94 ?_
            refine S_w (ws' := [(h0, ob 10 (uF (uF f 12 (iv lim)) 14 (iv ho))), (oS, ob 5 (uF (uF fS 1 (iv n)) 2 (iv x))), (oK, ob 9 (uF fK 0 (iv 0)))]) (by simp only [List.set]; rw [uF_same (k := 2)]) ?_
            refine S_iconst X dX11_set_97 ?_
            exact S_zret X (Or.inr rfl) (nle rfl) (nle rfl) dX11_set_98 (hPo _ _ (Or.inr (Or.inr (Or.inr (Or.inl (⟨rfl, rfl, by omega⟩))))))
          refine S_tswOut (tgt := 99) X dX11_set_44 (by omega) (by omega) (by decide) ?_
          refine S_aload_n X dX11_set_99 rfl rfl ?_
          refine S_iload_n X dX11_set_100 rfl rfl ?_
          refine S_put X fpX11_89_10 0 rfl FT_i dX11_set_101 ?_
          refine S_w (ws' := [(h0, ob 10 (uF (uF f 12 (iv x)) 14 (iv ho))), (oS, ob 5 (uF (uF fS 1 (iv n)) 2 (iv ec))), (oK, ob 9 (uF fK 0 (iv 0)))]) (by simp only [List.set]; rw [uF_mv (j := 14) (k := 12) (by decide), uF_same (k := 12)]) ?_
          refine S_iconst X dX11_set_104 ?_
          exact S_zret X (Or.inr rfl) (nle rfl) (nle rfl) dX11_set_105 (hPo _ _ (Or.inr (Or.inr (Or.inr (Or.inr (⟨rfl, rfl, by omega⟩))))))
        ·
          refine S_iconst X dX11_set_33 ?_
          exact S_zret X (Or.inl rfl) (nle rfl) (nle rfl) dX11_set_34 (hPo _ _ (Or.inl ⟨rfl, rfl, by omega⟩))
    ·
      refine S_iconst X dX11_set_13 ?_
      refine S_goto (tgt := 18) X dX11_set_14 (by decide) ?_
      refine S_istore_n X dX11_set_18 rfl (nle rfl) ?_
      refine S_iload_n X dX11_set_19 rfl rfl ?_
      refine S_iload_n X dX11_set_20 rfl rfl ?_
      refine S_icmp_lt (tgt := 33) X dX11_set_21 (by decide) (by omega) (by decide) (fun c_13 => ?_) (fun c_13 => ?_)
      ·
        refine S_iconst X dX11_set_33 ?_
        exact S_zret X (Or.inl rfl) (nle rfl) (nle rfl) dX11_set_34 (hPo _ _ (Or.inl ⟨rfl, rfl, by omega⟩))
      ·
        refine S_iload_n X dX11_set_24 rfl rfl ?_
        refine S_aload_n X dX11_set_25 rfl rfl ?_
        refine S_iload_n X dX11_set_26 rfl rfl ?_
        refine S_calli X (kX11_mostOf l h0 (uF (uF f 12 (iv lim)) 14 (iv ho)) lw v hf2 (by omega) (by omega)) (is := [0]) rfl (run_V X lkX11_179 0 rfl rfl (is := [0]) (avs := [iv v]) (rest := [iv x]) rfl rfl (nle rfl) ⟨nle rfl, nle rfl⟩ ⟨nle rfl, nle rfl⟩ dX11_set_27 (by decide) rfl) (fun z_16 u_14 hp_15 => ?_)
        obtain ⟨hz_17, hu_18⟩ := hp_15
        subst hz_17
        subst hu_18
        refine ⟨rfl, ?_⟩
        refine S_w (ws' := [(h0, ob 10 (uF (uF f 12 (iv lim)) 14 (iv ho))), (oS, ob 5 (uF (uF fS 1 (iv n)) 2 (iv ec))), (oK, ob 9 (uF fK 0 (iv kk)))]) rfl ?_
        obtain ⟨mo9, hmo9⟩ : ∃ z9, z9 = (if v = 0 then lw - 1 else if v = 1 then 30 else if v = 2 then 3 else if v = 3 then 999 else -1000000) := ⟨_, rfl⟩
        rw [← hmo9]
        have hmo8 : (v = 0 ∧ mo9 = lw - 1) ∨ (v = 1 ∧ mo9 = 30) ∨ (v = 2 ∧ mo9 = 3) ∨ (v = 3 ∧ mo9 = 999) ∨ (v ≠ 0 ∧ v ≠ 1 ∧ v ≠ 2 ∧ v ≠ 3 ∧ mo9 = -1000000) := by rw [hmo9]; (repeat' split) <;> omega
        refine S_icmp_le (tgt := 35) X dX11_set_30 (by decide) (by omega) (by omega) (fun c_19 => ?_) (fun c_19 => ?_)
        ·
          refine S_aload_n X dX11_set_35 rfl rfl ?_
          refine S_get X fgX11_85_10 0 rfl hf1 dX11_set_36 ?_
          refine S_iconst X dX11_set_39 ?_
          refine S_put X fpX11_143_9 2 rfl (FT_b (Or.inl rfl)) dX11_set_40 ?_
          refine S_w (ws' := [(h0, ob 10 (uF (uF f 12 (iv lim)) 14 (iv ho))), (oS, ob 5 (uF (uF fS 1 (iv n)) 2 (iv ec))), (oK, ob 9 (uF fK 0 (iv 0)))]) (by simp only [List.set]; rw [uF_same (k := 0)]) ?_
          refine S_iload_n X dX11_set_43 rfl rfl ?_
          by_cases hs_20 : v = 0
          · refine S_tswIn (j := 0) (tgt := 72) X dX11_set_44 hs_20 rfl (by decide) (by decide) ?_
            refine S_aload_n X dX11_set_72 rfl rfl ?_
            refine S_iload_n X dX11_set_73 rfl rfl ?_
            refine S_put X fpX11_93_10 0 rfl FT_i dX11_set_74 ?_
            refine S_w (ws' := [(h0, ob 10 (uF (uF f 12 (iv lim)) 14 (iv x))), (oS, ob 5 (uF (uF fS 1 (iv n)) 2 (iv ec))), (oK, ob 9 (uF fK 0 (iv 0)))]) (by simp only [List.set]; rw [uF_same (k := 14)]) ?_
            refine S_iconst X dX11_set_77 ?_
            exact S_zret X (Or.inr rfl) (nle rfl) (nle rfl) dX11_set_78 (hPo _ _ (Or.inr (Or.inl (⟨rfl, rfl, by omega⟩))))
          by_cases hs_21 : v = 1
          · refine S_tswIn (j := 1) (tgt := 79) X dX11_set_44 hs_21 rfl (by decide) (by decide) ?_
            refine S_aload_n X dX11_set_79 rfl rfl ?_
            refine S_get X fgX11_59_10 0 rfl hf0 dX11_set_80 ?_
            refine S_iload_n X dX11_set_83 rfl rfl ?_
            refine S_put X fpX11_182_5 1 rfl FT_i dX11_set_84 ?_
            refine S_w (ws' := [(h0, ob 10 (uF (uF f 12 (iv lim)) 14 (iv ho))), (oS, ob 5 (uF (uF fS 1 (iv x)) 2 (iv ec))), (oK, ob 9 (uF fK 0 (iv 0)))]) (by simp only [List.set]; rw [uF_mv (j := 2) (k := 1) (by decide), uF_same (k := 1)]) ?_
            refine S_iconst X dX11_set_87 ?_
            exact S_zret X (Or.inr rfl) (nle rfl) (nle rfl) dX11_set_88 (hPo _ _ (Or.inr (Or.inr (Or.inl (⟨rfl, rfl, by omega⟩)))))
          by_cases hs_22 : v = 2
          · refine S_tswIn (j := 2) (tgt := 89) X dX11_set_44 hs_22 rfl (by decide) (by decide) ?_
            refine S_aload_n X dX11_set_89 rfl rfl ?_
            refine S_get X fgX11_59_10 0 rfl hf0 dX11_set_90 ?_
            refine S_iload_n X dX11_set_93 rfl rfl ?_
            refine S_put X fpX11_185_5 1 rfl FT_i dX11_set_94 ?_
            refine S_w (ws' := [(h0, ob 10 (uF (uF f 12 (iv lim)) 14 (iv ho))), (oS, ob 5 (uF (uF fS 1 (iv n)) 2 (iv x))), (oK, ob 9 (uF fK 0 (iv 0)))]) (by simp only [List.set]; rw [uF_same (k := 2)]) ?_
            refine S_iconst X dX11_set_97 ?_
            exact S_zret X (Or.inr rfl) (nle rfl) (nle rfl) dX11_set_98 (hPo _ _ (Or.inr (Or.inr (Or.inr (Or.inl (⟨rfl, rfl, by omega⟩))))))
          refine S_tswOut (tgt := 99) X dX11_set_44 (by omega) (by omega) (by decide) ?_
          refine S_aload_n X dX11_set_99 rfl rfl ?_
          refine S_iload_n X dX11_set_100 rfl rfl ?_
          refine S_put X fpX11_89_10 0 rfl FT_i dX11_set_101 ?_
          refine S_w (ws' := [(h0, ob 10 (uF (uF f 12 (iv x)) 14 (iv ho))), (oS, ob 5 (uF (uF fS 1 (iv n)) 2 (iv ec))), (oK, ob 9 (uF fK 0 (iv 0)))]) (by simp only [List.set]; rw [uF_mv (j := 14) (k := 12) (by decide), uF_same (k := 12)]) ?_
          refine S_iconst X dX11_set_104 ?_
          exact S_zret X (Or.inr rfl) (nle rfl) (nle rfl) dX11_set_105 (hPo _ _ (Or.inr (Or.inr (Or.inr (Or.inr (⟨rfl, rfl, by omega⟩))))))
        ·
          refine S_iconst X dX11_set_33 ?_
          exact S_zret X (Or.inl rfl) (nle rfl) (nle rfl) dX11_set_34 (hPo _ _ (Or.inl ⟨rfl, rfl, by omega⟩))
  ·
    refine S_iconst X dX11_set_4 ?_
    refine S_goto (tgt := 18) X dX11_set_5 (by decide) ?_
    refine S_istore_n X dX11_set_18 rfl (nle rfl) ?_
    refine S_iload_n X dX11_set_19 rfl rfl ?_
    refine S_iload_n X dX11_set_20 rfl rfl ?_
    refine S_icmp_lt (tgt := 33) X dX11_set_21 (by decide) (by omega) (by decide) (fun c_23 => ?_) (fun c_23 => ?_)
    ·
      refine S_iconst X dX11_set_33 ?_
      exact S_zret X (Or.inl rfl) (nle rfl) (nle rfl) dX11_set_34 (hPo _ _ (Or.inl ⟨rfl, rfl, by omega⟩))
    ·
      refine S_iload_n X dX11_set_24 rfl rfl ?_
      refine S_aload_n X dX11_set_25 rfl rfl ?_
      refine S_iload_n X dX11_set_26 rfl rfl ?_
      refine S_calli X (kX11_mostOf l h0 (uF (uF f 12 (iv lim)) 14 (iv ho)) lw v hf2 (by omega) (by omega)) (is := [0]) rfl (run_V X lkX11_179 0 rfl rfl (is := [0]) (avs := [iv v]) (rest := [iv x]) rfl rfl (nle rfl) ⟨nle rfl, nle rfl⟩ ⟨nle rfl, nle rfl⟩ dX11_set_27 (by decide) rfl) (fun z_26 u_24 hp_25 => ?_)
      obtain ⟨hz_27, hu_28⟩ := hp_25
      subst hz_27
      subst hu_28
      refine ⟨rfl, ?_⟩
      refine S_w (ws' := [(h0, ob 10 (uF (uF f 12 (iv lim)) 14 (iv ho))), (oS, ob 5 (uF (uF fS 1 (iv n)) 2 (iv ec))), (oK, ob 9 (uF fK 0 (iv kk)))]) rfl ?_
      obtain ⟨mo9, hmo9⟩ : ∃ z9, z9 = (if v = 0 then lw - 1 else if v = 1 then 30 else if v = 2 then 3 else if v = 3 then 999 else -1000000) := ⟨_, rfl⟩
      rw [← hmo9]
      have hmo8 : (v = 0 ∧ mo9 = lw - 1) ∨ (v = 1 ∧ mo9 = 30) ∨ (v = 2 ∧ mo9 = 3) ∨ (v = 3 ∧ mo9 = 999) ∨ (v ≠ 0 ∧ v ≠ 1 ∧ v ≠ 2 ∧ v ≠ 3 ∧ mo9 = -1000000) := by rw [hmo9]; (repeat' split) <;> omega
      refine S_icmp_le (tgt := 35) X dX11_set_30 (by decide) (by omega) (by omega) (fun c_29 => ?_) (fun c_29 => ?_)
      ·
        refine S_aload_n X dX11_set_35 rfl rfl ?_
        refine S_get X fgX11_85_10 0 rfl hf1 dX11_set_36 ?_
        refine S_iconst X dX11_set_39 ?_
        refine S_put X fpX11_143_9 2 rfl (FT_b (Or.inl rfl)) dX11_set_40 ?_
        refine S_w (ws' := [(h0, ob 10 (uF (uF f 12 (iv lim)) 14 (iv ho))), (oS, ob 5 (uF (uF fS 1 (iv n)) 2 (iv ec))), (oK, ob 9 (uF fK 0 (iv 0)))]) (by simp only [List.set]; rw [uF_same (k := 0)]) ?_
        refine S_iload_n X dX11_set_43 rfl rfl ?_
        by_cases hs_30 : v = 0
        · refine S_tswIn (j := 0) (tgt := 72) X dX11_set_44 hs_30 rfl (by decide) (by decide) ?_
          refine S_aload_n X dX11_set_72 rfl rfl ?_
          refine S_iload_n X dX11_set_73 rfl rfl ?_
          refine S_put X fpX11_93_10 0 rfl FT_i dX11_set_74 ?_
          refine S_w (ws' := [(h0, ob 10 (uF (uF f 12 (iv lim)) 14 (iv x))), (oS, ob 5 (uF (uF fS 1 (iv n)) 2 (iv ec))), (oK, ob 9 (uF fK 0 (iv 0)))]) (by simp only [List.set]; rw [uF_same (k := 14)]) ?_
          refine S_iconst X dX11_set_77 ?_
          exact S_zret X (Or.inr rfl) (nle rfl) (nle rfl) dX11_set_78 (hPo _ _ (Or.inr (Or.inl (⟨rfl, rfl, by omega⟩))))
        by_cases hs_31 : v = 1
        · refine S_tswIn (j := 1) (tgt := 79) X dX11_set_44 hs_31 rfl (by decide) (by decide) ?_
          refine S_aload_n X dX11_set_79 rfl rfl ?_
          refine S_get X fgX11_59_10 0 rfl hf0 dX11_set_80 ?_
          refine S_iload_n X dX11_set_83 rfl rfl ?_
          refine S_put X fpX11_182_5 1 rfl FT_i dX11_set_84 ?_
          refine S_w (ws' := [(h0, ob 10 (uF (uF f 12 (iv lim)) 14 (iv ho))), (oS, ob 5 (uF (uF fS 1 (iv x)) 2 (iv ec))), (oK, ob 9 (uF fK 0 (iv 0)))]) (by simp only [List.set]; rw [uF_mv (j := 2) (k := 1) (by decide), uF_same (k := 1)]) ?_
          refine S_iconst X dX11_set_87 ?_
          exact S_zret X (Or.inr rfl) (nle rfl) (nle rfl) dX11_set_88 (hPo _ _ (Or.inr (Or.inr (Or.inl (⟨rfl, rfl, by omega⟩)))))
        by_cases hs_32 : v = 2
        · refine S_tswIn (j := 2) (tgt := 89) X dX11_set_44 hs_32 rfl (by decide) (by decide) ?_
          refine S_aload_n X dX11_set_89 rfl rfl ?_
          refine S_get X fgX11_59_10 0 rfl hf0 dX11_set_90 ?_
          refine S_iload_n X dX11_set_93 rfl rfl ?_
          refine S_put X fpX11_185_5 1 rfl FT_i dX11_set_94 ?_
          refine S_w (ws' := [(h0, ob 10 (uF (uF f 12 (iv lim)) 14 (iv ho))), (oS, ob 5 (uF (uF fS 1 (iv n)) 2 (iv x))), (oK, ob 9 (uF fK 0 (iv 0)))]) (by simp only [List.set]; rw [uF_same (k := 2)]) ?_
          refine S_iconst X dX11_set_97 ?_
          exact S_zret X (Or.inr rfl) (nle rfl) (nle rfl) dX11_set_98 (hPo _ _ (Or.inr (Or.inr (Or.inr (Or.inl (⟨rfl, rfl, by omega⟩))))))
        refine S_tswOut (tgt := 99) X dX11_set_44 (by omega) (by omega) (by decide) ?_
        refine S_aload_n X dX11_set_99 rfl rfl ?_
        refine S_iload_n X dX11_set_100 rfl rfl ?_
        refine S_put X fpX11_89_10 0 rfl FT_i dX11_set_101 ?_
        refine S_w (ws' := [(h0, ob 10 (uF (uF f 12 (iv x)) 14 (iv ho))), (oS, ob 5 (uF (uF fS 1 (iv n)) 2 (iv ec))), (oK, ob 9 (uF fK 0 (iv 0)))]) (by simp only [List.set]; rw [uF_mv (j := 14) (k := 12) (by decide), uF_same (k := 12)]) ?_
        refine S_iconst X dX11_set_104 ?_
        exact S_zret X (Or.inr rfl) (nle rfl) (nle rfl) dX11_set_105 (hPo _ _ (Or.inr (Or.inr (Or.inr (Or.inr (⟨rfl, rfl, by omega⟩))))))
      ·
        refine S_iconst X dX11_set_33 ?_
        exact S_zret X (Or.inl rfl) (nle rfl) (nle rfl) dX11_set_34 (hPo _ _ (Or.inl ⟨rfl, rfl, by omega⟩))
set_option maxHeartbeats 4000000 in
set_option maxRecDepth 100000 in
theorem kX11_mayTell (l : Launch) (h0 : Nat) (f : Nat → AV) (oW : Nat) (fW : Nat → AV) (pl : Int) (q : Int) (v : Int) (x : Int) (hf0 : f 3 = rv oW) (hf1 : fW 0 = iv pl) (hpl : 0 ≤ pl ∧ pl ≤ 6) (hq : 0 ≤ q ∧ q < pl) (hv : inR v) (hx : inR x) : AMi l yX11_mayTell cX11_mayTell 4 .boolean 1 0 0 [rv h0, iv q, iv v, iv x] [(h0, ob 10 f), (oW, ob 7 fW)] (fun z u => (z = 0 ∧ u = [(h0, ob 10 f), (oW, ob 7 fW)] ∧ (¬ ((v = 0 ∧ -1 ≤ x ∧ x < pl ∧ x ≠ q) ∨ (v = 1 ∧ 0 ≤ x ∧ x ≤ 10) ∨ (v = 2 ∧ 0 ≤ x ∧ x ≤ 50)))) ∨ (z = 1 ∧ u = [(h0, ob 10 f), (oW, ob 7 fW)] ∧ ((v = 0 ∧ -1 ≤ x ∧ x < pl ∧ x ≠ q) ∨ (v = 1 ∧ 0 ≤ x ∧ x ≤ 10) ∨ (v = 2 ∧ 0 ≤ x ∧ x ≤ 50)))) := by
  refine AMi.of2 rfl (nle rfl) ?_
  intro D G A p e s m args below meth c Po hPo X
  refine S_iload_n X dX11_mayTell_0 rfl rfl ?_
  by_cases hs_1 : v = 0
  · refine S_tswIn (j := 0) (tgt := 28) X dX11_mayTell_1 hs_1 rfl (by decide) (by decide) ?_
    refine S_iload_n X dX11_mayTell_28 rfl rfl ?_
    refine S_iconst X dX11_mayTell_29 ?_
    refine S_icmp_eq (tgt := 46) X dX11_mayTell_30 (by decide) (by omega) (by decide) (fun c_2 => ?_) (fun c_2 => ?_)
    ·
      refine S_iconst X dX11_mayTell_46 ?_
      refine S_goto (tgt := 51) X dX11_mayTell_47 (by decide) ?_
      exact S_zret X (Or.inr rfl) (nle rfl) (nle rfl) dX11_mayTell_51 (hPo _ _ (Or.inr (⟨by first | rfl | omega, rfl, by first | rfl | assumption | omega⟩)))
    ·
      refine S_iload_n X dX11_mayTell_33 rfl rfl ?_
      refine S_iload_n X dX11_mayTell_34 rfl rfl ?_
      refine S_icmp_eq (tgt := 50) X dX11_mayTell_35 (by decide) (by omega) (by omega) (fun c_3 => ?_) (fun c_3 => ?_)
      ·
        refine S_iconst X dX11_mayTell_50 ?_
        exact S_zret X (Or.inl rfl) (nle rfl) (nle rfl) dX11_mayTell_51 (hPo _ _ (Or.inl (⟨by first | rfl | omega, rfl, by first | rfl | assumption | omega⟩)))
      ·
        refine S_aload_n X dX11_mayTell_38 rfl rfl ?_
        refine S_iload_n X dX11_mayTell_39 rfl rfl ?_
        refine S_calli X (kX11_isPlayer l h0 f oW fW pl x hf0 hf1 (by omega) (by omega)) (is := [0, 1]) rfl (run_V X lkX11_147 0 rfl rfl (is := [0, 1]) (avs := [iv x]) (rest := []) rfl rfl (nle rfl) ⟨nle rfl, nle rfl⟩ ⟨nle rfl, nle rfl⟩ dX11_mayTell_40 (by decide) rfl) (fun z_6 u_4 hp_5 => ?_)
        rcases hp_5 with ⟨hz_7, hu_8, hp_9⟩ | ⟨hz_10, hu_11, hp_12⟩
        ·
          subst hz_7
          subst hu_8
          refine ⟨rfl, ?_⟩
          refine S_w (ws' := [(h0, ob 10 f), (oW, ob 7 fW)]) rfl ?_
          refine S_if_eq (tgt := 50) X dX11_mayTell_43 (by decide) (by decide) (fun _ => ?_) (fun h9 => absurd h9 (by decide))
          refine S_iconst X dX11_mayTell_50 ?_
          exact S_zret X (Or.inl rfl) (nle rfl) (nle rfl) dX11_mayTell_51 (hPo _ _ (Or.inl (⟨by first | rfl | omega, rfl, by first | rfl | assumption | omega⟩)))
        ·
          subst hz_10
          subst hu_11
          refine ⟨rfl, ?_⟩
          refine S_w (ws' := [(h0, ob 10 f), (oW, ob 7 fW)]) rfl ?_
          refine S_if_eq (tgt := 50) X dX11_mayTell_43 (by decide) (by decide) (fun h9 => absurd h9 (by decide)) (fun _ => ?_)
          refine S_iconst X dX11_mayTell_46 ?_
          refine S_goto (tgt := 51) X dX11_mayTell_47 (by decide) ?_
          exact S_zret X (Or.inr rfl) (nle rfl) (nle rfl) dX11_mayTell_51 (hPo _ _ (Or.inr (⟨by first | rfl | omega, rfl, by first | rfl | assumption | omega⟩)))
  by_cases hs_15 : v = 1
  · refine S_tswIn (j := 1) (tgt := 52) X dX11_mayTell_1 hs_15 rfl (by decide) (by decide) ?_
    refine S_iload_n X dX11_mayTell_52 rfl rfl ?_
    refine S_if_lt (tgt := 66) X dX11_mayTell_53 (by decide) (by omega) (fun c_16 => ?_) (fun c_16 => ?_)
    ·
      refine S_iconst X dX11_mayTell_66 ?_
      exact S_zret X (Or.inl rfl) (nle rfl) (nle rfl) dX11_mayTell_67 (hPo _ _ (Or.inl (⟨by first | rfl | omega, rfl, by first | rfl | assumption | omega⟩)))
    ·
      refine S_iload_n X dX11_mayTell_56 rfl rfl ?_
      refine S_bipush X dX11_mayTell_57 rfl ?_
      refine S_icmp_gt (tgt := 66) X dX11_mayTell_59 (by decide) (by omega) (by decide) (fun c_17 => ?_) (fun c_17 => ?_)
      ·
        refine S_iconst X dX11_mayTell_66 ?_
        exact S_zret X (Or.inl rfl) (nle rfl) (nle rfl) dX11_mayTell_67 (hPo _ _ (Or.inl (⟨by first | rfl | omega, rfl, by first | rfl | assumption | omega⟩)))
      ·
        refine S_iconst X dX11_mayTell_62 ?_
        refine S_goto (tgt := 67) X dX11_mayTell_63 (by decide) ?_
        exact S_zret X (Or.inr rfl) (nle rfl) (nle rfl) dX11_mayTell_67 (hPo _ _ (Or.inr (⟨by first | rfl | omega, rfl, by first | rfl | assumption | omega⟩)))
  by_cases hs_18 : v = 2
  · refine S_tswIn (j := 2) (tgt := 68) X dX11_mayTell_1 hs_18 rfl (by decide) (by decide) ?_
    refine S_iload_n X dX11_mayTell_68 rfl rfl ?_
    refine S_if_lt (tgt := 82) X dX11_mayTell_69 (by decide) (by omega) (fun c_19 => ?_) (fun c_19 => ?_)
    ·
      refine S_iconst X dX11_mayTell_82 ?_
      exact S_zret X (Or.inl rfl) (nle rfl) (nle rfl) dX11_mayTell_83 (hPo _ _ (Or.inl (⟨by first | rfl | omega, rfl, by first | rfl | assumption | omega⟩)))
    ·
      refine S_iload_n X dX11_mayTell_72 rfl rfl ?_
      refine S_bipush X dX11_mayTell_73 rfl ?_
      refine S_icmp_gt (tgt := 82) X dX11_mayTell_75 (by decide) (by omega) (by decide) (fun c_20 => ?_) (fun c_20 => ?_)
      ·
        refine S_iconst X dX11_mayTell_82 ?_
        exact S_zret X (Or.inl rfl) (nle rfl) (nle rfl) dX11_mayTell_83 (hPo _ _ (Or.inl (⟨by first | rfl | omega, rfl, by first | rfl | assumption | omega⟩)))
      ·
        refine S_iconst X dX11_mayTell_78 ?_
        refine S_goto (tgt := 83) X dX11_mayTell_79 (by decide) ?_
        exact S_zret X (Or.inr rfl) (nle rfl) (nle rfl) dX11_mayTell_83 (hPo _ _ (Or.inr (⟨by first | rfl | omega, rfl, by first | rfl | assumption | omega⟩)))
  refine S_tswOut (tgt := 84) X dX11_mayTell_1 (by omega) (by omega) (by decide) ?_
  refine S_iconst X dX11_mayTell_84 ?_
  exact S_zret X (Or.inl rfl) (nle rfl) (nle rfl) dX11_mayTell_85 (hPo _ _ (Or.inl (⟨by first | rfl | omega, rfl, by first | rfl | assumption | omega⟩)))
set_option maxHeartbeats 4000000 in
set_option maxRecDepth 100000 in
theorem kX11_tell (l : Launch) (h0 : Nat) (f : Nat → AV) (oW : Nat) (fW : Nat → AV) (fS : Nat → AV) (pl : Int) (oS : Nat) (aF : Nat) (aH : Nat) (aL : Nat) (Fo : Int → Int) (Ho : Int → Int) (Lt : Int → Int) (oK : Nat) (fK : Nat → AV) (kk : Int) (q : Int) (v : Int) (x : Int) (hf0 : f 3 = rv oW) (hf1 : f 7 = rv oS) (hf2 : f 11 = rv oK) (hf3 : fW 0 = iv pl) (hf4 : fS 5 = rv aF) (hf5 : fS 6 = rv aH) (hf6 : fS 7 = rv aL) (hpl : 0 ≤ pl ∧ pl ≤ 6) (hx_q : inR q) (hx_v : inR v) (hx_x : inR x) : AMi l yX11_tell cX11_tell 4 .boolean 2 0 0 [rv h0, iv q, iv v, iv x] [(h0, ob 10 f), (oW, ob 7 fW), (oS, ob 5 fS), (aF, ar 6 Fo), (aH, ar 6 Ho), (aL, ar 6 Lt), (oK, ob 9 (uF fK 0 (iv kk)))] (fun z u => (z = 0 ∧ u = [(h0, ob 10 f), (oW, ob 7 fW), (oS, ob 5 fS), (aF, ar 6 Fo), (aH, ar 6 Ho), (aL, ar 6 Lt), (oK, ob 9 (uF fK 0 (iv kk)))] ∧ (¬ ((0 ≤ q ∧ q < pl) ∧ ((v = 0 ∧ -1 ≤ x ∧ x < pl ∧ x ≠ q) ∨ (v = 1 ∧ 0 ≤ x ∧ x ≤ 10) ∨ (v = 2 ∧ 0 ≤ x ∧ x ≤ 50))))) ∨ (z = 1 ∧ u = [(h0, ob 10 f), (oW, ob 7 fW), (oS, ob 5 fS), (aF, ar 6 (uZ Fo q x)), (aH, ar 6 Ho), (aL, ar 6 Lt), (oK, ob 9 (uF fK 0 (iv 0)))] ∧ ((0 ≤ q ∧ q < pl) ∧ v = 0 ∧ -1 ≤ x ∧ x < pl ∧ x ≠ q)) ∨ (z = 1 ∧ u = [(h0, ob 10 f), (oW, ob 7 fW), (oS, ob 5 fS), (aF, ar 6 Fo), (aH, ar 6 (uZ Ho q x)), (aL, ar 6 Lt), (oK, ob 9 (uF fK 0 (iv 0)))] ∧ ((0 ≤ q ∧ q < pl) ∧ v = 1 ∧ 0 ≤ x ∧ x ≤ 10)) ∨ (z = 1 ∧ u = [(h0, ob 10 f), (oW, ob 7 fW), (oS, ob 5 fS), (aF, ar 6 Fo), (aH, ar 6 Ho), (aL, ar 6 (uZ Lt q x)), (oK, ob 9 (uF fK 0 (iv 0)))] ∧ ((0 ≤ q ∧ q < pl) ∧ v = 2 ∧ 0 ≤ x ∧ x ≤ 50))) := by
  refine AMi.of2 rfl (nle rfl) ?_
  intro D G A p e s m args below meth c Po hPo X
  refine S_aload_n X dX11_tell_0 rfl rfl ?_
  refine S_iload_n X dX11_tell_1 rfl rfl ?_
  refine S_calli X (kX11_isPlayer l h0 f oW fW pl q hf0 hf3 (by omega) (by omega)) (is := [0, 1]) rfl (run_V X lkX11_147 0 rfl rfl (is := [0, 1]) (avs := [iv q]) (rest := []) rfl rfl (nle rfl) ⟨nle rfl, nle rfl⟩ ⟨nle rfl, nle rfl⟩ dX11_tell_2 (by decide) rfl) (fun z_3 u_1 hp_2 => ?_)
  rcases hp_2 with ⟨hz_4, hu_5, hp_6⟩ | ⟨hz_7, hu_8, hp_9⟩
  ·
    subst hz_4
    subst hu_5
    refine ⟨rfl, ?_⟩
    refine S_w (ws' := [(h0, ob 10 f), (oW, ob 7 fW), (oS, ob 5 fS), (aF, ar 6 Fo), (aH, ar 6 Ho), (aL, ar 6 Lt), (oK, ob 9 (uF fK 0 (iv kk)))]) rfl ?_
    refine S_if_eq (tgt := 18) X dX11_tell_5 (by decide) (by decide) (fun _ => ?_) (fun h9 => absurd h9 (by decide))
    refine S_iconst X dX11_tell_18 ?_
    exact S_zret X (Or.inl rfl) (nle rfl) (nle rfl) dX11_tell_19 (hPo _ _ (Or.inl ⟨rfl, rfl, by omega⟩))
  ·
    subst hz_7
    subst hu_8
    refine ⟨rfl, ?_⟩
    refine S_w (ws' := [(h0, ob 10 f), (oW, ob 7 fW), (oS, ob 5 fS), (aF, ar 6 Fo), (aH, ar 6 Ho), (aL, ar 6 Lt), (oK, ob 9 (uF fK 0 (iv kk)))]) rfl ?_
    refine S_if_eq (tgt := 18) X dX11_tell_5 (by decide) (by decide) (fun h9 => absurd h9 (by decide)) (fun _ => ?_)
    refine S_aload_n X dX11_tell_8 rfl rfl ?_
    refine S_iload_n X dX11_tell_9 rfl rfl ?_
    refine S_iload_n X dX11_tell_10 rfl rfl ?_
    refine S_iload_n X dX11_tell_11 rfl rfl ?_
    refine S_calli X (kX11_mayTell l h0 f oW fW pl q v x hf0 hf3 (by omega) (by omega) (by omega) (by omega)) (is := [0, 1]) rfl (run_V X lkX11_189 0 rfl rfl (is := [0, 1]) (avs := [iv q, iv v, iv x]) (rest := []) rfl rfl (nle rfl) ⟨nle rfl, nle rfl⟩ ⟨nle rfl, nle rfl⟩ dX11_tell_12 (by decide) rfl) (fun z_14 u_12 hp_13 => ?_)
    rcases hp_13 with ⟨hz_15, hu_16, hp_17⟩ | ⟨hz_18, hu_19, hp_20⟩
    ·
      subst hz_15
      subst hu_16
      refine ⟨rfl, ?_⟩
      refine S_w (ws' := [(h0, ob 10 f), (oW, ob 7 fW), (oS, ob 5 fS), (aF, ar 6 Fo), (aH, ar 6 Ho), (aL, ar 6 Lt), (oK, ob 9 (uF fK 0 (iv kk)))]) rfl ?_
      refine S_if_ne (tgt := 20) X dX11_tell_15 (by decide) (by decide) (fun h9 => absurd h9 (by decide)) (fun _ => ?_)
      refine S_iconst X dX11_tell_18 ?_
      exact S_zret X (Or.inl rfl) (nle rfl) (nle rfl) dX11_tell_19 (hPo _ _ (Or.inl ⟨rfl, rfl, by omega⟩))
    ·
      subst hz_18
      subst hu_19
      refine ⟨rfl, ?_⟩
      refine S_w (ws' := [(h0, ob 10 f), (oW, ob 7 fW), (oS, ob 5 fS), (aF, ar 6 Fo), (aH, ar 6 Ho), (aL, ar 6 Lt), (oK, ob 9 (uF fK 0 (iv kk)))]) rfl ?_
      refine S_if_ne (tgt := 20) X dX11_tell_15 (by decide) (by decide) (fun _ => ?_) (fun h9 => absurd h9 (by decide))
      refine S_aload_n X dX11_tell_20 rfl rfl ?_
      refine S_get X fgX11_85_10 0 rfl hf2 dX11_tell_21 ?_
      refine S_iconst X dX11_tell_24 ?_
      refine S_put X fpX11_143_9 6 rfl (FT_b (Or.inl rfl)) dX11_tell_25 ?_
      refine S_w (ws' := [(h0, ob 10 f), (oW, ob 7 fW), (oS, ob 5 fS), (aF, ar 6 Fo), (aH, ar 6 Ho), (aL, ar 6 Lt), (oK, ob 9 (uF fK 0 (iv 0)))]) (by simp only [List.set]; rw [uF_same (k := 0)]) ?_
      refine S_iload_n X dX11_tell_28 rfl rfl ?_
      by_cases hs_23 : v = 0
      · refine S_lkp (v := 0) (tgt := 56) X dX11_tell_29 hs_23 (by decide) rfl rfl (by decide) ?_
        refine S_aload_n X dX11_tell_56 rfl rfl ?_
        refine S_get X fgX11_59_10 0 rfl hf1 dX11_tell_57 ?_
        refine S_get X fgX11_168_5 2 rfl hf4 dX11_tell_60 ?_
        refine S_iload_n X dX11_tell_63 rfl rfl ?_
        refine S_iload_n X dX11_tell_64 rfl rfl ?_
        refine S_iast X 3 rfl (by omega) (by omega) (nle rfl) dX11_tell_65 ?_
        refine S_w (ws' := [(h0, ob 10 f), (oW, ob 7 fW), (oS, ob 5 fS), (aF, ar 6 (uZ Fo q x)), (aH, ar 6 Ho), (aL, ar 6 Lt), (oK, ob 9 (uF fK 0 (iv 0)))]) rfl ?_
        refine S_iconst X dX11_tell_66 ?_
        exact S_zret X (Or.inr rfl) (nle rfl) (nle rfl) dX11_tell_67 (hPo _ _ (Or.inr (Or.inl (⟨rfl, rfl, by omega⟩))))
      by_cases hs_24 : v = 1
      · refine S_lkp (v := 1) (tgt := 68) X dX11_tell_29 hs_24 (by decide) rfl rfl (by decide) ?_
        refine S_aload_n X dX11_tell_68 rfl rfl ?_
        refine S_get X fgX11_59_10 0 rfl hf1 dX11_tell_69 ?_
        refine S_get X fgX11_171_5 2 rfl hf5 dX11_tell_72 ?_
        refine S_iload_n X dX11_tell_75 rfl rfl ?_
        refine S_iload_n X dX11_tell_76 rfl rfl ?_
        refine S_iast X 4 rfl (by omega) (by omega) (nle rfl) dX11_tell_77 ?_
        refine S_w (ws' := [(h0, ob 10 f), (oW, ob 7 fW), (oS, ob 5 fS), (aF, ar 6 Fo), (aH, ar 6 (uZ Ho q x)), (aL, ar 6 Lt), (oK, ob 9 (uF fK 0 (iv 0)))]) rfl ?_
        refine S_iconst X dX11_tell_78 ?_
        exact S_zret X (Or.inr rfl) (nle rfl) (nle rfl) dX11_tell_79 (hPo _ _ (Or.inr (Or.inr (Or.inl (⟨rfl, rfl, by omega⟩)))))
      refine S_lkpD (off := 51) (tgt := 80) X dX11_tell_29 (by omega) rfl (by show (if (0 : Int) = v then (27 : Int) else if (1 : Int) = v then (39 : Int) else (51 : Int)) = 51; rw [if_neg (fun h9 => hs_23 h9.symm), if_neg (fun h9 => hs_24 h9.symm)]) (by decide) ?_
      refine S_aload_n X dX11_tell_80 rfl rfl ?_
      refine S_get X fgX11_59_10 0 rfl hf1 dX11_tell_81 ?_
      refine S_get X fgX11_174_5 2 rfl hf6 dX11_tell_84 ?_
      refine S_iload_n X dX11_tell_87 rfl rfl ?_
      refine S_iload_n X dX11_tell_88 rfl rfl ?_
      refine S_iast X 5 rfl (by omega) (by omega) (nle rfl) dX11_tell_89 ?_
      refine S_w (ws' := [(h0, ob 10 f), (oW, ob 7 fW), (oS, ob 5 fS), (aF, ar 6 Fo), (aH, ar 6 Ho), (aL, ar 6 (uZ Lt q x)), (oK, ob 9 (uF fK 0 (iv 0)))]) rfl ?_
      refine S_iconst X dX11_tell_90 ?_
      exact S_zret X (Or.inr rfl) (nle rfl) (nle rfl) dX11_tell_91 (hPo _ _ (Or.inr (Or.inr (Or.inr (⟨rfl, rfl, by omega⟩)))))
set_option maxHeartbeats 4000000 in
set_option maxRecDepth 100000 in
theorem kX11_mark (l : Launch) (h0 : Nat) (f : Nat → AV) (oW : Nat) (fW : Nat → AV) (fS : Nat → AV) (pl : Int) (mk : Int) (oS : Nat) (oK : Nat) (fK : Nat → AV) (kk : Int) (b : Int) (v : Int) (hf0 : f 3 = rv oW) (hf1 : f 7 = rv oS) (hf2 : f 11 = rv oK) (hf3 : fW 0 = iv pl) (hpl : 0 ≤ pl ∧ pl ≤ 6) (hx_b : inR b) (hv : v = 0 ∨ v = 1) : AMi l yX11_mark cX11_mark 3 .boolean 1 0 0 [rv h0, iv b, iv v] [(h0, ob 10 f), (oW, ob 7 fW), (oS, ob 5 (uF fS 3 (iv mk))), (oK, ob 9 (uF fK 0 (iv kk)))] (fun z u => (z = 0 ∧ u = [(h0, ob 10 f), (oW, ob 7 fW), (oS, ob 5 (uF fS 3 (iv mk))), (oK, ob 9 (uF fK 0 (iv kk)))] ∧ (pl = 0 ∨ b < 0 ∨ 29 < b ∨ zAnd (zShr mk b) 1 = v)) ∨ (z = 1 ∧ u = [(h0, ob 10 f), (oW, ob 7 fW), (oS, ob 5 (uF fS 3 (iv (zXor mk (zShl 1 b))))), (oK, ob 9 (uF fK 0 (iv 0)))] ∧ (1 ≤ pl ∧ 0 ≤ b ∧ b ≤ 29 ∧ zAnd (zShr mk b) 1 ≠ v))) := by
  refine AMi.of2 rfl (nle rfl) ?_
  intro D G A p e s m args below meth c Po hPo X
  refine S_aload_n X dX11_mark_0 rfl rfl ?_
  refine S_get X fgX11_35_10 0 rfl hf0 dX11_mark_1 ?_
  refine S_get X fgX11_115_7 1 rfl hf3 dX11_mark_4 ?_
  refine S_if_eq (tgt := 32) X dX11_mark_7 (by decide) (by omega) (fun c_1 => ?_) (fun c_1 => ?_)
  ·
    refine S_iconst X dX11_mark_32 ?_
    exact S_zret X (Or.inl rfl) (nle rfl) (nle rfl) dX11_mark_33 (hPo _ _ (Or.inl (⟨by first | rfl | omega, rfl, by first | rfl | assumption | omega⟩)))
  ·
    refine S_iload_n X dX11_mark_10 rfl rfl ?_
    refine S_if_lt (tgt := 32) X dX11_mark_11 (by decide) (by omega) (fun c_2 => ?_) (fun c_2 => ?_)
    ·
      refine S_iconst X dX11_mark_32 ?_
      exact S_zret X (Or.inl rfl) (nle rfl) (nle rfl) dX11_mark_33 (hPo _ _ (Or.inl (⟨by first | rfl | omega, rfl, by first | rfl | assumption | omega⟩)))
    ·
      refine S_iload_n X dX11_mark_14 rfl rfl ?_
      refine S_bipush X dX11_mark_15 rfl ?_
      refine S_icmp_ge (tgt := 32) X dX11_mark_17 (by decide) (by omega) (by decide) (fun c_3 => ?_) (fun c_3 => ?_)
      ·
        refine S_iconst X dX11_mark_32 ?_
        exact S_zret X (Or.inl rfl) (nle rfl) (nle rfl) dX11_mark_33 (hPo _ _ (Or.inl (⟨by first | rfl | omega, rfl, by first | rfl | assumption | omega⟩)))
      ·
        have hza := zAnd1 (zShr mk b)
        refine S_aload_n X dX11_mark_20 rfl rfl ?_
        refine S_get X fgX11_59_10 0 rfl hf1 dX11_mark_21 ?_
        refine S_iload_n X dX11_mark_24 rfl rfl ?_
        refine S_calli X (kX6_isMarked l (uF fS 3 (iv mk)) mk oS b rfl) (is := [2]) rfl (run_V X lkX11_193 2 rfl rfl (is := [2]) (avs := [iv b]) (rest := []) rfl rfl (nle rfl) ⟨nle rfl, nle rfl⟩ ⟨nle rfl, nle rfl⟩ dX11_mark_25 (by decide) rfl) (fun z_6 u_4 hp_5 => ?_)
        rcases hp_5 with ⟨hz_7, hu_8, hq_9⟩ | ⟨hz_10, hu_11, hq_12⟩
        ·
          subst hz_7
          subst hu_8
          refine ⟨rfl, ?_⟩
          refine S_w (ws' := [(h0, ob 10 f), (oW, ob 7 fW), (oS, ob 5 (uF fS 3 (iv mk))), (oK, ob 9 (uF fK 0 (iv kk)))]) rfl ?_
          have hmz : ¬ zAnd (zShr mk b) 1 = 1 := of_decide_eq_false hq_9
          refine S_iload_n X dX11_mark_28 rfl rfl ?_
          refine S_icmp_ne (tgt := 34) X dX11_mark_29 (by decide) (by decide) (by omega) (fun c_13 => ?_) (fun c_13 => ?_)
          ·
            refine S_aload_n X dX11_mark_34 rfl rfl ?_
            refine S_get X fgX11_59_10 0 rfl hf1 dX11_mark_35 ?_
            refine S_dup X dX11_mark_38 ?_
            refine S_get (v := iv mk) X fgX11_196_5 2 rfl rfl dX11_mark_39 ?_
            refine S_iconst X dX11_mark_42 ?_
            refine S_iload_n X dX11_mark_43 rfl rfl ?_
            refine S_ishl X dX11_mark_44 ?_
            refine S_ixor X dX11_mark_45 ?_
            refine S_put X fpX11_196_5 2 rfl FT_i dX11_mark_46 ?_
            refine S_w (ws' := [(h0, ob 10 f), (oW, ob 7 fW), (oS, ob 5 (uF fS 3 (iv (zXor mk (zShl 1 b))))), (oK, ob 9 (uF fK 0 (iv kk)))]) (by simp only [List.set]; rw [uF_same (k := 3)]) ?_
            refine S_aload_n X dX11_mark_49 rfl rfl ?_
            refine S_get X fgX11_85_10 0 rfl hf2 dX11_mark_50 ?_
            refine S_iconst X dX11_mark_53 ?_
            refine S_put X fpX11_143_9 3 rfl (FT_b (Or.inl rfl)) dX11_mark_54 ?_
            refine S_w (ws' := [(h0, ob 10 f), (oW, ob 7 fW), (oS, ob 5 (uF fS 3 (iv (zXor mk (zShl 1 b))))), (oK, ob 9 (uF fK 0 (iv 0)))]) (by simp only [List.set]; rw [uF_same (k := 0)]) ?_
            refine S_iconst X dX11_mark_57 ?_
            exact S_zret X (Or.inr rfl) (nle rfl) (nle rfl) dX11_mark_58 (hPo _ _ (Or.inr (⟨by first | rfl | omega, rfl, by first | rfl | assumption | omega⟩)))
          ·
            refine S_iconst X dX11_mark_32 ?_
            exact S_zret X (Or.inl rfl) (nle rfl) (nle rfl) dX11_mark_33 (hPo _ _ (Or.inl (⟨by first | rfl | omega, rfl, by first | rfl | assumption | omega⟩)))
        ·
          subst hz_10
          subst hu_11
          refine ⟨rfl, ?_⟩
          refine S_w (ws' := [(h0, ob 10 f), (oW, ob 7 fW), (oS, ob 5 (uF fS 3 (iv mk))), (oK, ob 9 (uF fK 0 (iv kk)))]) rfl ?_
          have hmz : zAnd (zShr mk b) 1 = 1 := of_decide_eq_true hq_12
          refine S_iload_n X dX11_mark_28 rfl rfl ?_
          refine S_icmp_ne (tgt := 34) X dX11_mark_29 (by decide) (by decide) (by omega) (fun c_14 => ?_) (fun c_14 => ?_)
          ·
            refine S_aload_n X dX11_mark_34 rfl rfl ?_
            refine S_get X fgX11_59_10 0 rfl hf1 dX11_mark_35 ?_
            refine S_dup X dX11_mark_38 ?_
            refine S_get (v := iv mk) X fgX11_196_5 2 rfl rfl dX11_mark_39 ?_
            refine S_iconst X dX11_mark_42 ?_
            refine S_iload_n X dX11_mark_43 rfl rfl ?_
            refine S_ishl X dX11_mark_44 ?_
            refine S_ixor X dX11_mark_45 ?_
            refine S_put X fpX11_196_5 2 rfl FT_i dX11_mark_46 ?_
            refine S_w (ws' := [(h0, ob 10 f), (oW, ob 7 fW), (oS, ob 5 (uF fS 3 (iv (zXor mk (zShl 1 b))))), (oK, ob 9 (uF fK 0 (iv kk)))]) (by simp only [List.set]; rw [uF_same (k := 3)]) ?_
            refine S_aload_n X dX11_mark_49 rfl rfl ?_
            refine S_get X fgX11_85_10 0 rfl hf2 dX11_mark_50 ?_
            refine S_iconst X dX11_mark_53 ?_
            refine S_put X fpX11_143_9 3 rfl (FT_b (Or.inl rfl)) dX11_mark_54 ?_
            refine S_w (ws' := [(h0, ob 10 f), (oW, ob 7 fW), (oS, ob 5 (uF fS 3 (iv (zXor mk (zShl 1 b))))), (oK, ob 9 (uF fK 0 (iv 0)))]) (by simp only [List.set]; rw [uF_same (k := 0)]) ?_
            refine S_iconst X dX11_mark_57 ?_
            exact S_zret X (Or.inr rfl) (nle rfl) (nle rfl) dX11_mark_58 (hPo _ _ (Or.inr (⟨by first | rfl | omega, rfl, by first | rfl | assumption | omega⟩)))
          ·
            refine S_iconst X dX11_mark_32 ?_
            exact S_zret X (Or.inl rfl) (nle rfl) (nle rfl) dX11_mark_33 (hPo _ _ (Or.inl (⟨by first | rfl | omega, rfl, by first | rfl | assumption | omega⟩)))
set_option maxHeartbeats 4000000 in
set_option maxRecDepth 100000 in
theorem kX11_undo (l : Launch) (h0 : Nat) (f : Nat → AV) (fS : Nat → AV) (oS : Nat) (aB : Nat) (B : Int → Int) (oK : Nat) (fK : Nat → AV) (kk : Int) (oD : Nat) (fD : Nat → AV) (dR : Nat) (DR : Int → Int) (td : Int) (un : Int) (hi : Int) (im : Int) (nx : Int) (hf0 : f 7 = rv oS) (hf1 : f 5 = rv oD) (hf2 : f 11 = rv oK) (hf3 : fD 6 = rv dR) (hf4 : fS 4 = rv aB) (hnx : 0 ≤ nx ∧ nx ≤ 59) (hun : 0 ≤ un ∧ un ≤ 60) : AMi l yX11_undo cX11_undo 1 .int 2 0 0 [rv h0] [(h0, ob 10 f), (oD, ob 0 (uF (uF (uF (uF (uF fD 0 (iv td)) 1 (iv un)) 2 (iv hi)) 3 (iv im)) 4 (iv nx))), (dR, ar 360 DR), (oS, ob 5 fS), (aB, ar 6 B), (oK, ob 9 (uF fK 0 (iv kk)))] (fun z u => (z = -1 ∧ u = [(h0, ob 10 f), (oD, ob 0 (uF (uF (uF (uF (uF fD 0 (iv td)) 1 (iv un)) 2 (iv hi)) 3 (iv im)) 4 (iv nx))), (dR, ar 360 DR), (oS, ob 5 fS), (aB, ar 6 B), (oK, ob 9 (uF fK 0 (iv kk)))] ∧ un = 0) ∨ (z = td - 1 ∧ u = [(h0, ob 10 f), (oD, ob 0 (uF (uF (uF (uF (uF fD 0 (iv (td - 1))) 1 (iv (un - 1))) 2 (iv hi)) 3 (iv im)) 4 (iv ((nx + 60 - 1).tmod 60)))), (dR, ar 360 DR), (oS, ob 5 fS), (aB, ar 6 (cpZ DR B ((nx + 60 - 1).tmod 60 * 6) 0 6)), (oK, ob 9 (uF fK 0 (iv 0)))] ∧ 1 ≤ un)) := by
  refine AMi.of2 rfl (nle rfl) ?_
  intro D G A p e s m args below meth c Po hPo X
  refine S_aload_n X dX11_undo_0 rfl rfl ?_
  refine S_get X fgX11_48_10 0 rfl hf1 dX11_undo_1 ?_
  refine S_get (v := iv un) X fgX11_216_0 1 rfl rfl dX11_undo_4 ?_
  refine S_if_ne (tgt := 12) X dX11_undo_7 (by decide) (by omega) (fun c_1 => ?_) (fun c_1 => ?_)
  ·
    refine S_aload_n X dX11_undo_12 rfl rfl ?_
    refine S_get X fgX11_48_10 0 rfl hf1 dX11_undo_13 ?_
    refine S_aload_n X dX11_undo_16 rfl rfl ?_
    refine S_get X fgX11_59_10 0 rfl hf0 dX11_undo_17 ?_
    refine S_get X fgX11_158_5 3 rfl hf4 dX11_undo_20 ?_
    refine S_callv X (kX0_takeBack l oD fD dR DR td un hi im nx aB B hf3 (by omega)) (is := [1, 2, 4]) rfl (run_V X lkX11_219 1 rfl rfl (is := [1, 2, 4]) (avs := [rv aB]) (rest := []) rfl rfl (nle rfl) ⟨nle rfl, nle rfl⟩ ⟨nle rfl, nle rfl⟩ dX11_undo_23 (by decide) rfl) (fun u_2 hp_3 => ?_)
    have hu_6 := hp_3
    subst hu_6
    refine ⟨rfl, ?_⟩
    refine S_w (ws' := [(h0, ob 10 f), (oD, ob 0 (uF (uF (uF (uF (uF fD 0 (iv (td - 1))) 1 (iv (un - 1))) 2 (iv hi)) 3 (iv im)) 4 (iv ((nx + 60 - 1).tmod 60)))), (dR, ar 360 DR), (oS, ob 5 fS), (aB, ar 6 (cpZ DR B ((nx + 60 - 1).tmod 60 * 6) 0 6)), (oK, ob 9 (uF fK 0 (iv kk)))]) rfl ?_
    refine S_aload_n X dX11_undo_26 rfl rfl ?_
    refine S_get X fgX11_85_10 0 rfl hf2 dX11_undo_27 ?_
    refine S_iconst X dX11_undo_30 ?_
    refine S_put X fpX11_143_9 5 rfl (FT_b (Or.inl rfl)) dX11_undo_31 ?_
    refine S_w (ws' := [(h0, ob 10 f), (oD, ob 0 (uF (uF (uF (uF (uF fD 0 (iv (td - 1))) 1 (iv (un - 1))) 2 (iv hi)) 3 (iv im)) 4 (iv ((nx + 60 - 1).tmod 60)))), (dR, ar 360 DR), (oS, ob 5 fS), (aB, ar 6 (cpZ DR B ((nx + 60 - 1).tmod 60 * 6) 0 6)), (oK, ob 9 (uF fK 0 (iv 0)))]) (by simp only [List.set]; rw [uF_same (k := 0)]) ?_
    refine S_aload_n X dX11_undo_34 rfl rfl ?_
    refine S_get X fgX11_48_10 0 rfl hf1 dX11_undo_35 ?_
    refine S_get (v := iv (td - 1)) X fgX11_205_0 1 rfl rfl dX11_undo_38 ?_
    exact S_iret X (nle rfl) (nle rfl) dX11_undo_41 (hPo _ _ (Or.inr (⟨by first | rfl | omega, rfl, by first | rfl | assumption | omega⟩)))
  ·
    refine S_iconst X dX11_undo_10 ?_
    exact S_iret X (nle rfl) (nle rfl) dX11_undo_11 (hPo _ _ (Or.inl (⟨by first | rfl | omega, rfl, by first | rfl | assumption | omega⟩)))
set_option maxHeartbeats 4000000 in
set_option maxRecDepth 100000 in
theorem kX11_image (l : Launch) (h0 : Nat) (f : Nat → AV) (oW : Nat) (fW : Nat → AV) (fS : Nat → AV) (pl : Int) (oS : Nat) (aB : Nat) (B : Int → Int) (oD : Nat) (fD : Nat → AV) (dI : Nat) (DI : Int → Int) (td : Int) (un : Int) (hi : Int) (im : Int) (nx : Int) (hf0 : f 3 = rv oW) (hf1 : f 7 = rv oS) (hf2 : f 5 = rv oD) (hf3 : fW 0 = iv pl) (hf4 : fD 5 = rv dI) (hf5 : fS 4 = rv aB) (hpl : 0 ≤ pl ∧ pl ≤ 6) : AMi l yX11_image cX11_image 1 .int 2 0 0 [rv h0] [(h0, ob 10 f), (oW, ob 7 fW), (oD, ob 0 (uF (uF (uF (uF (uF fD 0 (iv td)) 1 (iv un)) 2 (iv hi)) 3 (iv im)) 4 (iv nx))), (dI, ar 6 DI), (oS, ob 5 fS), (aB, ar 6 B)] (fun z u => (z = -1 ∧ u = [(h0, ob 10 f), (oW, ob 7 fW), (oD, ob 0 (uF (uF (uF (uF (uF fD 0 (iv td)) 1 (iv un)) 2 (iv hi)) 3 (iv im)) 4 (iv nx))), (dI, ar 6 DI), (oS, ob 5 fS), (aB, ar 6 B)] ∧ pl = 0) ∨ (z = td ∧ u = [(h0, ob 10 f), (oW, ob 7 fW), (oD, ob 0 (uF (uF (uF (uF (uF fD 0 (iv td)) 1 (iv un)) 2 (iv 1)) 3 (iv td)) 4 (iv nx))), (dI, ar 6 (cpZ B DI 0 0 6)), (oS, ob 5 fS), (aB, ar 6 B)] ∧ 1 ≤ pl)) := by
  refine AMi.of2 rfl (nle rfl) ?_
  intro D G A p e s m args below meth c Po hPo X
  refine S_aload_n X dX11_image_0 rfl rfl ?_
  refine S_get X fgX11_35_10 0 rfl hf0 dX11_image_1 ?_
  refine S_get X fgX11_115_7 1 rfl hf3 dX11_image_4 ?_
  refine S_if_ne (tgt := 12) X dX11_image_7 (by decide) (by omega) (fun c_1 => ?_) (fun c_1 => ?_)
  ·
    refine S_aload_n X dX11_image_12 rfl rfl ?_
    refine S_get X fgX11_48_10 0 rfl hf2 dX11_image_13 ?_
    refine S_aload_n X dX11_image_16 rfl rfl ?_
    refine S_get X fgX11_59_10 0 rfl hf1 dX11_image_17 ?_
    refine S_get X fgX11_158_5 4 rfl hf5 dX11_image_20 ?_
    refine S_callv X (kX0_takeImage l oD fD dI DI td un hi im nx aB B hf4) (is := [2, 3, 5]) rfl (run_V X lkX11_222 2 rfl rfl (is := [2, 3, 5]) (avs := [rv aB]) (rest := []) rfl rfl (nle rfl) ⟨nle rfl, nle rfl⟩ ⟨nle rfl, nle rfl⟩ dX11_image_23 (by decide) rfl) (fun u_2 hp_3 => ?_)
    have hu_6 := hp_3
    subst hu_6
    refine ⟨rfl, ?_⟩
    refine S_w (ws' := [(h0, ob 10 f), (oW, ob 7 fW), (oD, ob 0 (uF (uF (uF (uF (uF fD 0 (iv td)) 1 (iv un)) 2 (iv 1)) 3 (iv td)) 4 (iv nx))), (dI, ar 6 (cpZ B DI 0 0 6)), (oS, ob 5 fS), (aB, ar 6 B)]) rfl ?_
    refine S_aload_n X dX11_image_26 rfl rfl ?_
    refine S_get X fgX11_48_10 0 rfl hf2 dX11_image_27 ?_
    refine S_get (v := iv td) X fgX11_205_0 2 rfl rfl dX11_image_30 ?_
    exact S_iret X (nle rfl) (nle rfl) dX11_image_33 (hPo _ _ (Or.inr (⟨by first | rfl | omega, rfl, by first | rfl | assumption | omega⟩)))
  ·
    refine S_iconst X dX11_image_10 ?_
    exact S_iret X (nle rfl) (nle rfl) dX11_image_11 (hPo _ _ (Or.inl (⟨by first | rfl | omega, rfl, by first | rfl | assumption | omega⟩)))
set_option maxHeartbeats 4000000 in
set_option maxRecDepth 100000 in
theorem kX11_back (l : Launch) (h0 : Nat) (f : Nat → AV) (fS : Nat → AV) (oS : Nat) (aB : Nat) (B : Int → Int) (oK : Nat) (fK : Nat → AV) (kk : Int) (oD : Nat) (fD : Nat → AV) (dI : Nat) (DI : Int → Int) (td : Int) (un : Int) (hi : Int) (im : Int) (nx : Int) (hf0 : f 7 = rv oS) (hf1 : f 5 = rv oD) (hf2 : f 11 = rv oK) (hf3 : fD 5 = rv dI) (hf4 : fS 4 = rv aB) (hhi : hi = 0 ∨ hi = 1) : AMi l yX11_back cX11_back 1 .int 2 0 0 [rv h0] [(h0, ob 10 f), (oD, ob 0 (uF (uF (uF (uF (uF fD 0 (iv td)) 1 (iv un)) 2 (iv hi)) 3 (iv im)) 4 (iv nx))), (dI, ar 6 DI), (oS, ob 5 fS), (aB, ar 6 B), (oK, ob 9 (uF fK 0 (iv kk)))] (fun z u => (z = -1 ∧ u = [(h0, ob 10 f), (oD, ob 0 (uF (uF (uF (uF (uF fD 0 (iv td)) 1 (iv un)) 2 (iv hi)) 3 (iv im)) 4 (iv nx))), (dI, ar 6 DI), (oS, ob 5 fS), (aB, ar 6 B), (oK, ob 9 (uF fK 0 (iv kk)))] ∧ hi = 0) ∨ (z = im ∧ u = [(h0, ob 10 f), (oD, ob 0 (uF (uF (uF (uF (uF fD 0 (iv im)) 1 (iv 0)) 2 (iv hi)) 3 (iv im)) 4 (iv nx))), (dI, ar 6 DI), (oS, ob 5 fS), (aB, ar 6 (cpZ DI B 0 0 6)), (oK, ob 9 (uF fK 0 (iv 0)))] ∧ hi = 1)) := by
  refine AMi.of2 rfl (nle rfl) ?_
  intro D G A p e s m args below meth c Po hPo X
  refine S_aload_n X dX11_back_0 rfl rfl ?_
  refine S_get X fgX11_48_10 0 rfl hf1 dX11_back_1 ?_
  refine S_get (v := iv hi) X fgX11_225_0 1 rfl rfl dX11_back_4 ?_
  refine S_if_ne (tgt := 12) X dX11_back_7 (by decide) (by omega) (fun c_1 => ?_) (fun c_1 => ?_)
  ·
    refine S_aload_n X dX11_back_12 rfl rfl ?_
    refine S_get X fgX11_48_10 0 rfl hf1 dX11_back_13 ?_
    refine S_aload_n X dX11_back_16 rfl rfl ?_
    refine S_get X fgX11_59_10 0 rfl hf0 dX11_back_17 ?_
    refine S_get X fgX11_158_5 3 rfl hf4 dX11_back_20 ?_
    refine S_callv X (kX0_comeBack l oD fD dI DI td un hi im nx aB B hf3) (is := [1, 2, 4]) rfl (run_V X lkX11_228 1 rfl rfl (is := [1, 2, 4]) (avs := [rv aB]) (rest := []) rfl rfl (nle rfl) ⟨nle rfl, nle rfl⟩ ⟨nle rfl, nle rfl⟩ dX11_back_23 (by decide) rfl) (fun u_2 hp_3 => ?_)
    have hu_6 := hp_3
    subst hu_6
    refine ⟨rfl, ?_⟩
    refine S_w (ws' := [(h0, ob 10 f), (oD, ob 0 (uF (uF (uF (uF (uF fD 0 (iv im)) 1 (iv 0)) 2 (iv hi)) 3 (iv im)) 4 (iv nx))), (dI, ar 6 DI), (oS, ob 5 fS), (aB, ar 6 (cpZ DI B 0 0 6)), (oK, ob 9 (uF fK 0 (iv kk)))]) rfl ?_
    refine S_aload_n X dX11_back_26 rfl rfl ?_
    refine S_get X fgX11_85_10 0 rfl hf2 dX11_back_27 ?_
    refine S_iconst X dX11_back_30 ?_
    refine S_put X fpX11_143_9 5 rfl (FT_b (Or.inl rfl)) dX11_back_31 ?_
    refine S_w (ws' := [(h0, ob 10 f), (oD, ob 0 (uF (uF (uF (uF (uF fD 0 (iv im)) 1 (iv 0)) 2 (iv hi)) 3 (iv im)) 4 (iv nx))), (dI, ar 6 DI), (oS, ob 5 fS), (aB, ar 6 (cpZ DI B 0 0 6)), (oK, ob 9 (uF fK 0 (iv 0)))]) (by simp only [List.set]; rw [uF_same (k := 0)]) ?_
    refine S_aload_n X dX11_back_34 rfl rfl ?_
    refine S_get X fgX11_48_10 0 rfl hf1 dX11_back_35 ?_
    refine S_get (v := iv im) X fgX11_205_0 1 rfl rfl dX11_back_38 ?_
    exact S_iret X (nle rfl) (nle rfl) dX11_back_41 (hPo _ _ (Or.inr (⟨by first | rfl | omega, rfl, by first | rfl | assumption | omega⟩)))
  ·
    refine S_iconst X dX11_back_10 ?_
    exact S_iret X (nle rfl) (nle rfl) dX11_back_11 (hPo _ _ (Or.inl (⟨by first | rfl | omega, rfl, by first | rfl | assumption | omega⟩)))
set_option maxHeartbeats 4000000 in
set_option maxRecDepth 100000 in
theorem kX11_settle (l : Launch) (h0 : Nat) (f : Nat → AV) (oW : Nat) (fW : Nat → AV) (fP : Nat → AV) (fS : Nat → AV) (pl : Int) (n : Int) (ec : Int) (mk : Int) (oP : Nat) (oS : Nat) (aA : Nat) (aT : Nat) (aW : Nat) (aS : Nat) (aB : Nat) (aF : Nat) (aH : Nat) (aL : Nat) (Ab : Int → Int) (Wq : Int → Int) (B : Int → Int) (Fo : Int → Int) (Ho : Int → Int) (Lt : Int → Int) (p0 : Int) (n0 : Int) (k0 : Int) (s4 : Int) (s5 : Int) (v : Int) (hf0 : f 3 = rv oW) (hf1 : f 7 = rv oS) (hf2 : f 9 = rv oP) (hf3 : fW 0 = iv pl) (hf4 : fP 0 = rv aA) (hf5 : fP 1 = rv aT) (hf6 : fP 2 = rv aW) (hf7 : fP 3 = rv aS) (hf8 : fS 0 = iv pl) (hf9 : fS 1 = iv n) (hf10 : fS 2 = iv ec) (hf11 : fS 3 = iv mk) (hf12 : fS 4 = rv aB) (hf13 : fS 5 = rv aF) (hf14 : fS 6 = rv aH) (hf15 : fS 7 = rv aL) (hz : okZ pl n ec Fo Ho B Lt) (hv : inR v) : AMi l yX11_settle cX11_settle 2 .int 4 0 0 [rv h0, iv v] [(h0, ob 10 f), (oW, ob 7 fW), (oP, ob 4 (uF (uF (uF (uF (uF fP 4 (iv s4)) 5 (iv s5)) 6 (iv p0)) 7 (iv n0)) 8 (iv k0))), (aA, ar 1206 Ab), (aW, ar 6 Wq), (oS, ob 5 fS), (aB, ar 6 B), (aF, ar 6 Fo), (aH, ar 6 Ho)] (fun z u => ∃ z9 : Int, ∃ p9 : Int, ∃ n9 : Int, ∃ k9 : Int, ∃ s6 : Int, ∃ s7 : Int, ∃ A2 : Int → Int, ∃ W2 : Int → Int, z = z9 ∧ u = [(h0, ob 10 f), (oW, ob 7 fW), (oP, ob 4 (uF (uF (uF (uF (uF fP 4 (iv s6)) 5 (iv s7)) 6 (iv p9)) 7 (iv n9)) 8 (iv k9))), (aA, ar 1206 A2), (aW, ar 6 W2), (oS, ob 5 fS), (aB, ar 6 B), (aF, ar 6 Fo), (aH, ar 6 Ho)] ∧ rSettle pl ec Fo Ho B v z9) := by
  refine AMi.of2 rfl (nle rfl) ?_
  intro D G A p e s m args below meth c Po hPo X
  have hz6 := hz.2.1
  have hz0 := hz.1
  have hzn := hz.2.2.1
  have hzm := hz.2.2.2.1
  have hze := hz.2.2.2.2
  refine S_aload_n X dX11_settle_0 rfl rfl ?_
  refine S_iload_n X dX11_settle_1 rfl rfl ?_
  refine S_calli X (kX11_isOneOfTwo l h0 f oW fW pl v hf0 hf3 (by omega) (by omega)) (is := [0, 1]) rfl (run_V X lkX11_252 0 rfl rfl (is := [0, 1]) (avs := [iv v]) (rest := []) rfl rfl (nle rfl) ⟨nle rfl, nle rfl⟩ ⟨nle rfl, nle rfl⟩ dX11_settle_2 (by decide) rfl) (fun z_3 u_1 hp_2 => ?_)
  rcases hp_2 with ⟨hz_4, hu_5, hp_6⟩ | ⟨hz_7, hu_8, hp_9⟩
  ·
    subst hz_4
    subst hu_5
    refine ⟨rfl, ?_⟩
    refine S_w (ws' := [(h0, ob 10 f), (oW, ob 7 fW), (oP, ob 4 (uF (uF (uF (uF (uF fP 4 (iv s4)) 5 (iv s5)) 6 (iv p0)) 7 (iv n0)) 8 (iv k0))), (aA, ar 1206 Ab), (aW, ar 6 Wq), (oS, ob 5 fS), (aB, ar 6 B), (aF, ar 6 Fo), (aH, ar 6 Ho)]) rfl ?_
    refine S_if_eq (tgt := 22) X dX11_settle_5 (by decide) (by decide) (fun _ => ?_) (fun h9 => absurd h9 (by decide))
    refine S_iconst X dX11_settle_22 ?_
    exact S_iret X (nle rfl) (nle rfl) dX11_settle_23 (hPo _ _ (⟨_, _, _, _, _, _, _, _, rfl, rfl, Or.inl ⟨by omega, rfl⟩⟩))
  ·
    subst hz_7
    subst hu_8
    refine ⟨rfl, ?_⟩
    refine S_w (ws' := [(h0, ob 10 f), (oW, ob 7 fW), (oP, ob 4 (uF (uF (uF (uF (uF fP 4 (iv s4)) 5 (iv s5)) 6 (iv p0)) 7 (iv n0)) 8 (iv k0))), (aA, ar 1206 Ab), (aW, ar 6 Wq), (oS, ob 5 fS), (aB, ar 6 B), (aF, ar 6 Fo), (aH, ar 6 Ho)]) rfl ?_
    refine S_if_eq (tgt := 22) X dX11_settle_5 (by decide) (by decide) (fun h9 => absurd h9 (by decide)) (fun _ => ?_)
    have hok := hz.s (by omega)
    have hpl := hok.2.1
    have hpl1 := hok.1
    have hn1 := hok.2.2.1
    have hn2 := hok.2.2.2.1
    have hec := hok.2.2.2.2
    refine S_aload_n X dX11_settle_8 rfl rfl ?_
    refine S_get X fgX11_69_10 0 rfl hf2 dX11_settle_9 ?_
    refine S_aload_n X dX11_settle_12 rfl rfl ?_
    refine S_get X fgX11_59_10 0 rfl hf1 dX11_settle_13 ?_
    refine S_calli X (kX4_settles l fP fS pl n ec mk oP oS aA aW aB aF aH Ab Wq B Fo Ho Lt p0 n0 k0 s4 s5 hf4 hf6 hf8 hf9 hf10 hf11 hf12 hf13 hf14 (by omega)) (is := [2, 3, 4, 5, 6, 7, 8]) rfl (run_V X lkX11_261 2 rfl rfl (is := [2, 3, 4, 5, 6, 7, 8]) (avs := [rv oS]) (rest := []) rfl rfl (nle rfl) ⟨nle rfl, nle rfl⟩ ⟨nle rfl, nle rfl⟩ dX11_settle_16 (by decide) rfl) (fun z_14 u_12 hp_13 => ?_)
    rcases hp_13 with ⟨A2_15, W2_16, hz_17, hu_18, hs_19⟩ | ⟨A2_20, W2_21, i2_22, k2_23, hz_24, hu_25, hs_26⟩
    ·
      subst hz_17
      subst hu_18
      refine ⟨rfl, ?_⟩
      refine S_w (ws' := [(h0, ob 10 f), (oW, ob 7 fW), (oP, ob 4 (uF (uF (uF (uF (uF fP 4 (iv s4)) 5 (iv s5)) 6 (iv pl)) 7 (iv n)) 8 (iv mk))), (aA, ar 1206 A2_15), (aW, ar 6 W2_16), (oS, ob 5 fS), (aB, ar 6 B), (aF, ar 6 Fo), (aH, ar 6 Ho)]) rfl ?_
      refine S_if_ne (tgt := 24) X dX11_settle_19 (by decide) (by decide) (fun h9 => absurd h9 (by decide)) (fun _ => ?_)
      refine S_iconst X dX11_settle_22 ?_
      exact S_iret X (nle rfl) (nle rfl) dX11_settle_23 (hPo _ _ (⟨_, _, _, _, _, _, _, _, rfl, rfl, Or.inr ⟨by omega, by omega, Or.inl ⟨hs_19, rfl⟩⟩⟩))
    ·
      subst hz_24
      subst hu_25
      refine ⟨rfl, ?_⟩
      refine S_w (ws' := [(h0, ob 10 f), (oW, ob 7 fW), (oP, ob 4 (uF (uF (uF (uF (uF fP 4 (iv i2_22)) 5 (iv k2_23)) 6 (iv pl)) 7 (iv n)) 8 (iv mk))), (aA, ar 1206 A2_20), (aW, ar 6 W2_21), (oS, ob 5 fS), (aB, ar 6 B), (aF, ar 6 Fo), (aH, ar 6 Ho)]) rfl ?_
      refine S_if_ne (tgt := 24) X dX11_settle_19 (by decide) (by decide) (fun _ => ?_) (fun h9 => absurd h9 (by decide))
      refine S_iload_n X dX11_settle_24 rfl rfl ?_
      refine S_if_ne (tgt := 38) X dX11_settle_25 (by decide) (by omega) (fun c_29 => ?_) (fun c_29 => ?_)
      ·
        refine S_aload_n X dX11_settle_38 rfl rfl ?_
        refine S_get X fgX11_69_10 0 rfl hf2 dX11_settle_39 ?_
        refine S_get (v := iv k2_23) X fgX11_268_4 2 rfl rfl dX11_settle_42 ?_
        exact S_iret X (nle rfl) (nle rfl) dX11_settle_45 (hPo _ _ (⟨_, _, _, _, _, _, _, _, rfl, rfl, Or.inr ⟨by omega, by omega, Or.inr (by obtain ⟨j, a1, a2, a3, a4, a5, a6, a7, a8⟩ := hs_26; exact ⟨j, _, a1, a2, a3, a4, a6, a7, a8, by rw [if_neg (by omega), a5]⟩)⟩⟩))
      ·
        refine S_aload_n X dX11_settle_28 rfl rfl ?_
        refine S_get X fgX11_69_10 0 rfl hf2 dX11_settle_29 ?_
        refine S_get (v := iv i2_22) X fgX11_265_4 2 rfl rfl dX11_settle_32 ?_
        refine S_goto (tgt := 45) X dX11_settle_35 (by decide) ?_
        exact S_iret X (nle rfl) (nle rfl) dX11_settle_45 (hPo _ _ (⟨_, _, _, _, _, _, _, _, rfl, rfl, Or.inr ⟨by omega, by omega, Or.inr (by obtain ⟨j, a1, a2, a3, a4, a5, a6, a7, a8⟩ := hs_26; exact ⟨j, _, a1, a2, a3, a4, a6, a7, a8, by rw [if_pos (by omega)]⟩)⟩⟩))
set_option maxHeartbeats 4000000 in
set_option maxRecDepth 100000 in
theorem kX11_ring (l : Launch) (h0 : Nat) (f : Nat → AV) (oW : Nat) (fW : Nat → AV) (fS : Nat → AV) (pl : Int) (n : Int) (ec : Int) (oS : Nat) (aF : Nat) (B : Int → Int) (Fo : Int → Int) (Ho : Int → Int) (Lt : Int → Int) (q : Int) (hf0 : f 3 = rv oW) (hf1 : f 7 = rv oS) (hf2 : fW 0 = iv pl) (hf3 : fS 5 = rv aF) (hz : okZ pl n ec Fo Ho B Lt) (hx_q : inR q) : AMi l yX11_ring cX11_ring 5 .int 2 0 0 [rv h0, iv q] [(h0, ob 10 f), (oW, ob 7 fW), (oS, ob 5 fS), (aF, ar 6 Fo)] (fun z u => z = aRingC pl Fo q ∧ u = [(h0, ob 10 f), (oW, ob 7 fW), (oS, ob 5 fS), (aF, ar 6 Fo)]) := by
  refine AMi.of2 rfl (nle rfl) ?_
  intro D G A p e s m args below meth c Po hPo X
  have hz6 := hz.2.1
  have hz0 := hz.1
  have hzn := hz.2.2.1
  have hzm := hz.2.2.2.1
  have hze := hz.2.2.2.2
  refine S_aload_n X dX11_ring_0 rfl rfl ?_
  refine S_iload_n X dX11_ring_1 rfl rfl ?_
  refine S_calli X (kX11_isPlayer l h0 f oW fW pl q hf0 hf2 (by omega) (by omega)) (is := [0, 1]) rfl (run_V X lkX11_147 0 rfl rfl (is := [0, 1]) (avs := [iv q]) (rest := []) rfl rfl (nle rfl) ⟨nle rfl, nle rfl⟩ ⟨nle rfl, nle rfl⟩ dX11_ring_2 (by decide) rfl) (fun z_3 u_1 hp_2 => ?_)
  rcases hp_2 with ⟨hz_4, hu_5, hp_6⟩ | ⟨hz_7, hu_8, hp_9⟩
  ·
    subst hz_4
    subst hu_5
    refine ⟨rfl, ?_⟩
    refine S_w (ws' := [(h0, ob 10 f), (oW, ob 7 fW), (oS, ob 5 fS), (aF, ar 6 Fo)]) rfl ?_
    refine S_if_ne (tgt := 10) X dX11_ring_5 (by decide) (by decide) (fun h9 => absurd h9 (by decide)) (fun _ => ?_)
    refine S_iconst X dX11_ring_8 ?_
    exact S_iret X (nle rfl) (nle rfl) dX11_ring_9 (hPo _ _ (⟨by unfold aRingC; rw [if_neg (by omega)], rfl⟩))
  ·
    subst hz_7
    subst hu_8
    refine ⟨rfl, ?_⟩
    refine S_w (ws' := [(h0, ob 10 f), (oW, ob 7 fW), (oS, ob 5 fS), (aF, ar 6 Fo)]) rfl ?_
    refine S_if_ne (tgt := 10) X dX11_ring_5 (by decide) (by decide) (fun _ => ?_) (fun h9 => absurd h9 (by decide))
    have hok := hz.s (by omega)
    have hpl := hok.2.1
    have hpl1 := hok.1
    have hn1 := hok.2.2.1
    have hn2 := hok.2.2.2.1
    have hec := hok.2.2.2.2
    have hi6 := it_in (F := Fo) (pl := pl) (fun p h0 h1 => (hok.2.2.2.2.2.2 p h0 h1).1) (x := q) (by omega) 6 (by decide)
    refine S_iconst X dX11_ring_10 ?_
    refine S_istore_n X dX11_ring_11 rfl (nle rfl) ?_
    refine S_aload_n X dX11_ring_12 rfl rfl ?_
    refine S_get X fgX11_59_10 0 rfl hf1 dX11_ring_13 ?_
    refine S_iload_n X dX11_ring_16 rfl rfl ?_
    refine S_bipush X dX11_ring_17 rfl ?_
    refine S_calli X (kX6_aheadOf l fS pl oS aF Fo q 6 hf3 (by omega) (fun p h0 h1 => (hok.2.2.2.2.2.2 p h0 h1).1) (by omega) (by omega)) (is := [2, 3]) rfl (run_V X lkX11_286 2 rfl rfl (is := [2, 3]) (avs := [iv q, iv 6]) (rest := []) rfl rfl (nle rfl) ⟨nle rfl, nle rfl⟩ ⟨nle rfl, nle rfl⟩ dX11_ring_19 (by decide) rfl) (fun z_14 u_12 hp_13 => ?_)
    obtain ⟨hz_15, hu_16⟩ := hp_13
    subst hz_15
    subst hu_16
    refine ⟨rfl, ?_⟩
    refine S_w (ws' := [(h0, ob 10 f), (oW, ob 7 fW), (oS, ob 5 fS), (aF, ar 6 Fo)]) rfl ?_
    refine S_istore_n X dX11_ring_22 rfl (nle rfl) ?_
    refine S_iconst X dX11_ring_23 ?_
    refine S_istore X dX11_ring_24 (nle rfl) ?_
    have lp26_1 : ∀ (N : Nat) (i : Int) (bi : Int) (x : Int) (L : Nat → Option AV), 0 ≤ i ∧ i ≤ 6 → -1 ≤ x ∧ x < pl → rcN Fo (6 - i).toNat bi x = rcN Fo 6 0 (itI Fo 6 q) → L 0 = some (rv h0) → L 1 = some (iv q) → L 2 = some (iv bi) → L 3 = some (iv x) → L 4 = some (iv i) → 7 - i < (N : Int) → S_ p l e (rmD 2 0 0) s m args below meth c (MQ below (QcI D G A Po) args s 0 0 A) D G A 5 0 0 26 L [] [(h0, ob 10 f), (oW, ob 7 fW), (oS, ob 5 fS), (aF, ar 6 Fo)] := by
      intro N
      induction N with
      | zero =>
        intro i bi x L26 hi hx hrc hL26_0 hL26_1 hL26_2 hL26_3 hL26_4 hN26
        exfalso; omega
      | succ N ih26 =>
        intro i bi x L26 hi hx hrc hL26_0 hL26_1 hL26_2 hL26_3 hL26_4 hN26
        refine S_iload X dX11_ring_26 hL26_4 ?_
        refine S_bipush X dX11_ring_28 rfl ?_
        refine S_icmp_ge (tgt := 63) X dX11_ring_30 (by decide) (by omega) (by decide) (fun c_17 => ?_) (fun c_17 => ?_)
        ·
          refine S_iload_n X dX11_ring_63 rfl hL26_2 ?_
          exact S_iret X (nle rfl) (nle rfl) dX11_ring_64 (hPo _ _ (⟨by unfold aRingC; rw [if_pos (by omega), ← hrc]; first | (rw [show (6 - i).toNat = 0 by omega]; rfl) | (rw [show x = -1 by omega, rcN_e]), rfl⟩))
        ·
          refine S_aload_n X dX11_ring_33 rfl hL26_0 ?_
          refine S_iload_n X dX11_ring_34 rfl hL26_3 ?_
          refine S_calli X (kX11_isPlayer l h0 f oW fW pl x hf0 hf2 (by omega) (by omega)) (is := [0, 1]) rfl (run_V X lkX11_147 0 rfl rfl (is := [0, 1]) (avs := [iv x]) (rest := []) rfl rfl (nle rfl) ⟨nle rfl, nle rfl⟩ ⟨nle rfl, nle rfl⟩ dX11_ring_35 (by decide) rfl) (fun z_20 u_18 hp_19 => ?_)
          rcases hp_19 with ⟨hz_21, hu_22, hp_23⟩ | ⟨hz_24, hu_25, hp_26⟩
          ·
            subst hz_21
            subst hu_22
            refine ⟨rfl, ?_⟩
            refine S_w (ws' := [(h0, ob 10 f), (oW, ob 7 fW), (oS, ob 5 fS), (aF, ar 6 Fo)]) rfl ?_
            refine S_if_eq (tgt := 63) X dX11_ring_38 (by decide) (by decide) (fun _ => ?_) (fun h9 => absurd h9 (by decide))
            refine S_iload_n X dX11_ring_63 rfl hL26_2 ?_
            exact S_iret X (nle rfl) (nle rfl) dX11_ring_64 (hPo _ _ (⟨by unfold aRingC; rw [if_pos (by omega), ← hrc]; first | (rw [show (6 - i).toNat = 0 by omega]; rfl) | (rw [show x = -1 by omega, rcN_e]), rfl⟩))
          ·
            subst hz_24
            subst hu_25
            refine ⟨rfl, ?_⟩
            refine S_w (ws' := [(h0, ob 10 f), (oW, ob 7 fW), (oS, ob 5 fS), (aF, ar 6 Fo)]) rfl ?_
            refine S_if_eq (tgt := 63) X dX11_ring_38 (by decide) (by decide) (fun h9 => absurd h9 (by decide)) (fun _ => ?_)
            refine S_iload_n X dX11_ring_41 rfl hL26_2 ?_
            refine S_iconst X dX11_ring_42 ?_
            refine S_iload_n X dX11_ring_43 rfl hL26_3 ?_
            refine S_ishl X dX11_ring_44 ?_
            refine S_ior X dX11_ring_45 ?_
            refine S_istore_n X dX11_ring_46 rfl (nle rfl) ?_
            have hfx := (hok.2.2.2.2.2.2 x (by omega) (by omega)).1
            refine S_aload_n X dX11_ring_47 rfl hL26_0 ?_
            refine S_get X fgX11_59_10 0 rfl hf1 dX11_ring_48 ?_
            refine S_iload_n X dX11_ring_51 rfl hL26_3 ?_
            refine S_iconst X dX11_ring_52 ?_
            refine S_calli X (kX6_aheadOf l fS pl oS aF Fo x 1 hf3 (by omega) (fun p h0 h1 => (hok.2.2.2.2.2.2 p h0 h1).1) (by omega) (by omega)) (is := [2, 3]) rfl (run_V X lkX11_286 2 rfl rfl (is := [2, 3]) (avs := [iv x, iv 1]) (rest := []) rfl rfl (nle rfl) ⟨nle rfl, nle rfl⟩ ⟨nle rfl, nle rfl⟩ dX11_ring_53 (by decide) rfl) (fun z_31 u_29 hp_30 => ?_)
            obtain ⟨hz_32, hu_33⟩ := hp_30
            subst hz_32
            subst hu_33
            refine ⟨rfl, ?_⟩
            refine S_w (ws' := [(h0, ob 10 f), (oW, ob 7 fW), (oS, ob 5 fS), (aF, ar 6 Fo)]) rfl ?_
            have hi1 : itI Fo 1 x = Fo x := by rw [itI_1, if_neg (by omega)]
            rw [hi1]
            refine S_istore_n X dX11_ring_56 rfl (nle rfl) ?_
            refine S_iinc X dX11_ring_57 (nle rfl) hL26_4 ?_
            refine S_goto (tgt := 26) X dX11_ring_60 (by decide) ?_
            exact ih26 (i + 1) (zOr bi (zShl 1 x)) (Fo x) _ (by omega) (by omega) (by rw [← hrc, show (6 - i).toNat = (6 - (i + 1)).toNat + 1 by omega, rcN, if_neg (by omega)]) hL26_0 hL26_1 rfl rfl rfl (by omega)
    exact lp26_1 (Int.toNat (7 - 0) + 1) 0 0 (itI Fo 6 q) _ (by omega) (by omega) (rfl) rfl rfl rfl rfl rfl (by omega)
set_option maxHeartbeats 4000000 in
set_option maxRecDepth 100000 in
theorem kX11_head (l : Launch) (h0 : Nat) (f : Nat → AV) (oW : Nat) (fW : Nat → AV) (fS : Nat → AV) (pl : Int) (n : Int) (ec : Int) (oS : Nat) (aF : Nat) (B : Int → Int) (Fo : Int → Int) (Ho : Int → Int) (Lt : Int → Int) (q : Int) (hf0 : f 3 = rv oW) (hf1 : f 7 = rv oS) (hf2 : fW 0 = iv pl) (hf3 : fS 5 = rv aF) (hz : okZ pl n ec Fo Ho B Lt) (hx_q : inR q) : AMi l yX11_head cX11_head 4 .int 2 0 0 [rv h0, iv q] [(h0, ob 10 f), (oW, ob 7 fW), (oS, ob 5 fS), (aF, ar 6 Fo)] (fun z u => z = aHeadC pl Fo q ∧ u = [(h0, ob 10 f), (oW, ob 7 fW), (oS, ob 5 fS), (aF, ar 6 Fo)]) := by
  refine AMi.of2 rfl (nle rfl) ?_
  intro D G A p e s m args below meth c Po hPo X
  have hz6 := hz.2.1
  have hz0 := hz.1
  have hzn := hz.2.2.1
  have hzm := hz.2.2.2.1
  have hze := hz.2.2.2.2
  refine S_aload_n X dX11_head_0 rfl rfl ?_
  refine S_iload_n X dX11_head_1 rfl rfl ?_
  refine S_calli X (kX11_isPlayer l h0 f oW fW pl q hf0 hf2 (by omega) (by omega)) (is := [0, 1]) rfl (run_V X lkX11_147 0 rfl rfl (is := [0, 1]) (avs := [iv q]) (rest := []) rfl rfl (nle rfl) ⟨nle rfl, nle rfl⟩ ⟨nle rfl, nle rfl⟩ dX11_head_2 (by decide) rfl) (fun z_3 u_1 hp_2 => ?_)
  rcases hp_2 with ⟨hz_4, hu_5, hp_6⟩ | ⟨hz_7, hu_8, hp_9⟩
  ·
    subst hz_4
    subst hu_5
    refine ⟨rfl, ?_⟩
    refine S_w (ws' := [(h0, ob 10 f), (oW, ob 7 fW), (oS, ob 5 fS), (aF, ar 6 Fo)]) rfl ?_
    refine S_if_eq (tgt := 22) X dX11_head_5 (by decide) (by decide) (fun _ => ?_) (fun h9 => absurd h9 (by decide))
    refine S_iconst X dX11_head_22 ?_
    exact S_iret X (nle rfl) (nle rfl) dX11_head_23 (hPo _ _ (⟨by unfold aHeadC; rw [if_neg (by omega)], rfl⟩))
  ·
    subst hz_7
    subst hu_8
    refine ⟨rfl, ?_⟩
    refine S_w (ws' := [(h0, ob 10 f), (oW, ob 7 fW), (oS, ob 5 fS), (aF, ar 6 Fo)]) rfl ?_
    refine S_if_eq (tgt := 22) X dX11_head_5 (by decide) (by decide) (fun h9 => absurd h9 (by decide)) (fun _ => ?_)
    have hok := hz.s (by omega)
    have hpl := hok.2.1
    have hpl1 := hok.1
    have hn1 := hok.2.2.1
    have hn2 := hok.2.2.2.1
    have hec := hok.2.2.2.2
    have hi6 := it_in (F := Fo) (pl := pl) (fun p h0 h1 => (hok.2.2.2.2.2.2 p h0 h1).1) (x := q) (by omega) 6 (by decide)
    refine S_aload_n X dX11_head_8 rfl rfl ?_
    refine S_get X fgX11_59_10 0 rfl hf1 dX11_head_9 ?_
    refine S_iload_n X dX11_head_12 rfl rfl ?_
    refine S_bipush X dX11_head_13 rfl ?_
    refine S_calli X (kX6_aheadOf l fS pl oS aF Fo q 6 hf3 (by omega) (fun p h0 h1 => (hok.2.2.2.2.2.2 p h0 h1).1) (by omega) (by omega)) (is := [2, 3]) rfl (run_V X lkX11_286 2 rfl rfl (is := [2, 3]) (avs := [iv q, iv 6]) (rest := []) rfl rfl (nle rfl) ⟨nle rfl, nle rfl⟩ ⟨nle rfl, nle rfl⟩ dX11_head_15 (by decide) rfl) (fun z_14 u_12 hp_13 => ?_)
    obtain ⟨hz_15, hu_16⟩ := hp_13
    subst hz_15
    subst hu_16
    refine ⟨rfl, ?_⟩
    refine S_w (ws' := [(h0, ob 10 f), (oW, ob 7 fW), (oS, ob 5 fS), (aF, ar 6 Fo)]) rfl ?_
    refine S_iconst X dX11_head_18 ?_
    refine S_icmp_eq (tgt := 24) X dX11_head_19 (by decide) (by omega) (by decide) (fun c_17 => ?_) (fun c_17 => ?_)
    ·
      refine S_iload_n X dX11_head_24 rfl rfl ?_
      refine S_istore_n X dX11_head_25 rfl (nle rfl) ?_
      refine S_iconst X dX11_head_26 ?_
      refine S_istore_n X dX11_head_27 rfl (nle rfl) ?_
      have lp28_2 : ∀ (N : Nat) (i : Int) (x : Int) (L : Nat → Option AV), 0 ≤ i ∧ i ≤ 6 → 0 ≤ x ∧ x < pl → hcN Fo (6 - i).toNat x = hcN Fo 6 q → L 0 = some (rv h0) → L 1 = some (iv q) → L 2 = some (iv x) → L 3 = some (iv i) → 7 - i < (N : Int) → S_ p l e (rmD 2 0 0) s m args below meth c (MQ below (QcI D G A Po) args s 0 0 A) D G A 4 0 0 28 L [] [(h0, ob 10 f), (oW, ob 7 fW), (oS, ob 5 fS), (aF, ar 6 Fo)] := by
        intro N
        induction N with
        | zero =>
          intro i x L28 hi hx hrc hL28_0 hL28_1 hL28_2 hL28_3 hN28
          exfalso; omega
        | succ N ih28 =>
          intro i x L28 hi hx hrc hL28_0 hL28_1 hL28_2 hL28_3 hN28
          refine S_iload_n X dX11_head_28 rfl hL28_3 ?_
          refine S_bipush X dX11_head_29 rfl ?_
          refine S_icmp_ge (tgt := 63) X dX11_head_31 (by decide) (by omega) (by decide) (fun c_18 => ?_) (fun c_18 => ?_)
          ·
            refine S_iload_n X dX11_head_63 rfl hL28_2 ?_
            exact S_iret X (nle rfl) (nle rfl) dX11_head_64 (hPo _ _ (⟨by unfold aHeadC; rw [if_pos (by omega), ← hrc]; first | (rw [show (6 - i).toNat = 0 by omega]; rfl) | (rw [show (6 - i).toNat = (6 - (i + 1)).toNat + 1 by omega, hcN, if_pos (by omega)]), rfl⟩))
          ·
            have hfx := (hok.2.2.2.2.2.2 x (by omega) (by omega)).1
            refine S_aload_n X dX11_head_34 rfl hL28_0 ?_
            refine S_get X fgX11_59_10 0 rfl hf1 dX11_head_35 ?_
            refine S_iload_n X dX11_head_38 rfl hL28_2 ?_
            refine S_iconst X dX11_head_39 ?_
            refine S_calli X (kX6_aheadOf l fS pl oS aF Fo x 1 hf3 (by omega) (fun p h0 h1 => (hok.2.2.2.2.2.2 p h0 h1).1) (by omega) (by omega)) (is := [2, 3]) rfl (run_V X lkX11_286 2 rfl rfl (is := [2, 3]) (avs := [iv x, iv 1]) (rest := []) rfl rfl (nle rfl) ⟨nle rfl, nle rfl⟩ ⟨nle rfl, nle rfl⟩ dX11_head_40 (by decide) rfl) (fun z_21 u_19 hp_20 => ?_)
            obtain ⟨hz_22, hu_23⟩ := hp_20
            subst hz_22
            subst hu_23
            refine ⟨rfl, ?_⟩
            refine S_w (ws' := [(h0, ob 10 f), (oW, ob 7 fW), (oS, ob 5 fS), (aF, ar 6 Fo)]) rfl ?_
            have hi1 : itI Fo 1 x = Fo x := by rw [itI_1, if_neg (by omega)]
            rw [hi1]
            refine S_iconst X dX11_head_43 ?_
            refine S_icmp_eq (tgt := 63) X dX11_head_44 (by decide) (by omega) (by decide) (fun c_24 => ?_) (fun c_24 => ?_)
            ·
              refine S_iload_n X dX11_head_63 rfl hL28_2 ?_
              exact S_iret X (nle rfl) (nle rfl) dX11_head_64 (hPo _ _ (⟨by unfold aHeadC; rw [if_pos (by omega), ← hrc]; first | (rw [show (6 - i).toNat = 0 by omega]; rfl) | (rw [show (6 - i).toNat = (6 - (i + 1)).toNat + 1 by omega, hcN, if_pos (by omega)]), rfl⟩))
            ·
              refine S_aload_n X dX11_head_47 rfl hL28_0 ?_
              refine S_get X fgX11_59_10 0 rfl hf1 dX11_head_48 ?_
              refine S_iload_n X dX11_head_51 rfl hL28_2 ?_
              refine S_iconst X dX11_head_52 ?_
              refine S_calli X (kX6_aheadOf l fS pl oS aF Fo x 1 hf3 (by omega) (fun p h0 h1 => (hok.2.2.2.2.2.2 p h0 h1).1) (by omega) (by omega)) (is := [2, 3]) rfl (run_V X lkX11_286 2 rfl rfl (is := [2, 3]) (avs := [iv x, iv 1]) (rest := []) rfl rfl (nle rfl) ⟨nle rfl, nle rfl⟩ ⟨nle rfl, nle rfl⟩ dX11_head_53 (by decide) rfl) (fun z_27 u_25 hp_26 => ?_)
              obtain ⟨hz_28, hu_29⟩ := hp_26
              subst hz_28
              subst hu_29
              refine ⟨rfl, ?_⟩
              refine S_w (ws' := [(h0, ob 10 f), (oW, ob 7 fW), (oS, ob 5 fS), (aF, ar 6 Fo)]) rfl ?_
              rw [hi1]
              refine S_istore_n X dX11_head_56 rfl (nle rfl) ?_
              refine S_iinc X dX11_head_57 (nle rfl) hL28_3 ?_
              refine S_goto (tgt := 28) X dX11_head_60 (by decide) ?_
              exact ih28 (i + 1) (Fo x) _ (by omega) (by omega) (by rw [← hrc, show (6 - i).toNat = (6 - (i + 1)).toNat + 1 by omega, hcN, if_neg (by omega)]) hL28_0 hL28_1 rfl rfl (by omega)
      exact lp28_2 (Int.toNat (7 - 0) + 1) 0 q _ (by omega) (by omega) (rfl) rfl rfl rfl rfl (by omega)
    ·
      refine S_iconst X dX11_head_22 ?_
      exact S_iret X (nle rfl) (nle rfl) dX11_head_23 (hPo _ _ (⟨by unfold aHeadC; rw [if_neg (by omega)], rfl⟩))
set_option maxHeartbeats 4000000 in
set_option maxRecDepth 100000 in
theorem kX11_roll (l : Launch) (h0 : Nat) (f : Nat → AV) (oW : Nat) (fW : Nat → AV) (pl : Int) (hTo : Nat) (To : Int → Int) (rl : Int) (q : Int) (b : Int) (t : Int) (hf0 : f 3 = rv oW) (hf1 : f 6 = rv hTo) (hf2 : fW 0 = iv pl) (hpl : 0 ≤ pl ∧ pl ≤ 6) (hrl : 0 ≤ rl ∧ rl ≤ 20) (hx_q : inR q) (hx_b : inR b) (hx_t : inR t) : AMi l yX11_roll cX11_roll 6 .int 1 0 0 [rv h0, iv q, iv b, iv t] [(h0, ob 10 (uF f 15 (iv rl))), (oW, ob 7 fW), (hTo, ar 60 To)] (fun z u => (z = -1 ∧ u = [(h0, ob 10 (uF f 15 (iv rl))), (oW, ob 7 fW), (hTo, ar 60 To)] ∧ (¬ ((0 ≤ q ∧ q < pl) ∧ (0 ≤ b ∧ b ≤ 29) ∧ (0 ≤ t ∧ t ≤ 9999) ∧ rl < 20))) ∨ (z = rl + 1 ∧ u = [(h0, ob 10 (uF f 15 (iv (rl + 1)))), (oW, ob 7 fW), (hTo, ar 60 (uZ (uZ (uZ To (rl * 3) q) (rl * 3 + 1) b) (rl * 3 + 2) t))] ∧ ((0 ≤ q ∧ q < pl) ∧ (0 ≤ b ∧ b ≤ 29) ∧ (0 ≤ t ∧ t ≤ 9999) ∧ rl < 20))) := by
  refine AMi.of2 rfl (nle rfl) ?_
  intro D G A p e s m args below meth c Po hPo X
  refine S_aload_n X dX11_roll_0 rfl rfl ?_
  refine S_iload_n X dX11_roll_1 rfl rfl ?_
  refine S_calli X (kX11_isPlayer l h0 (uF f 15 (iv rl)) oW fW pl q hf0 hf2 (by omega) (by omega)) (is := [0, 1]) rfl (run_V X lkX11_147 0 rfl rfl (is := [0, 1]) (avs := [iv q]) (rest := []) rfl rfl (nle rfl) ⟨nle rfl, nle rfl⟩ ⟨nle rfl, nle rfl⟩ dX11_roll_2 (by decide) rfl) (fun z_3 u_1 hp_2 => ?_)
  rcases hp_2 with ⟨hz_4, hu_5, hp_6⟩ | ⟨hz_7, hu_8, hp_9⟩
  ·
    subst hz_4
    subst hu_5
    refine ⟨rfl, ?_⟩
    refine S_w (ws' := [(h0, ob 10 (uF f 15 (iv rl))), (oW, ob 7 fW), (hTo, ar 60 To)]) rfl ?_
    refine S_if_eq (tgt := 33) X dX11_roll_5 (by decide) (by decide) (fun _ => ?_) (fun h9 => absurd h9 (by decide))
    refine S_iconst X dX11_roll_33 ?_
    refine S_istore X dX11_roll_34 (nle rfl) ?_
    refine S_iload X dX11_roll_36 rfl ?_
    refine S_if_eq (tgt := 50) X dX11_roll_38 (by decide) (by decide) (fun _ => ?_) (fun h9 => absurd h9 (by decide))
    refine S_iconst X dX11_roll_50 ?_
    exact S_iret X (nle rfl) (nle rfl) dX11_roll_51 (hPo _ _ (Or.inl (⟨by first | rfl | omega, rfl, by first | rfl | assumption | omega⟩)))
  ·
    subst hz_7
    subst hu_8
    refine ⟨rfl, ?_⟩
    refine S_w (ws' := [(h0, ob 10 (uF f 15 (iv rl))), (oW, ob 7 fW), (hTo, ar 60 To)]) rfl ?_
    refine S_if_eq (tgt := 33) X dX11_roll_5 (by decide) (by decide) (fun h9 => absurd h9 (by decide)) (fun _ => ?_)
    refine S_iload_n X dX11_roll_8 rfl rfl ?_
    refine S_if_lt (tgt := 33) X dX11_roll_9 (by decide) (by omega) (fun c_13 => ?_) (fun c_13 => ?_)
    ·
      refine S_iconst X dX11_roll_33 ?_
      refine S_istore X dX11_roll_34 (nle rfl) ?_
      refine S_iload X dX11_roll_36 rfl ?_
      refine S_if_eq (tgt := 50) X dX11_roll_38 (by decide) (by decide) (fun _ => ?_) (fun h9 => absurd h9 (by decide))
      refine S_iconst X dX11_roll_50 ?_
      exact S_iret X (nle rfl) (nle rfl) dX11_roll_51 (hPo _ _ (Or.inl (⟨by first | rfl | omega, rfl, by first | rfl | assumption | omega⟩)))
    ·
      refine S_iload_n X dX11_roll_12 rfl rfl ?_
      refine S_bipush X dX11_roll_13 rfl ?_
      refine S_icmp_ge (tgt := 33) X dX11_roll_15 (by decide) (by omega) (by decide) (fun c_15 => ?_) (fun c_15 => ?_)
      ·
        refine S_iconst X dX11_roll_33 ?_
        refine S_istore X dX11_roll_34 (nle rfl) ?_
        refine S_iload X dX11_roll_36 rfl ?_
        refine S_if_eq (tgt := 50) X dX11_roll_38 (by decide) (by decide) (fun _ => ?_) (fun h9 => absurd h9 (by decide))
        refine S_iconst X dX11_roll_50 ?_
        exact S_iret X (nle rfl) (nle rfl) dX11_roll_51 (hPo _ _ (Or.inl (⟨by first | rfl | omega, rfl, by first | rfl | assumption | omega⟩)))
      ·
        refine S_iload_n X dX11_roll_18 rfl rfl ?_
        refine S_if_lt (tgt := 33) X dX11_roll_19 (by decide) (by omega) (fun c_17 => ?_) (fun c_17 => ?_)
        ·
          refine S_iconst X dX11_roll_33 ?_
          refine S_istore X dX11_roll_34 (nle rfl) ?_
          refine S_iload X dX11_roll_36 rfl ?_
          refine S_if_eq (tgt := 50) X dX11_roll_38 (by decide) (by decide) (fun _ => ?_) (fun h9 => absurd h9 (by decide))
          refine S_iconst X dX11_roll_50 ?_
          exact S_iret X (nle rfl) (nle rfl) dX11_roll_51 (hPo _ _ (Or.inl (⟨by first | rfl | omega, rfl, by first | rfl | assumption | omega⟩)))
        ·
          refine S_iload_n X dX11_roll_22 rfl rfl ?_
          refine S_sipush X dX11_roll_23 rfl ?_
          refine S_icmp_gt (tgt := 33) X dX11_roll_26 (by decide) (by omega) (by decide) (fun c_19 => ?_) (fun c_19 => ?_)
          ·
            refine S_iconst X dX11_roll_33 ?_
            refine S_istore X dX11_roll_34 (nle rfl) ?_
            refine S_iload X dX11_roll_36 rfl ?_
            refine S_if_eq (tgt := 50) X dX11_roll_38 (by decide) (by decide) (fun _ => ?_) (fun h9 => absurd h9 (by decide))
            refine S_iconst X dX11_roll_50 ?_
            exact S_iret X (nle rfl) (nle rfl) dX11_roll_51 (hPo _ _ (Or.inl (⟨by first | rfl | omega, rfl, by first | rfl | assumption | omega⟩)))
          ·
            refine S_iconst X dX11_roll_29 ?_
            refine S_goto (tgt := 34) X dX11_roll_30 (by decide) ?_
            refine S_istore X dX11_roll_34 (nle rfl) ?_
            refine S_iload X dX11_roll_36 rfl ?_
            refine S_if_eq (tgt := 50) X dX11_roll_38 (by decide) (by decide) (fun h9 => absurd h9 (by decide)) (fun _ => ?_)
            refine S_aload_n X dX11_roll_41 rfl rfl ?_
            refine S_get (v := iv rl) X fgX11_137_10 0 rfl rfl dX11_roll_42 ?_
            refine S_bipush X dX11_roll_45 rfl ?_
            refine S_icmp_lt (tgt := 52) X dX11_roll_47 (by decide) (by omega) (by decide) (fun c_22 => ?_) (fun c_22 => ?_)
            ·
              refine S_aload_n X dX11_roll_52 rfl rfl ?_
              refine S_get (v := iv rl) X fgX11_137_10 0 rfl rfl dX11_roll_53 ?_
              refine S_iconst X dX11_roll_56 ?_
              refine S_imul X dX11_roll_57 ?_
              refine S_istore X dX11_roll_58 (nle rfl) ?_
              refine S_aload_n X dX11_roll_60 rfl rfl ?_
              refine S_get X fgX11_52_10 0 rfl hf1 dX11_roll_61 ?_
              refine S_iload X dX11_roll_64 rfl ?_
              refine S_iload_n X dX11_roll_66 rfl rfl ?_
              refine S_iast X 2 rfl (by omega) (by omega) (nle rfl) dX11_roll_67 ?_
              refine S_w (ws' := [(h0, ob 10 (uF f 15 (iv rl))), (oW, ob 7 fW), (hTo, ar 60 (uZ To (rl * 3) q))]) rfl ?_
              refine S_aload_n X dX11_roll_68 rfl rfl ?_
              refine S_get X fgX11_52_10 0 rfl hf1 dX11_roll_69 ?_
              refine S_iload X dX11_roll_72 rfl ?_
              refine S_iconst X dX11_roll_74 ?_
              refine S_iadd X dX11_roll_75 ?_
              refine S_iload_n X dX11_roll_76 rfl rfl ?_
              refine S_iast X 2 rfl (by omega) (by omega) (nle rfl) dX11_roll_77 ?_
              refine S_w (ws' := [(h0, ob 10 (uF f 15 (iv rl))), (oW, ob 7 fW), (hTo, ar 60 (uZ (uZ To (rl * 3) q) ((rl * 3) + 1) b))]) rfl ?_
              refine S_aload_n X dX11_roll_78 rfl rfl ?_
              refine S_get X fgX11_52_10 0 rfl hf1 dX11_roll_79 ?_
              refine S_iload X dX11_roll_82 rfl ?_
              refine S_iconst X dX11_roll_84 ?_
              refine S_iadd X dX11_roll_85 ?_
              refine S_iload_n X dX11_roll_86 rfl rfl ?_
              refine S_iast X 2 rfl (by omega) (by omega) (nle rfl) dX11_roll_87 ?_
              refine S_w (ws' := [(h0, ob 10 (uF f 15 (iv rl))), (oW, ob 7 fW), (hTo, ar 60 (uZ (uZ (uZ To (rl * 3) q) ((rl * 3) + 1) b) ((rl * 3) + 2) t))]) rfl ?_
              refine S_aload_n X dX11_roll_88 rfl rfl ?_
              refine S_dup X dX11_roll_89 ?_
              refine S_get (v := iv rl) X fgX11_137_10 0 rfl rfl dX11_roll_90 ?_
              refine S_iconst X dX11_roll_93 ?_
              refine S_iadd X dX11_roll_94 ?_
              refine S_put X fpX11_137_10 0 rfl FT_i dX11_roll_95 ?_
              refine S_w (ws' := [(h0, ob 10 (uF f 15 (iv (rl + 1)))), (oW, ob 7 fW), (hTo, ar 60 (uZ (uZ (uZ To (rl * 3) q) ((rl * 3) + 1) b) ((rl * 3) + 2) t))]) (by simp only [List.set]; rw [uF_same (k := 15)]) ?_
              refine S_aload_n X dX11_roll_98 rfl rfl ?_
              refine S_get (v := iv (rl + 1)) X fgX11_137_10 0 rfl rfl dX11_roll_99 ?_
              exact S_iret X (nle rfl) (nle rfl) dX11_roll_102 (hPo _ _ (Or.inr (⟨by first | rfl | omega, rfl, by first | rfl | assumption | omega⟩)))
            ·
              refine S_iconst X dX11_roll_50 ?_
              exact S_iret X (nle rfl) (nle rfl) dX11_roll_51 (hPo _ _ (Or.inl (⟨by first | rfl | omega, rfl, by first | rfl | assumption | omega⟩)))
set_option maxHeartbeats 4000000 in
set_option maxRecDepth 100000 in
theorem kX11_count (l : Launch) (h0 : Nat) (f : Nat → AV) (oW : Nat) (fW : Nat → AV) (fS : Nat → AV) (pl : Int) (n : Int) (ec : Int) (mk : Int) (oS : Nat) (oD : Nat) (fD : Nat → AV) (td : Int) (un : Int) (hi : Int) (im : Int) (nx : Int) (hTa : Nat) (fTa : Nat → AV) (mt : Int) (v : Int) (z2 : Int) (z3 : Int) (z5 : Int) (z8 : Int) (z10 : Int) (hf0 : f 3 = rv oW) (hf1 : f 7 = rv oS) (hf2 : f 5 = rv oD) (hf3 : fW 0 = iv pl) (hf4 : fW 1 = iv mt) (hf5 : f 0 = rv hTa) (hf6 : fTa 1 = iv z3) (hf7 : f 13 = iv z2) (hf8 : f 14 = iv z5) (hf9 : f 12 = iv z8) (hf10 : f 15 = iv z10) (hf11 : fS 0 = iv pl) (hf12 : fS 1 = iv n) (hf13 : fS 2 = iv ec) (hf14 : fS 3 = iv mk) (hx_v : inR v) : AMi l yX11_count cX11_count 2 .int 0 0 0 [rv h0, iv v] [(h0, ob 10 f), (oW, ob 7 fW), (oS, ob 5 fS), (oD, ob 0 (uF (uF (uF (uF (uF fD 0 (iv td)) 1 (iv un)) 2 (iv hi)) 3 (iv im)) 4 (iv nx))), (hTa, ob 6 fTa)] (fun z u => ∃ z9 : Int, z = z9 ∧ u = [(h0, ob 10 f), (oW, ob 7 fW), (oS, ob 5 fS), (oD, ob 0 (uF (uF (uF (uF (uF fD 0 (iv td)) 1 (iv un)) 2 (iv hi)) 3 (iv im)) 4 (iv nx))), (hTa, ob 6 fTa)]) := by
  refine AMi.of2 rfl (nle rfl) ?_
  intro D G A p e s m args below meth c Po hPo X
  refine S_iload_n X dX11_count_0 rfl rfl ?_
  by_cases hs_1 : v = 0
  · refine S_tswIn (j := 0) (tgt := 64) X dX11_count_1 hs_1 rfl (by decide) (by decide) ?_
    refine S_aload_n X dX11_count_64 rfl rfl ?_
    refine S_get X fgX11_35_10 0 rfl hf0 dX11_count_65 ?_
    refine S_get X fgX11_115_7 1 rfl hf3 dX11_count_68 ?_
    exact S_iret X (nle rfl) (nle rfl) dX11_count_71 (hPo _ _ (⟨_, rfl, rfl⟩))
  by_cases hs_2 : v = 1
  · refine S_tswIn (j := 1) (tgt := 72) X dX11_count_1 hs_2 rfl (by decide) (by decide) ?_
    refine S_aload_n X dX11_count_72 rfl rfl ?_
    refine S_get X fgX11_35_10 0 rfl hf0 dX11_count_73 ?_
    refine S_get X fgX11_335_7 1 rfl hf4 dX11_count_76 ?_
    exact S_iret X (nle rfl) (nle rfl) dX11_count_79 (hPo _ _ (⟨_, rfl, rfl⟩))
  by_cases hs_3 : v = 2
  · refine S_tswIn (j := 2) (tgt := 80) X dX11_count_1 hs_3 rfl (by decide) (by decide) ?_
    refine S_aload_n X dX11_count_80 rfl rfl ?_
    refine S_get X fgX11_118_10 0 rfl hf7 dX11_count_81 ?_
    exact S_iret X (nle rfl) (nle rfl) dX11_count_84 (hPo _ _ (⟨_, rfl, rfl⟩))
  by_cases hs_4 : v = 3
  · refine S_tswIn (j := 3) (tgt := 85) X dX11_count_1 hs_4 rfl (by decide) (by decide) ?_
    refine S_aload_n X dX11_count_85 rfl rfl ?_
    refine S_get X fgX11_10_10 0 rfl hf5 dX11_count_86 ?_
    refine S_get X fgX11_100_6 4 rfl hf6 dX11_count_89 ?_
    exact S_iret X (nle rfl) (nle rfl) dX11_count_92 (hPo _ _ (⟨_, rfl, rfl⟩))
  by_cases hs_5 : v = 4
  · refine S_tswIn (j := 4) (tgt := 93) X dX11_count_1 hs_5 rfl (by decide) (by decide) ?_
    refine S_aload_n X dX11_count_93 rfl rfl ?_
    refine S_get X fgX11_48_10 0 rfl hf2 dX11_count_94 ?_
    refine S_get (v := iv td) X fgX11_205_0 3 rfl rfl dX11_count_97 ?_
    exact S_iret X (nle rfl) (nle rfl) dX11_count_100 (hPo _ _ (⟨_, rfl, rfl⟩))
  by_cases hs_6 : v = 5
  · refine S_tswIn (j := 5) (tgt := 101) X dX11_count_1 hs_6 rfl (by decide) (by decide) ?_
    refine S_aload_n X dX11_count_101 rfl rfl ?_
    refine S_get X fgX11_93_10 0 rfl hf8 dX11_count_102 ?_
    exact S_iret X (nle rfl) (nle rfl) dX11_count_105 (hPo _ _ (⟨_, rfl, rfl⟩))
  by_cases hs_7 : v = 6
  · refine S_tswIn (j := 6) (tgt := 106) X dX11_count_1 hs_7 rfl (by decide) (by decide) ?_
    refine S_aload_n X dX11_count_106 rfl rfl ?_
    refine S_get X fgX11_59_10 0 rfl hf1 dX11_count_107 ?_
    refine S_get X fgX11_182_5 2 rfl hf12 dX11_count_110 ?_
    exact S_iret X (nle rfl) (nle rfl) dX11_count_113 (hPo _ _ (⟨_, rfl, rfl⟩))
  by_cases hs_8 : v = 7
  · refine S_tswIn (j := 7) (tgt := 114) X dX11_count_1 hs_8 rfl (by decide) (by decide) ?_
    refine S_aload_n X dX11_count_114 rfl rfl ?_
    refine S_get X fgX11_59_10 0 rfl hf1 dX11_count_115 ?_
    refine S_get X fgX11_185_5 2 rfl hf13 dX11_count_118 ?_
    exact S_iret X (nle rfl) (nle rfl) dX11_count_121 (hPo _ _ (⟨_, rfl, rfl⟩))
  by_cases hs_9 : v = 8
  · refine S_tswIn (j := 8) (tgt := 122) X dX11_count_1 hs_9 rfl (by decide) (by decide) ?_
    refine S_aload_n X dX11_count_122 rfl rfl ?_
    refine S_get X fgX11_89_10 0 rfl hf9 dX11_count_123 ?_
    exact S_iret X (nle rfl) (nle rfl) dX11_count_126 (hPo _ _ (⟨_, rfl, rfl⟩))
  by_cases hs_10 : v = 9
  · refine S_tswIn (j := 9) (tgt := 127) X dX11_count_1 hs_10 rfl (by decide) (by decide) ?_
    refine S_aload_n X dX11_count_127 rfl rfl ?_
    refine S_get X fgX11_59_10 0 rfl hf1 dX11_count_128 ?_
    refine S_get X fgX11_196_5 2 rfl hf14 dX11_count_131 ?_
    exact S_iret X (nle rfl) (nle rfl) dX11_count_134 (hPo _ _ (⟨_, rfl, rfl⟩))
  by_cases hs_11 : v = 10
  · refine S_tswIn (j := 10) (tgt := 135) X dX11_count_1 hs_11 rfl (by decide) (by decide) ?_
    refine S_aload_n X dX11_count_135 rfl rfl ?_
    refine S_get X fgX11_137_10 0 rfl hf10 dX11_count_136 ?_
    exact S_iret X (nle rfl) (nle rfl) dX11_count_139 (hPo _ _ (⟨_, rfl, rfl⟩))
  by_cases hs_12 : v = 11
  · refine S_tswIn (j := 11) (tgt := 140) X dX11_count_1 hs_12 rfl (by decide) (by decide) ?_
    refine S_aload_n X dX11_count_140 rfl rfl ?_
    refine S_get X fgX11_48_10 0 rfl hf2 dX11_count_141 ?_
    refine S_get (v := iv un) X fgX11_216_0 3 rfl rfl dX11_count_144 ?_
    exact S_iret X (nle rfl) (nle rfl) dX11_count_147 (hPo _ _ (⟨_, rfl, rfl⟩))
  refine S_tswOut (tgt := 148) X dX11_count_1 (by omega) (by omega) (by decide) ?_
  refine S_ldc (n := -1000000) X (by rw [show i32 (-1000000) = (-1000000 : Int32) from by decide]; exact m697) dX11_count_148 ?_
  exact S_iret X (nle rfl) (nle rfl) dX11_count_150 (hPo _ _ (⟨_, rfl, rfl⟩))
