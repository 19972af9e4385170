theorem nm_0 {T : Int → Int} {n a lo hi : Int} (h : ¬ (48 ≤ ch T n (sk T n a) ∧ ch T n (sk T n a) ≤ 57)) : pNum T n 2 lo hi a = .inl (sk T n a) := by unfold pNum; rw [if_neg h]
theorem nm_1 {T : Int → Int} {n a lo hi v : Int} (h : sk T n a < n ∧ 48 ≤ T (sk T n a) ∧ T (sk T n a) ≤ 57) (h2 : ¬ (sk T n a + 1 < n ∧ 48 ≤ T (sk T n a + 1) ∧ T (sk T n a + 1) ≤ 57)) (hv : v = T (sk T n a) - 48) : pNum T n 2 lo hi a = numE lo hi (.inr (sk T n a + 1, v)) := by
  have hc : ch T n (sk T n a) = T (sk T n a) := if_pos h.1
  unfold pNum
  rw [if_pos (by omega), numF_dig h (by omega), numF_end h2, hv]
  congr 3
  omega
theorem nm_2 {T : Int → Int} {n a lo hi v : Int} (h : sk T n a < n ∧ 48 ≤ T (sk T n a) ∧ T (sk T n a) ≤ 57) (h2 : sk T n a + 1 < n ∧ 48 ≤ T (sk T n a + 1) ∧ T (sk T n a + 1) ≤ 57) (h3 : ¬ (sk T n a + 1 + 1 < n ∧ 48 ≤ T (sk T n a + 1 + 1) ∧ T (sk T n a + 1 + 1) ≤ 57)) (hv : v = 10 * (T (sk T n a) - 48) + T (sk T n a + 1) - 48) : pNum T n 2 lo hi a = numE lo hi (.inr (sk T n a + 1 + 1, v)) := by
  have hc : ch T n (sk T n a) = T (sk T n a) := if_pos h.1
  unfold pNum
  rw [if_pos (by omega), numF_dig h (by omega), numF_dig h2 (by omega), numF_end h3, hv]
  congr 3
  omega
theorem nm_3 {T : Int → Int} {n a lo hi : Int} (h : sk T n a < n ∧ 48 ≤ T (sk T n a) ∧ T (sk T n a) ≤ 57) (h2 : sk T n a + 1 < n ∧ 48 ≤ T (sk T n a + 1) ∧ T (sk T n a + 1) ≤ 57) (h3 : sk T n a + 1 + 1 < n ∧ 48 ≤ T (sk T n a + 1 + 1) ∧ T (sk T n a + 1 + 1) ≤ 57) : pNum T n 2 lo hi a = .inl (sk T n a + 1 + 1) := by
  have hc : ch T n (sk T n a) = T (sk T n a) := if_pos h.1
  unfold pNum
  rw [if_pos (by omega), numF_dig h (by omega), numF_dig h2 (by omega), numF_big h3 (by omega)]
  rfl
def topOf (k : Int) : Int := if k = 0 then 99 else if k = 1 then 9 else if k = 2 then 3 else if k = 3 then 5 else 10
set_option maxHeartbeats 4000000 in
set_option maxRecDepth 100000 in
theorem kX12_number (l : Launch) (h0 : Nat) (hT : Nat) (f : Nat → AV) (T : Int → Int) (n : Int) (a : Int) (w : Int) (dp : Int) (lo : Int) (hi : Int) (hf0 : f 1 = rv hT) (hf1 : f 2 = iv n) (okT : okT T n) (ha : 0 ≤ a ∧ a ≤ n) (hw : w = -1) (hlh : -100 ≤ lo ∧ lo ≤ 100 ∧ -100 ≤ hi ∧ hi ≤ 100) : AMi l yX12_number cX12_number 4 .int 2 0 0 [rv h0, iv lo, iv hi] [(h0, ob 11 (uF (uF (uF f 3 (iv a)) 4 (iv w)) 5 (iv dp))), (hT, ar 160 T)] (fun z u => (∃ a2 : Int, ∃ fl : Int, ∃ v : Int, z = v ∧ u = [(h0, ob 11 (uF (uF (uF f 3 (iv a2)) 4 (iv fl)) 5 (iv dp))), (hT, ar 160 T)] ∧ pNum T n 2 lo hi a = .inl fl ∧ (a ≤ a2 ∧ a2 ≤ n ∧ 0 ≤ fl ∧ fl ≤ n ∧ -100 ≤ v ∧ v ≤ 100)) ∨ (∃ a2 : Int, ∃ v : Int, z = v ∧ u = [(h0, ob 11 (uF (uF (uF f 3 (iv a2)) 4 (iv w)) 5 (iv dp))), (hT, ar 160 T)] ∧ pNum T n 2 lo hi a = .inr (a2, v))) := by
  refine AMi.of2 rfl (nle rfl) ?_
  intro D G A p e s m args below meth c Po hPo X
  obtain ⟨hn0, hn1, hT2⟩ := id okT
  refine S_aload_n X dX12_number_0 rfl rfl ?_
  refine S_calli X (kX12_look l h0 hT f T n a w dp hf0 hf1 (by omega) (by omega)) (is := [0, 1]) rfl (run_V X lkX12_130 0 rfl rfl (is := [0, 1]) (avs := []) (rest := []) rfl rfl (nle rfl) ⟨nle rfl, nle rfl⟩ ⟨nle rfl, nle rfl⟩ dX12_number_1 (by decide) rfl) (fun z_3 u_1 hp_2 => ?_)
  obtain ⟨hz_4, hu_5⟩ := hp_2
  subst hz_4
  subst hu_5
  refine ⟨rfl, ?_⟩
  refine S_w (ws' := [(h0, ob 11 (uF (uF (uF f 3 (iv (sk T n a))) 4 (iv w)) 5 (iv dp))), (hT, ar 160 T)]) rfl ?_
  have hsk := sk_in (T := T) ha.2
  have hcm_0 := chM_or okT (a := sk T n a) (by omega) (by omega)
  have hct_0 : sk T n a < n → ch T n (sk T n a) = T (sk T n a) := fun h => if_pos h
  refine S_calli X (kX12_isDigit l (chM T n (sk T n a)) (by omega)) (is := []) rfl (run_S X lkX12_133 (is := []) (avs := [iv (chM T n (sk T n a))]) (rest := []) rfl rfl (nle rfl) ⟨nle rfl, nle rfl⟩ ⟨nle rfl, nle rfl⟩ dX12_number_4 (by decide) rfl) (fun z_8 u_6 hp_7 => ?_)
  rcases hp_7 with ⟨hz_9, hu_10, hd_11⟩ | ⟨hz_12, hu_13, hd_14⟩
  ·
    subst hz_9
    subst hu_10
    refine ⟨rfl, ?_⟩
    refine S_w (ws' := [(h0, ob 11 (uF (uF (uF f 3 (iv (sk T n a))) 4 (iv w)) 5 (iv dp))), (hT, ar 160 T)]) rfl ?_
    refine S_if_ne (tgt := 16) X dX12_number_7 (by decide) (by decide) (fun h9 => absurd h9 (by decide)) (fun _ => ?_)
    refine S_aload_n X dX12_number_10 rfl rfl ?_
    refine S_callv X (kX12_bad l h0 f (sk T n a) w dp (by omega)) (is := [0]) rfl (run_V X lkX12_127 0 rfl rfl (is := [0]) (avs := []) (rest := []) rfl rfl (nle rfl) ⟨nle rfl, nle rfl⟩ ⟨nle rfl, nle rfl⟩ dX12_number_11 (by decide) rfl) (fun u_16 hp_17 => ?_)
    have hu_20 := hp_17
    subst hu_20
    refine ⟨rfl, ?_⟩
    refine S_w (ws' := [(h0, ob 11 (uF (uF (uF f 3 (iv (sk T n a))) 4 (iv (sk T n a))) 5 (iv dp))), (hT, ar 160 T)]) rfl ?_
    refine S_iload_n X dX12_number_14 rfl rfl ?_
    exact S_iret X (nle rfl) (nle rfl) dX12_number_15 (hPo _ _ (Or.inl ⟨_, _, _, rfl, rfl, nm_0 (by omega), by omega⟩))
  ·
    subst hz_12
    subst hu_13
    refine ⟨rfl, ?_⟩
    refine S_w (ws' := [(h0, ob 11 (uF (uF (uF f 3 (iv (sk T n a))) 4 (iv w)) 5 (iv dp))), (hT, ar 160 T)]) rfl ?_
    refine S_if_ne (tgt := 16) X dX12_number_7 (by decide) (by decide) (fun _ => ?_) (fun h9 => absurd h9 (by decide))
    refine S_aload_n X dX12_number_16 rfl rfl ?_
    refine S_calli X (kX12_here l h0 hT f T n (sk T n a) w dp hf0 hf1 (by omega) (by omega)) (is := [0, 1]) rfl (run_V X lkX12_114 0 rfl rfl (is := [0, 1]) (avs := []) (rest := []) rfl rfl (nle rfl) ⟨nle rfl, nle rfl⟩ ⟨nle rfl, nle rfl⟩ dX12_number_17 (by decide) rfl) (fun z_24 u_22 hp_23 => ?_)
    obtain ⟨hz_25, hu_26⟩ := hp_23
    subst hz_25
    subst hu_26
    refine ⟨rfl, ?_⟩
    refine S_w (ws' := [(h0, ob 11 (uF (uF (uF f 3 (iv (sk T n a))) 4 (iv w)) 5 (iv dp))), (hT, ar 160 T)]) rfl ?_
    refine S_bipush X dX12_number_20 rfl ?_
    refine S_isub X dX12_number_22 ?_
    refine S_istore_n X dX12_number_23 rfl (nle rfl) ?_
    refine S_aload_n X dX12_number_24 rfl rfl ?_
    refine S_dup X dX12_number_25 ?_
    refine S_get (v := iv (sk T n a)) X fgX12_111_11 0 rfl rfl dX12_number_26 ?_
    refine S_iconst X dX12_number_29 ?_
    refine S_iadd X dX12_number_30 ?_
    refine S_put X fpX12_111_11 0 rfl FT_i dX12_number_31 ?_
    refine S_w (ws' := [(h0, ob 11 (uF (uF (uF f 3 (iv ((sk T n a) + 1))) 4 (iv w)) 5 (iv dp))), (hT, ar 160 T)]) (by simp only [List.set]; rw [uF_mv (j := 5) (k := 3) (by decide), uF_mv (j := 4) (k := 3) (by decide), uF_same (k := 3)]) ?_
    refine S_aload_n X dX12_number_34 rfl rfl ?_
    refine S_calli X (kX12_here l h0 hT f T n ((sk T n a) + 1) w dp hf0 hf1 (by omega) (by omega)) (is := [0, 1]) rfl (run_V X lkX12_114 0 rfl rfl (is := [0, 1]) (avs := []) (rest := []) rfl rfl (nle rfl) ⟨nle rfl, nle rfl⟩ ⟨nle rfl, nle rfl⟩ dX12_number_35 (by decide) rfl) (fun z_29 u_27 hp_28 => ?_)
    obtain ⟨hz_30, hu_31⟩ := hp_28
    subst hz_30
    subst hu_31
    refine ⟨rfl, ?_⟩
    refine S_w (ws' := [(h0, ob 11 (uF (uF (uF f 3 (iv ((sk T n a) + 1))) 4 (iv w)) 5 (iv dp))), (hT, ar 160 T)]) rfl ?_
    have hcm_1 := chM_or okT (a := sk T n a + 1) (by omega) (by omega)
    have hct_1 : sk T n a + 1 < n → ch T n (sk T n a + 1) = T (sk T n a + 1) := fun h => if_pos h
    refine S_calli X (kX12_isDigit l (chM T n ((sk T n a) + 1)) (by omega)) (is := []) rfl (run_S X lkX12_133 (is := []) (avs := [iv (chM T n ((sk T n a) + 1))]) (rest := []) rfl rfl (nle rfl) ⟨nle rfl, nle rfl⟩ ⟨nle rfl, nle rfl⟩ dX12_number_38 (by decide) rfl) (fun z_34 u_32 hp_33 => ?_)
    rcases hp_33 with ⟨hz_35, hu_36, hd_37⟩ | ⟨hz_38, hu_39, hd_40⟩
    ·
      subst hz_35
      subst hu_36
      refine ⟨rfl, ?_⟩
      refine S_w (ws' := [(h0, ob 11 (uF (uF (uF f 3 (iv ((sk T n a) + 1))) 4 (iv w)) 5 (iv dp))), (hT, ar 160 T)]) rfl ?_
      refine S_if_eq (tgt := 67) X dX12_number_41 (by decide) (by decide) (fun _ => ?_) (fun h9 => absurd h9 (by decide))
      refine S_aload_n X dX12_number_67 rfl rfl ?_
      refine S_calli X (kX12_here l h0 hT f T n ((sk T n a) + 1) w dp hf0 hf1 (by omega) (by omega)) (is := [0, 1]) rfl (run_V X lkX12_114 0 rfl rfl (is := [0, 1]) (avs := []) (rest := []) rfl rfl (nle rfl) ⟨nle rfl, nle rfl⟩ ⟨nle rfl, nle rfl⟩ dX12_number_68 (by decide) rfl) (fun z_44 u_42 hp_43 => ?_)
      obtain ⟨hz_45, hu_46⟩ := hp_43
      subst hz_45
      subst hu_46
      refine ⟨rfl, ?_⟩
      refine S_w (ws' := [(h0, ob 11 (uF (uF (uF f 3 (iv ((sk T n a) + 1))) 4 (iv w)) 5 (iv dp))), (hT, ar 160 T)]) rfl ?_
      have hcm_2 := chM_or okT (a := ((sk T n a) + 1)) (by omega) (by omega)
      have hct_2 : ((sk T n a) + 1) < n → ch T n (((sk T n a) + 1)) = T (((sk T n a) + 1)) := fun h => if_pos h
      refine S_calli X (kX12_isDigit l (chM T n ((sk T n a) + 1)) (by omega)) (is := []) rfl (run_S X lkX12_133 (is := []) (avs := [iv (chM T n ((sk T n a) + 1))]) (rest := []) rfl rfl (nle rfl) ⟨nle rfl, nle rfl⟩ ⟨nle rfl, nle rfl⟩ dX12_number_71 (by decide) rfl) (fun z_49 u_47 hp_48 => ?_)
      rcases hp_48 with ⟨hz_50, hu_51, hd_52⟩ | ⟨hz_53, hu_54, hd_55⟩
      ·
        subst hz_50
        subst hu_51
        refine ⟨rfl, ?_⟩
        refine S_w (ws' := [(h0, ob 11 (uF (uF (uF f 3 (iv ((sk T n a) + 1))) 4 (iv w)) 5 (iv dp))), (hT, ar 160 T)]) rfl ?_
        refine S_if_eq (tgt := 84) X dX12_number_74 (by decide) (by decide) (fun _ => ?_) (fun h9 => absurd h9 (by decide))
        refine S_iload_n X dX12_number_84 rfl rfl ?_
        refine S_iload_n X dX12_number_85 rfl rfl ?_
        refine S_iload_n X dX12_number_86 rfl rfl ?_
        refine S_calli X (kX12_in l ((chM T n (sk T n a)) - 48) lo hi (by omega) (by omega) (by omega)) (is := []) rfl (run_S X lkX12_216 (is := []) (avs := [iv ((chM T n (sk T n a)) - 48), iv lo, iv hi]) (rest := []) rfl rfl (nle rfl) ⟨nle rfl, nle rfl⟩ ⟨nle rfl, nle rfl⟩ dX12_number_87 (by decide) rfl) (fun z_59 u_57 hp_58 => ?_)
        rcases hp_58 with ⟨hz_60, hu_61, hq_62⟩ | ⟨hz_63, hu_64, hq_65⟩
        ·
          subst hz_60
          subst hu_61
          refine ⟨rfl, ?_⟩
          refine S_w (ws' := [(h0, ob 11 (uF (uF (uF f 3 (iv ((sk T n a) + 1))) 4 (iv w)) 5 (iv dp))), (hT, ar 160 T)]) rfl ?_
          refine S_if_ne (tgt := 107) X dX12_number_90 (by decide) (by decide) (fun h9 => absurd h9 (by decide)) (fun _ => ?_)
          refine S_aload_n X dX12_number_93 rfl rfl ?_
          refine S_dup X dX12_number_94 ?_
          refine S_get (v := iv ((sk T n a) + 1)) X fgX12_111_11 0 rfl rfl dX12_number_95 ?_
          refine S_iconst X dX12_number_98 ?_
          refine S_isub X dX12_number_99 ?_
          refine S_put X fpX12_111_11 0 rfl FT_i dX12_number_100 ?_
          refine S_w (ws' := [(h0, ob 11 (uF (uF (uF f 3 (iv (((sk T n a) + 1) - 1))) 4 (iv w)) 5 (iv dp))), (hT, ar 160 T)]) (by simp only [List.set]; rw [uF_mv (j := 5) (k := 3) (by decide), uF_mv (j := 4) (k := 3) (by decide), uF_same (k := 3)]) ?_
          refine S_aload_n X dX12_number_103 rfl rfl ?_
          refine S_callv X (kX12_bad l h0 f (((sk T n a) + 1) - 1) w dp (by omega)) (is := [0]) rfl (run_V X lkX12_127 0 rfl rfl (is := [0]) (avs := []) (rest := []) rfl rfl (nle rfl) ⟨nle rfl, nle rfl⟩ ⟨nle rfl, nle rfl⟩ dX12_number_104 (by decide) rfl) (fun u_67 hp_68 => ?_)
          have hu_71 := hp_68
          subst hu_71
          refine ⟨rfl, ?_⟩
          refine S_w (ws' := [(h0, ob 11 (uF (uF (uF f 3 (iv (((sk T n a) + 1) - 1))) 4 (iv (((sk T n a) + 1) - 1))) 5 (iv dp))), (hT, ar 160 T)]) rfl ?_
          refine S_iload_n X dX12_number_107 rfl rfl ?_
          exact S_iret X (nle rfl) (nle rfl) dX12_number_108 (hPo _ _ (Or.inl ⟨_, _, _, rfl, rfl, (nm_1 (v := (chM T n (sk T n a)) - 48) (by omega) (by omega) (by omega)).trans (numE_o (by omega)), by omega⟩))
        ·
          subst hz_63
          subst hu_64
          refine ⟨rfl, ?_⟩
          refine S_w (ws' := [(h0, ob 11 (uF (uF (uF f 3 (iv ((sk T n a) + 1))) 4 (iv w)) 5 (iv dp))), (hT, ar 160 T)]) rfl ?_
          refine S_if_ne (tgt := 107) X dX12_number_90 (by decide) (by decide) (fun _ => ?_) (fun h9 => absurd h9 (by decide))
          refine S_iload_n X dX12_number_107 rfl rfl ?_
          exact S_iret X (nle rfl) (nle rfl) dX12_number_108 (hPo _ _ (Or.inr ⟨_, _, rfl, rfl, (nm_1 (by omega) (by omega) (by omega)).trans (numE_i (by omega))⟩))
      ·
        subst hz_53
        subst hu_54
        refine ⟨rfl, ?_⟩
        refine S_w (ws' := [(h0, ob 11 (uF (uF (uF f 3 (iv ((sk T n a) + 1))) 4 (iv w)) 5 (iv dp))), (hT, ar 160 T)]) rfl ?_
        refine S_if_eq (tgt := 84) X dX12_number_74 (by decide) (by decide) (fun h9 => absurd h9 (by decide)) (fun _ => ?_)
        refine S_aload_n X dX12_number_77 rfl rfl ?_
        refine S_callv X (kX12_bad l h0 f ((sk T n a) + 1) w dp (by omega)) (is := [0]) rfl (run_V X lkX12_127 0 rfl rfl (is := [0]) (avs := []) (rest := []) rfl rfl (nle rfl) ⟨nle rfl, nle rfl⟩ ⟨nle rfl, nle rfl⟩ dX12_number_78 (by decide) rfl) (fun u_74 hp_75 => ?_)
        have hu_78 := hp_75
        subst hu_78
        refine ⟨rfl, ?_⟩
        refine S_w (ws' := [(h0, ob 11 (uF (uF (uF f 3 (iv ((sk T n a) + 1))) 4 (iv ((sk T n a) + 1))) 5 (iv dp))), (hT, ar 160 T)]) rfl ?_
        refine S_goto (tgt := 107) X dX12_number_81 (by decide) ?_
        refine S_iload_n X dX12_number_107 rfl rfl ?_
        exact S_iret X (nle rfl) (nle rfl) dX12_number_108 (hPo _ _ ((by exfalso; omega)))
    ·
      subst hz_38
      subst hu_39
      refine ⟨rfl, ?_⟩
      refine S_w (ws' := [(h0, ob 11 (uF (uF (uF f 3 (iv ((sk T n a) + 1))) 4 (iv w)) 5 (iv dp))), (hT, ar 160 T)]) rfl ?_
      refine S_if_eq (tgt := 67) X dX12_number_41 (by decide) (by decide) (fun h9 => absurd h9 (by decide)) (fun _ => ?_)
      refine S_bipush X dX12_number_44 rfl ?_
      refine S_iload_n X dX12_number_46 rfl rfl ?_
      refine S_imul X dX12_number_47 ?_
      refine S_aload_n X dX12_number_48 rfl rfl ?_
      refine S_calli X (kX12_here l h0 hT f T n ((sk T n a) + 1) w dp hf0 hf1 (by omega) (by omega)) (is := [0, 1]) rfl (run_V X lkX12_114 0 rfl rfl (is := [0, 1]) (avs := []) (rest := [iv (10 * ((chM T n (sk T n a)) - 48))]) rfl rfl (nle rfl) ⟨nle rfl, nle rfl⟩ ⟨nle rfl, nle rfl⟩ dX12_number_49 (by decide) rfl) (fun z_82 u_80 hp_81 => ?_)
      obtain ⟨hz_83, hu_84⟩ := hp_81
      subst hz_83
      subst hu_84
      refine ⟨rfl, ?_⟩
      refine S_w (ws' := [(h0, ob 11 (uF (uF (uF f 3 (iv ((sk T n a) + 1))) 4 (iv w)) 5 (iv dp))), (hT, ar 160 T)]) rfl ?_
      refine S_iadd X dX12_number_52 ?_
      refine S_bipush X dX12_number_53 rfl ?_
      refine S_isub X dX12_number_55 ?_
      refine S_istore_n X dX12_number_56 rfl (nle rfl) ?_
      refine S_aload_n X dX12_number_57 rfl rfl ?_
      refine S_dup X dX12_number_58 ?_
      refine S_get (v := iv ((sk T n a) + 1)) X fgX12_111_11 0 rfl rfl dX12_number_59 ?_
      refine S_iconst X dX12_number_62 ?_
      refine S_iadd X dX12_number_63 ?_
      refine S_put X fpX12_111_11 0 rfl FT_i dX12_number_64 ?_
      refine S_w (ws' := [(h0, ob 11 (uF (uF (uF f 3 (iv (((sk T n a) + 1) + 1))) 4 (iv w)) 5 (iv dp))), (hT, ar 160 T)]) (by simp only [List.set]; rw [uF_mv (j := 5) (k := 3) (by decide), uF_mv (j := 4) (k := 3) (by decide), uF_same (k := 3)]) ?_
      refine S_aload_n X dX12_number_67 rfl rfl ?_
      refine S_calli X (kX12_here l h0 hT f T n (((sk T n a) + 1) + 1) w dp hf0 hf1 (by omega) (by omega)) (is := [0, 1]) rfl (run_V X lkX12_114 0 rfl rfl (is := [0, 1]) (avs := []) (rest := []) rfl rfl (nle rfl) ⟨nle rfl, nle rfl⟩ ⟨nle rfl, nle rfl⟩ dX12_number_68 (by decide) rfl) (fun z_87 u_85 hp_86 => ?_)
      obtain ⟨hz_88, hu_89⟩ := hp_86
      subst hz_88
      subst hu_89
      refine ⟨rfl, ?_⟩
      refine S_w (ws' := [(h0, ob 11 (uF (uF (uF f 3 (iv (((sk T n a) + 1) + 1))) 4 (iv w)) 5 (iv dp))), (hT, ar 160 T)]) rfl ?_
      have hcm_2 := chM_or okT (a := (((sk T n a) + 1) + 1)) (by omega) (by omega)
      have hct_2 : (((sk T n a) + 1) + 1) < n → ch T n ((((sk T n a) + 1) + 1)) = T ((((sk T n a) + 1) + 1)) := fun h => if_pos h
      refine S_calli X (kX12_isDigit l (chM T n (((sk T n a) + 1) + 1)) (by omega)) (is := []) rfl (run_S X lkX12_133 (is := []) (avs := [iv (chM T n (((sk T n a) + 1) + 1))]) (rest := []) rfl rfl (nle rfl) ⟨nle rfl, nle rfl⟩ ⟨nle rfl, nle rfl⟩ dX12_number_71 (by decide) rfl) (fun z_92 u_90 hp_91 => ?_)
      rcases hp_91 with ⟨hz_93, hu_94, hd_95⟩ | ⟨hz_96, hu_97, hd_98⟩
      ·
        subst hz_93
        subst hu_94
        refine ⟨rfl, ?_⟩
        refine S_w (ws' := [(h0, ob 11 (uF (uF (uF f 3 (iv (((sk T n a) + 1) + 1))) 4 (iv w)) 5 (iv dp))), (hT, ar 160 T)]) rfl ?_
        refine S_if_eq (tgt := 84) X dX12_number_74 (by decide) (by decide) (fun _ => ?_) (fun h9 => absurd h9 (by decide))
        refine S_iload_n X dX12_number_84 rfl rfl ?_
        refine S_iload_n X dX12_number_85 rfl rfl ?_
        refine S_iload_n X dX12_number_86 rfl rfl ?_
        refine S_calli X (kX12_in l (((10 * ((chM T n (sk T n a)) - 48)) + (chM T n ((sk T n a) + 1))) - 48) lo hi (by omega) (by omega) (by omega)) (is := []) rfl (run_S X lkX12_216 (is := []) (avs := [iv (((10 * ((chM T n (sk T n a)) - 48)) + (chM T n ((sk T n a) + 1))) - 48), iv lo, iv hi]) (rest := []) rfl rfl (nle rfl) ⟨nle rfl, nle rfl⟩ ⟨nle rfl, nle rfl⟩ dX12_number_87 (by decide) rfl) (fun z_102 u_100 hp_101 => ?_)
        rcases hp_101 with ⟨hz_103, hu_104, hq_105⟩ | ⟨hz_106, hu_107, hq_108⟩
        ·
          subst hz_103
          subst hu_104
          refine ⟨rfl, ?_⟩
          refine S_w (ws' := [(h0, ob 11 (uF (uF (uF f 3 (iv (((sk T n a) + 1) + 1))) 4 (iv w)) 5 (iv dp))), (hT, ar 160 T)]) rfl ?_
          refine S_if_ne (tgt := 107) X dX12_number_90 (by decide) (by decide) (fun h9 => absurd h9 (by decide)) (fun _ => ?_)
          refine S_aload_n X dX12_number_93 rfl rfl ?_
          refine S_dup X dX12_number_94 ?_
          refine S_get (v := iv (((sk T n a) + 1) + 1)) X fgX12_111_11 0 rfl rfl dX12_number_95 ?_
          refine S_iconst X dX12_number_98 ?_
          refine S_isub X dX12_number_99 ?_
          refine S_put X fpX12_111_11 0 rfl FT_i dX12_number_100 ?_
          refine S_w (ws' := [(h0, ob 11 (uF (uF (uF f 3 (iv ((((sk T n a) + 1) + 1) - 1))) 4 (iv w)) 5 (iv dp))), (hT, ar 160 T)]) (by simp only [List.set]; rw [uF_mv (j := 5) (k := 3) (by decide), uF_mv (j := 4) (k := 3) (by decide), uF_same (k := 3)]) ?_
          refine S_aload_n X dX12_number_103 rfl rfl ?_
          refine S_callv X (kX12_bad l h0 f ((((sk T n a) + 1) + 1) - 1) w dp (by omega)) (is := [0]) rfl (run_V X lkX12_127 0 rfl rfl (is := [0]) (avs := []) (rest := []) rfl rfl (nle rfl) ⟨nle rfl, nle rfl⟩ ⟨nle rfl, nle rfl⟩ dX12_number_104 (by decide) rfl) (fun u_110 hp_111 => ?_)
          have hu_114 := hp_111
          subst hu_114
          refine ⟨rfl, ?_⟩
          refine S_w (ws' := [(h0, ob 11 (uF (uF (uF f 3 (iv ((((sk T n a) + 1) + 1) - 1))) 4 (iv ((((sk T n a) + 1) + 1) - 1))) 5 (iv dp))), (hT, ar 160 T)]) rfl ?_
          refine S_iload_n X dX12_number_107 rfl rfl ?_
          exact S_iret X (nle rfl) (nle rfl) dX12_number_108 (hPo _ _ (Or.inl ⟨_, _, _, rfl, rfl, (nm_2 (v := ((10 * ((chM T n (sk T n a)) - 48)) + (chM T n ((sk T n a) + 1))) - 48) (by omega) (by omega) (by omega) (by omega)).trans (numE_o (by omega)), by omega⟩))
        ·
          subst hz_106
          subst hu_107
          refine ⟨rfl, ?_⟩
          refine S_w (ws' := [(h0, ob 11 (uF (uF (uF f 3 (iv (((sk T n a) + 1) + 1))) 4 (iv w)) 5 (iv dp))), (hT, ar 160 T)]) rfl ?_
          refine S_if_ne (tgt := 107) X dX12_number_90 (by decide) (by decide) (fun _ => ?_) (fun h9 => absurd h9 (by decide))
          refine S_iload_n X dX12_number_107 rfl rfl ?_
          exact S_iret X (nle rfl) (nle rfl) dX12_number_108 (hPo _ _ (Or.inr ⟨_, _, rfl, rfl, (nm_2 (by omega) (by omega) (by omega) (by omega)).trans (numE_i (by omega))⟩))
      ·
        subst hz_96
        subst hu_97
        refine ⟨rfl, ?_⟩
        refine S_w (ws' := [(h0, ob 11 (uF (uF (uF f 3 (iv (((sk T n a) + 1) + 1))) 4 (iv w)) 5 (iv dp))), (hT, ar 160 T)]) rfl ?_
        refine S_if_eq (tgt := 84) X dX12_number_74 (by decide) (by decide) (fun h9 => absurd h9 (by decide)) (fun _ => ?_)
        refine S_aload_n X dX12_number_77 rfl rfl ?_
        refine S_callv X (kX12_bad l h0 f (((sk T n a) + 1) + 1) w dp (by omega)) (is := [0]) rfl (run_V X lkX12_127 0 rfl rfl (is := [0]) (avs := []) (rest := []) rfl rfl (nle rfl) ⟨nle rfl, nle rfl⟩ ⟨nle rfl, nle rfl⟩ dX12_number_78 (by decide) rfl) (fun u_117 hp_118 => ?_)
        have hu_121 := hp_118
        subst hu_121
        refine ⟨rfl, ?_⟩
        refine S_w (ws' := [(h0, ob 11 (uF (uF (uF f 3 (iv (((sk T n a) + 1) + 1))) 4 (iv (((sk T n a) + 1) + 1))) 5 (iv dp))), (hT, ar 160 T)]) rfl ?_
        refine S_goto (tgt := 107) X dX12_number_81 (by decide) ?_
        refine S_iload_n X dX12_number_107 rfl rfl ?_
        exact S_iret X (nle rfl) (nle rfl) dX12_number_108 (hPo _ _ (Or.inl ⟨_, _, _, rfl, rfl, nm_3 (by omega) (by omega) (by omega), by omega⟩))
set_option maxHeartbeats 4000000 in
set_option maxRecDepth 100000 in
theorem kX12_itemOf (l : Launch) (x : Int) (hx : inR x) : AMi l yX12_itemOf cX12_itemOf 1 .int 0 0 0 [iv x] [] (fun z u => z = itemOf x ∧ u = []) := by
  refine AMi.of2 rfl (nle rfl) ?_
  intro D G A p e s m args below meth c Po hPo X
  refine S_iload_n X dX12_itemOf_0 rfl rfl ?_
  refine S_bipush X dX12_itemOf_1 rfl ?_
  refine S_icmp_ne (tgt := 10) X dX12_itemOf_3 (by decide) (by omega) (by decide) (fun c_1 => ?_) (fun c_1 => ?_)
  ·
    refine S_iload_n X dX12_itemOf_10 rfl rfl ?_
    refine S_bipush X dX12_itemOf_11 rfl ?_
    refine S_icmp_ne (tgt := 20) X dX12_itemOf_13 (by decide) (by omega) (by decide) (fun c_2 => ?_) (fun c_2 => ?_)
    ·
      refine S_iload_n X dX12_itemOf_20 rfl rfl ?_
      refine S_bipush X dX12_itemOf_21 rfl ?_
      refine S_icmp_ne (tgt := 30) X dX12_itemOf_23 (by decide) (by omega) (by decide) (fun c_3 => ?_) (fun c_3 => ?_)
      ·
        refine S_iload_n X dX12_itemOf_30 rfl rfl ?_
        refine S_bipush X dX12_itemOf_31 rfl ?_
        refine S_icmp_ne (tgt := 40) X dX12_itemOf_33 (by decide) (by omega) (by decide) (fun c_4 => ?_) (fun c_4 => ?_)
        ·
          refine S_iload_n X dX12_itemOf_40 rfl rfl ?_
          refine S_bipush X dX12_itemOf_41 rfl ?_
          refine S_icmp_ne (tgt := 50) X dX12_itemOf_43 (by decide) (by omega) (by decide) (fun c_5 => ?_) (fun c_5 => ?_)
          ·
            refine S_iconst X dX12_itemOf_50 ?_
            exact S_iret X (nle rfl) (nle rfl) dX12_itemOf_51 (hPo _ _ (⟨by unfold itemOf; (repeat' split) <;> omega, rfl⟩))
          ·
            refine S_iconst X dX12_itemOf_46 ?_
            refine S_goto (tgt := 51) X dX12_itemOf_47 (by decide) ?_
            exact S_iret X (nle rfl) (nle rfl) dX12_itemOf_51 (hPo _ _ (⟨by unfold itemOf; (repeat' split) <;> omega, rfl⟩))
        ·
          refine S_iconst X dX12_itemOf_36 ?_
          refine S_goto (tgt := 51) X dX12_itemOf_37 (by decide) ?_
          exact S_iret X (nle rfl) (nle rfl) dX12_itemOf_51 (hPo _ _ (⟨by unfold itemOf; (repeat' split) <;> omega, rfl⟩))
      ·
        refine S_iconst X dX12_itemOf_26 ?_
        refine S_goto (tgt := 51) X dX12_itemOf_27 (by decide) ?_
        exact S_iret X (nle rfl) (nle rfl) dX12_itemOf_51 (hPo _ _ (⟨by unfold itemOf; (repeat' split) <;> omega, rfl⟩))
    ·
      refine S_iconst X dX12_itemOf_16 ?_
      refine S_goto (tgt := 51) X dX12_itemOf_17 (by decide) ?_
      exact S_iret X (nle rfl) (nle rfl) dX12_itemOf_51 (hPo _ _ (⟨by unfold itemOf; (repeat' split) <;> omega, rfl⟩))
  ·
    refine S_iconst X dX12_itemOf_6 ?_
    refine S_goto (tgt := 51) X dX12_itemOf_7 (by decide) ?_
    exact S_iret X (nle rfl) (nle rfl) dX12_itemOf_51 (hPo _ _ (⟨by unfold itemOf; (repeat' split) <;> omega, rfl⟩))
set_option maxHeartbeats 4000000 in
set_option maxRecDepth 100000 in
theorem kX12_highest (l : Launch) (x : Int) (hx : inR x) : AMi l yX12_highest cX12_highest 1 .int 0 0 0 [iv x] [] (fun z u => z = topOf x ∧ u = []) := by
  refine AMi.of2 rfl (nle rfl) ?_
  intro D G A p e s m args below meth c Po hPo X
  refine S_iload_n X dX12_highest_0 rfl rfl ?_
  refine S_if_ne (tgt := 9) X dX12_highest_1 (by decide) (by omega) (fun c_1 => ?_) (fun c_1 => ?_)
  ·
    refine S_iload_n X dX12_highest_9 rfl rfl ?_
    refine S_iconst X dX12_highest_10 ?_
    refine S_icmp_ne (tgt := 19) X dX12_highest_11 (by decide) (by omega) (by decide) (fun c_2 => ?_) (fun c_2 => ?_)
    ·
      refine S_iload_n X dX12_highest_19 rfl rfl ?_
      refine S_iconst X dX12_highest_20 ?_
      refine S_icmp_ne (tgt := 28) X dX12_highest_21 (by decide) (by omega) (by decide) (fun c_3 => ?_) (fun c_3 => ?_)
      ·
        refine S_iload_n X dX12_highest_28 rfl rfl ?_
        refine S_iconst X dX12_highest_29 ?_
        refine S_icmp_ne (tgt := 37) X dX12_highest_30 (by decide) (by omega) (by decide) (fun c_4 => ?_) (fun c_4 => ?_)
        ·
          refine S_bipush X dX12_highest_37 rfl ?_
          exact S_iret X (nle rfl) (nle rfl) dX12_highest_39 (hPo _ _ (⟨by unfold topOf; (repeat' split) <;> omega, rfl⟩))
        ·
          refine S_iconst X dX12_highest_33 ?_
          refine S_goto (tgt := 39) X dX12_highest_34 (by decide) ?_
          exact S_iret X (nle rfl) (nle rfl) dX12_highest_39 (hPo _ _ (⟨by unfold topOf; (repeat' split) <;> omega, rfl⟩))
      ·
        refine S_iconst X dX12_highest_24 ?_
        refine S_goto (tgt := 39) X dX12_highest_25 (by decide) ?_
        exact S_iret X (nle rfl) (nle rfl) dX12_highest_39 (hPo _ _ (⟨by unfold topOf; (repeat' split) <;> omega, rfl⟩))
    ·
      refine S_bipush X dX12_highest_14 rfl ?_
      refine S_goto (tgt := 39) X dX12_highest_16 (by decide) ?_
      exact S_iret X (nle rfl) (nle rfl) dX12_highest_39 (hPo _ _ (⟨by unfold topOf; (repeat' split) <;> omega, rfl⟩))
  ·
    refine S_bipush X dX12_highest_4 rfl ?_
    refine S_goto (tgt := 39) X dX12_highest_6 (by decide) ?_
    exact S_iret X (nle rfl) (nle rfl) dX12_highest_39 (hPo _ _ (⟨by unfold topOf; (repeat' split) <;> omega, rfl⟩))
