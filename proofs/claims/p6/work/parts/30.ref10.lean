set_option maxHeartbeats 4000000 in
set_option maxRecDepth 100000 in
theorem kX12_readTown (l : Launch) (h0 : Nat) (hT : Nat) (f : Nat → AV) (T : Int → Int) (n : Int) (a : Int) (w : Int) (dp : Int) (tx : Int) (m0 : Int) (p0 : Int) (hR : Nat) (R1 : Int → Int) (R0 : Int → Int → Int) (hf0 : f 1 = rv hT) (hf1 : f 2 = iv n) (hf2 : f 17 = rv hR) (okT : okT T n) : AMi l yX12_readTown cX12_readTown 4 .int 4 0 0 [rv h0] [(h0, ob 11 (uF (uF (uF (uF (uF (uF f 19 (iv m0)) 18 (iv p0)) 14 (iv tx)) 3 (iv a)) 4 (iv w)) 5 (iv dp))), (hT, ar 160 T), (hR, ar 30 R1)] (fun z u => (∃ a2 : Int, ∃ fl : Int, ∃ p2 : Int, ∃ m2 : Int, ∃ R2 : Int → Int, z = fl ∧ u = [(h0, ob 11 (uF (uF (uF (uF (uF (uF f 19 (iv m2)) 18 (iv p2)) 14 (iv tx)) 3 (iv a2)) 4 (iv fl)) 5 (iv dp))), (hT, ar 160 T), (hR, ar 30 R2)] ∧ tnRes T n R0 = .inl fl ∧ (0 ≤ fl ∧ fl ≤ n)) ∨ (∃ a2 : Int, ∃ p2 : Int, ∃ m2 : Int, ∃ x2 : Int, ∃ R2 : Int → Int, ∃ Rc : Int → Int → Int, z = -1 ∧ u = [(h0, ob 11 (uF (uF (uF (uF (uF (uF f 19 (iv m2)) 18 (iv p2)) 14 (iv tx)) 3 (iv a2)) 4 (iv (-1))) 5 (iv dp))), (hT, ar 160 T), (hR, ar 30 R2)] ∧ tnRes T n R0 = .inr (p2, m2, x2, Rc) ∧ flat p2 R2 Rc ∧ okTS (p2, m2, x2, Rc))) := by
  refine AMi.of2 rfl (nle rfl) ?_
  intro D G A p e s m args below meth c Po hPo X
  obtain ⟨hn0, hn1, hT2⟩ := id okT
  refine S_aload_n X dX12_readTown_0 rfl rfl ?_
  refine S_iconst X dX12_readTown_1 ?_
  refine S_put X fpX12_111_11 0 rfl FT_i dX12_readTown_2 ?_
  refine S_w (ws' := [(h0, ob 11 (uF (uF (uF (uF (uF (uF f 19 (iv m0)) 18 (iv p0)) 14 (iv tx)) 3 (iv 0)) 4 (iv w)) 5 (iv dp))), (hT, ar 160 T), (hR, ar 30 R1)]) (by simp only [List.set]; rw [uF_mv (j := 5) (k := 3) (by decide), uF_mv (j := 4) (k := 3) (by decide), uF_same (k := 3)]) ?_
  refine S_aload_n X dX12_readTown_5 rfl rfl ?_
  refine S_iconst X dX12_readTown_6 ?_
  refine S_put X fpX12_118_11 0 rfl FT_i dX12_readTown_7 ?_
  refine S_w (ws' := [(h0, ob 11 (uF (uF (uF (uF (uF (uF f 19 (iv m0)) 18 (iv p0)) 14 (iv tx)) 3 (iv 0)) 4 (iv (-1))) 5 (iv dp))), (hT, ar 160 T), (hR, ar 30 R1)]) (by simp only [List.set]; rw [uF_mv (j := 5) (k := 4) (by decide), uF_same (k := 4)]) ?_
  refine S_aload_n X dX12_readTown_10 rfl rfl ?_
  refine S_iconst X dX12_readTown_11 ?_
  refine S_put X fpX12_220_11 0 rfl FT_i dX12_readTown_12 ?_
  refine S_w (ws' := [(h0, ob 11 (uF (uF (uF (uF (uF (uF f 19 (iv m0)) 18 (iv 0)) 14 (iv tx)) 3 (iv 0)) 4 (iv (-1))) 5 (iv dp))), (hT, ar 160 T), (hR, ar 30 R1)]) (by simp only [List.set]; rw [uF_mv (j := 5) (k := 18) (by decide), uF_mv (j := 4) (k := 18) (by decide), uF_mv (j := 3) (k := 18) (by decide), uF_mv (j := 14) (k := 18) (by decide), uF_same (k := 18)]) ?_
  refine S_aload_n X dX12_readTown_15 rfl rfl ?_
  refine S_bipush X dX12_readTown_16 rfl ?_
  refine S_put X fpX12_237_11 0 rfl FT_i dX12_readTown_18 ?_
  refine S_w (ws' := [(h0, ob 11 (uF (uF (uF (uF (uF (uF f 19 (iv 60)) 18 (iv 0)) 14 (iv tx)) 3 (iv 0)) 4 (iv (-1))) 5 (iv dp))), (hT, ar 160 T), (hR, ar 30 R1)]) (by simp only [List.set]; rw [uF_mv (j := 5) (k := 19) (by decide), uF_mv (j := 4) (k := 19) (by decide), uF_mv (j := 3) (k := 19) (by decide), uF_mv (j := 14) (k := 19) (by decide), uF_mv (j := 18) (k := 19) (by decide), uF_same (k := 19)]) ?_
  refine S_iconst X dX12_readTown_21 ?_
  refine S_istore_n X dX12_readTown_22 rfl (nle rfl) ?_
  refine S_iconst X dX12_readTown_23 ?_
  refine S_istore_n X dX12_readTown_24 rfl (nle rfl) ?_
  refine S_iload_n X dX12_readTown_25 rfl rfl ?_
  refine S_if_eq (tgt := 158) X dX12_readTown_26 (by decide) (by decide) (fun h9 => absurd h9 (by decide)) (fun _ => ?_)
  refine S_aload_n X dX12_readTown_29 rfl rfl ?_
  refine S_get (v := iv (-1)) X fgX12_118_11 0 rfl rfl dX12_readTown_30 ?_
  refine S_iconst X dX12_readTown_33 ?_
  refine S_icmp_ne (tgt := 158) X dX12_readTown_34 (by decide) (by decide) (by decide) (fun h9 => absurd h9 (by decide)) (fun _ => ?_)
  have lp37_0 : ∀ (N : Nat) (a1 : Int) (x1 : Int) (m1 : Int) (p1 : Int) (Rr : Int → Int) (Rc : Int → Int → Int) (L : Nat → Option AV), 0 ≤ a1 ∧ a1 ≤ n → okTS (p1, m1, x1, Rc) → flat p1 Rr Rc → (∃ f : Nat, 161 - a1 ≤ f ∧ pTnL T n f a1 (p1, m1, x1, Rc) = pTnL T n 161 0 (0, 60, 0, R0)) → L 0 = some (rv h0) → L 1 = some (iv x1) → L 2 = some (iv 1) → 161 - a1 < (N : Int) → S_ p l e (rmD 4 0 0) s m args below meth c (MQ below (QcI D G A Po) args s 0 0 A) D G A 4 0 0 37 L [] [(h0, ob 11 (uF (uF (uF (uF (uF (uF f 19 (iv m1)) 18 (iv p1)) 14 (iv tx)) 3 (iv a1)) 4 (iv (-1))) 5 (iv dp))), (hT, ar 160 T), (hR, ar 30 Rr)] := by
    intro N
    induction N with
    | zero =>
      intro a1 x1 m1 p1 Rr Rc L37 hi hs hfl hkl hL37_0 hL37_1 hL37_2 hN37
      exfalso; omega
    | succ N ih37 =>
      intro a1 x1 m1 p1 Rr Rc L37 hi hs hfl hkl hL37_0 hL37_1 hL37_2 hN37
      obtain ⟨f9, hf9, hk9⟩ := hkl
      obtain ⟨g9, rfl⟩ : ∃ g, f9 = g + 1 := ⟨f9 - 1, by omega⟩
      have hsk1 := sk_in (T := T) (n := n) (a := a1) (by omega)
      have hcm1 := chM_or okT (a := sk T n a1) (by omega) (by omega)
      obtain ⟨hs1, hs2, hs3, hs4⟩ := id hs
      dsimp only at hs1 hs2 hs3
      refine S_aload_n X dX12_readTown_37 rfl hL37_0 ?_
      refine S_calli X (kX12_look l h0 hT (uF (uF (uF f 19 (iv m1)) 18 (iv p1)) 14 (iv tx)) T n a1 (-1) dp hf0 hf1 (by omega) (by omega)) (is := [0, 1]) rfl (run_V X lkX12_130 0 rfl rfl (is := [0, 1]) (avs := []) (rest := []) rfl rfl (nle rfl) ⟨nle rfl, nle rfl⟩ ⟨nle rfl, nle rfl⟩ dX12_readTown_38 (by decide) rfl) (fun z_5 u_3 hp_4 => ?_)
      obtain ⟨hz_6, hu_7⟩ := hp_4
      subst hz_6
      subst hu_7
      refine ⟨rfl, ?_⟩
      refine S_w (ws' := [(h0, ob 11 (uF (uF (uF (uF (uF (uF f 19 (iv m1)) 18 (iv p1)) 14 (iv tx)) 3 (iv (sk T n a1))) 4 (iv (-1))) 5 (iv dp))), (hT, ar 160 T), (hR, ar 30 Rr)]) rfl ?_
      refine S_istore_n X dX12_readTown_41 rfl (nle rfl) ?_
      refine S_iload_n X dX12_readTown_42 rfl rfl ?_
      refine S_bipush X dX12_readTown_43 rfl ?_
      refine S_icmp_ne (tgt := 55) X dX12_readTown_45 (by decide) (by omega) (by decide) (fun c_8 => ?_) (fun c_8 => ?_)
      ·
        refine S_iload_n X dX12_readTown_55 rfl rfl ?_
        refine S_bipush X dX12_readTown_56 rfl ?_
        refine S_icmp_ne (tgt := 110) X dX12_readTown_58 (by decide) (by omega) (by decide) (fun c_9 => ?_) (fun c_9 => ?_)
        ·
          refine S_aload_n X dX12_readTown_110 rfl hL37_0 ?_
          refine S_callv X (kX12_bad l h0 (uF (uF (uF f 19 (iv m1)) 18 (iv p1)) 14 (iv tx)) (sk T n a1) (-1) dp (by omega)) (is := [0]) rfl (run_V X lkX12_127 0 rfl rfl (is := [0]) (avs := []) (rest := []) rfl rfl (nle rfl) ⟨nle rfl, nle rfl⟩ ⟨nle rfl, nle rfl⟩ dX12_readTown_111 (by decide) rfl) (fun u_10 hp_11 => ?_)
          have hu_14 := hp_11
          subst hu_14
          refine ⟨rfl, ?_⟩
          refine S_w (ws' := [(h0, ob 11 (uF (uF (uF (uF (uF (uF f 19 (iv m1)) 18 (iv p1)) 14 (iv tx)) 3 (iv (sk T n a1))) 4 (iv (sk T n a1))) 5 (iv dp))), (hT, ar 160 T), (hR, ar 30 Rr)]) rfl ?_
          refine S_aload_n X dX12_readTown_114 rfl hL37_0 ?_
          refine S_get (v := iv (sk T n a1)) X fgX12_118_11 0 rfl rfl dX12_readTown_115 ?_
          refine S_iconst X dX12_readTown_118 ?_
          refine S_icmp_ne (tgt := 135) X dX12_readTown_119 (by decide) (by omega) (by decide) (fun c_15 => ?_) (fun c_15 => by exfalso; omega)
          refine S_iconst X dX12_readTown_135 ?_
          refine S_istore_n X dX12_readTown_136 rfl (nle rfl) ?_
          refine S_aload_n X dX12_readTown_137 rfl hL37_0 ?_
          refine S_dup X dX12_readTown_138 ?_
          refine S_get (v := iv (sk T n a1)) X fgX12_111_11 0 rfl rfl dX12_readTown_139 ?_
          refine S_iload_n X dX12_readTown_142 rfl rfl ?_
          refine S_if_eq (tgt := 150) X dX12_readTown_143 (by decide) (by decide) (fun _ => ?_) (fun h9 => absurd h9 (by decide))
          refine S_iconst X dX12_readTown_150 ?_
          refine S_iadd X dX12_readTown_151 ?_
          refine S_put X fpX12_111_11 0 rfl FT_i dX12_readTown_152 ?_
          refine S_w (ws' := [(h0, ob 11 (uF (uF (uF (uF (uF (uF f 19 (iv m1)) 18 (iv p1)) 14 (iv tx)) 3 (iv ((sk T n a1) + 0))) 4 (iv (sk T n a1))) 5 (iv dp))), (hT, ar 160 T), (hR, ar 30 Rr)]) (by simp only [List.set]; rw [uF_mv (j := 5) (k := 3) (by decide), uF_mv (j := 4) (k := 3) (by decide), uF_same (k := 3)]) ?_
          refine S_w (ws' := [(h0, ob 11 (uF (uF (uF (uF (uF (uF f 19 (iv m1)) 18 (iv p1)) 14 (iv tx)) 3 (iv (sk T n a1))) 4 (iv (sk T n a1))) 5 (iv dp))), (hT, ar 160 T), (hR, ar 30 Rr)]) (by rw [Int.add_zero]) ?_
          refine S_goto (tgt := 25) X dX12_readTown_155 (by decide) ?_
          refine S_iload_n X dX12_readTown_25 rfl rfl ?_
          refine S_if_eq (tgt := 158) X dX12_readTown_26 (by decide) (by decide) (fun _ => ?_) (fun h9 => absurd h9 (by decide))
          refine S_aload_n X dX12_readTown_158 rfl hL37_0 ?_
          refine S_get (v := iv (sk T n a1)) X fgX12_118_11 0 rfl rfl dX12_readTown_159 ?_
          refine S_iconst X dX12_readTown_162 ?_
          refine S_icmp_ne (tgt := 185) X dX12_readTown_163 (by decide) (by omega) (by decide) (fun c_18 => ?_) (fun c_18 => by exfalso; omega)
          refine S_aload_n X dX12_readTown_185 rfl hL37_0 ?_
          refine S_get (v := iv (sk T n a1)) X fgX12_118_11 0 rfl rfl dX12_readTown_186 ?_
          exact S_iret X (nle rfl) (nle rfl) dX12_readTown_189 (hPo _ _ (Or.inl ⟨_, _, _, _, _, rfl, rfl, tnRes_f (hk9.symm.trans (pTnL_f (pCl_no (by dsimp only; omega) (by dsimp only; omega)))), by omega⟩))
        ·
          refine S_iload_n X dX12_readTown_61 rfl hL37_1 ?_
          refine S_if_ne (tgt := 110) X dX12_readTown_62 (by decide) (by omega) (fun c_19 => ?_) (fun c_19 => ?_)
          ·
            refine S_aload_n X dX12_readTown_110 rfl hL37_0 ?_
            refine S_callv X (kX12_bad l h0 (uF (uF (uF f 19 (iv m1)) 18 (iv p1)) 14 (iv tx)) (sk T n a1) (-1) dp (by omega)) (is := [0]) rfl (run_V X lkX12_127 0 rfl rfl (is := [0]) (avs := []) (rest := []) rfl rfl (nle rfl) ⟨nle rfl, nle rfl⟩ ⟨nle rfl, nle rfl⟩ dX12_readTown_111 (by decide) rfl) (fun u_20 hp_21 => ?_)
            have hu_24 := hp_21
            subst hu_24
            refine ⟨rfl, ?_⟩
            refine S_w (ws' := [(h0, ob 11 (uF (uF (uF (uF (uF (uF f 19 (iv m1)) 18 (iv p1)) 14 (iv tx)) 3 (iv (sk T n a1))) 4 (iv (sk T n a1))) 5 (iv dp))), (hT, ar 160 T), (hR, ar 30 Rr)]) rfl ?_
            refine S_aload_n X dX12_readTown_114 rfl hL37_0 ?_
            refine S_get (v := iv (sk T n a1)) X fgX12_118_11 0 rfl rfl dX12_readTown_115 ?_
            refine S_iconst X dX12_readTown_118 ?_
            refine S_icmp_ne (tgt := 135) X dX12_readTown_119 (by decide) (by omega) (by decide) (fun c_25 => ?_) (fun c_25 => by exfalso; omega)
            refine S_iconst X dX12_readTown_135 ?_
            refine S_istore_n X dX12_readTown_136 rfl (nle rfl) ?_
            refine S_aload_n X dX12_readTown_137 rfl hL37_0 ?_
            refine S_dup X dX12_readTown_138 ?_
            refine S_get (v := iv (sk T n a1)) X fgX12_111_11 0 rfl rfl dX12_readTown_139 ?_
            refine S_iload_n X dX12_readTown_142 rfl rfl ?_
            refine S_if_eq (tgt := 150) X dX12_readTown_143 (by decide) (by decide) (fun _ => ?_) (fun h9 => absurd h9 (by decide))
            refine S_iconst X dX12_readTown_150 ?_
            refine S_iadd X dX12_readTown_151 ?_
            refine S_put X fpX12_111_11 0 rfl FT_i dX12_readTown_152 ?_
            refine S_w (ws' := [(h0, ob 11 (uF (uF (uF (uF (uF (uF f 19 (iv m1)) 18 (iv p1)) 14 (iv tx)) 3 (iv ((sk T n a1) + 0))) 4 (iv (sk T n a1))) 5 (iv dp))), (hT, ar 160 T), (hR, ar 30 Rr)]) (by simp only [List.set]; rw [uF_mv (j := 5) (k := 3) (by decide), uF_mv (j := 4) (k := 3) (by decide), uF_same (k := 3)]) ?_
            refine S_w (ws' := [(h0, ob 11 (uF (uF (uF (uF (uF (uF f 19 (iv m1)) 18 (iv p1)) 14 (iv tx)) 3 (iv (sk T n a1))) 4 (iv (sk T n a1))) 5 (iv dp))), (hT, ar 160 T), (hR, ar 30 Rr)]) (by rw [Int.add_zero]) ?_
            refine S_goto (tgt := 25) X dX12_readTown_155 (by decide) ?_
            refine S_iload_n X dX12_readTown_25 rfl rfl ?_
            refine S_if_eq (tgt := 158) X dX12_readTown_26 (by decide) (by decide) (fun _ => ?_) (fun h9 => absurd h9 (by decide))
            refine S_aload_n X dX12_readTown_158 rfl hL37_0 ?_
            refine S_get (v := iv (sk T n a1)) X fgX12_118_11 0 rfl rfl dX12_readTown_159 ?_
            refine S_iconst X dX12_readTown_162 ?_
            refine S_icmp_ne (tgt := 185) X dX12_readTown_163 (by decide) (by omega) (by decide) (fun c_28 => ?_) (fun c_28 => by exfalso; omega)
            refine S_aload_n X dX12_readTown_185 rfl hL37_0 ?_
            refine S_get (v := iv (sk T n a1)) X fgX12_118_11 0 rfl rfl dX12_readTown_186 ?_
            exact S_iret X (nle rfl) (nle rfl) dX12_readTown_189 (hPo _ _ (Or.inl ⟨_, _, _, _, _, rfl, rfl, tnRes_f (hk9.symm.trans (pTnL_f (pCl_no (by dsimp only; omega) (by dsimp only; omega)))), by omega⟩))
          ·
            refine S_iconst X dX12_readTown_65 ?_
            refine S_istore_n X dX12_readTown_66 rfl (nle rfl) ?_
            refine S_aload_n X dX12_readTown_67 rfl hL37_0 ?_
            refine S_dup X dX12_readTown_68 ?_
            refine S_get (v := iv (sk T n a1)) X fgX12_111_11 0 rfl rfl dX12_readTown_69 ?_
            refine S_iconst X dX12_readTown_72 ?_
            refine S_iadd X dX12_readTown_73 ?_
            refine S_put X fpX12_111_11 0 rfl FT_i dX12_readTown_74 ?_
            refine S_w (ws' := [(h0, ob 11 (uF (uF (uF (uF (uF (uF f 19 (iv m1)) 18 (iv p1)) 14 (iv tx)) 3 (iv ((sk T n a1) + 1))) 4 (iv (-1))) 5 (iv dp))), (hT, ar 160 T), (hR, ar 30 Rr)]) (by simp only [List.set]; rw [uF_mv (j := 5) (k := 3) (by decide), uF_mv (j := 4) (k := 3) (by decide), uF_same (k := 3)]) ?_
            refine S_aload_n X dX12_readTown_77 rfl hL37_0 ?_
            refine S_calli X (kX12_look l h0 hT (uF (uF (uF f 19 (iv m1)) 18 (iv p1)) 14 (iv tx)) T n ((sk T n a1) + 1) (-1) dp hf0 hf1 (by omega) (by omega)) (is := [0, 1]) rfl (run_V X lkX12_130 0 rfl rfl (is := [0, 1]) (avs := []) (rest := []) rfl rfl (nle rfl) ⟨nle rfl, nle rfl⟩ ⟨nle rfl, nle rfl⟩ dX12_readTown_78 (by decide) rfl) (fun z_31 u_29 hp_30 => ?_)
            obtain ⟨hz_32, hu_33⟩ := hp_30
            subst hz_32
            subst hu_33
            refine ⟨rfl, ?_⟩
            refine S_w (ws' := [(h0, ob 11 (uF (uF (uF (uF (uF (uF f 19 (iv m1)) 18 (iv p1)) 14 (iv tx)) 3 (iv (sk T n ((sk T n a1) + 1)))) 4 (iv (-1))) 5 (iv dp))), (hT, ar 160 T), (hR, ar 30 Rr)]) rfl ?_
            have hsk_m := sk_in (T := T) (n := n) (a := (sk T n a1 + 1)) (by omega)
            have hcm_m := chM_or okT (a := sk T n (sk T n a1 + 1)) (by omega) (by omega)
            refine S_bipush X dX12_readTown_81 rfl ?_
            refine S_icmp_ne (tgt := 114) X dX12_readTown_83 (by decide) (by omega) (by decide) (fun c_34 => ?_) (fun c_34 => ?_)
            ·
              have hi0 : ¬ itemOf (ch T n (sk T n (sk T n a1 + 1))) = 0 := by unfold itemOf; (repeat' split) <;> omega
              have hen_35 : ends T n a1 (p1, m1, x1, Rc) (sk T n (sk T n a1 + 1)) (p1, m1, 1, Rc) := ends_mo ⟨by omega, by omega⟩ hi0
              refine S_aload_n X dX12_readTown_114 rfl hL37_0 ?_
              refine S_get (v := iv (-1)) X fgX12_118_11 0 rfl rfl dX12_readTown_115 ?_
              refine S_iconst X dX12_readTown_118 ?_
              refine S_icmp_ne (tgt := 135) X dX12_readTown_119 (by decide) (by decide) (by decide) (fun h9 => absurd h9 (by decide)) (fun _ => ?_)
              refine S_aload_n X dX12_readTown_122 rfl hL37_0 ?_
              refine S_calli X (kX12_look l h0 hT (uF (uF (uF f 19 (iv m1)) 18 (iv p1)) 14 (iv tx)) T n (sk T n ((sk T n a1) + 1)) (-1) dp hf0 hf1 (by omega) (by omega)) (is := [0, 1]) rfl (run_V X lkX12_130 0 rfl rfl (is := [0, 1]) (avs := []) (rest := []) rfl rfl (nle rfl) ⟨nle rfl, nle rfl⟩ ⟨nle rfl, nle rfl⟩ dX12_readTown_123 (by decide) rfl) (fun z_39 u_37 hp_38 => ?_)
              obtain ⟨hz_40, hu_41⟩ := hp_38
              subst hz_40
              subst hu_41
              refine ⟨rfl, ?_⟩
              refine S_w (ws' := [(h0, ob 11 (uF (uF (uF (uF (uF (uF f 19 (iv m1)) 18 (iv p1)) 14 (iv tx)) 3 (iv (sk T n (sk T n ((sk T n a1) + 1))))) 4 (iv (-1))) 5 (iv dp))), (hT, ar 160 T), (hR, ar 30 Rr)]) rfl ?_
              have hsk_42 := sk_in (T := T) (n := n) (a := (sk T n (sk T n a1 + 1))) (by omega)
              have hcm_42 := chM_or okT (a := sk T n (sk T n (sk T n a1 + 1))) (by omega) (by omega)
              refine S_bipush X dX12_readTown_126 rfl ?_
              refine S_icmp_ne (tgt := 135) X dX12_readTown_128 (by decide) (by omega) (by decide) (fun c_43 => ?_) (fun c_43 => ?_)
              ·
                refine S_iconst X dX12_readTown_135 ?_
                refine S_istore_n X dX12_readTown_136 rfl (nle rfl) ?_
                refine S_aload_n X dX12_readTown_137 rfl hL37_0 ?_
                refine S_dup X dX12_readTown_138 ?_
                refine S_get (v := iv (sk T n (sk T n ((sk T n a1) + 1)))) X fgX12_111_11 0 rfl rfl dX12_readTown_139 ?_
                refine S_iload_n X dX12_readTown_142 rfl rfl ?_
                refine S_if_eq (tgt := 150) X dX12_readTown_143 (by decide) (by decide) (fun _ => ?_) (fun h9 => absurd h9 (by decide))
                refine S_iconst X dX12_readTown_150 ?_
                refine S_iadd X dX12_readTown_151 ?_
                refine S_put X fpX12_111_11 0 rfl FT_i dX12_readTown_152 ?_
                refine S_w (ws' := [(h0, ob 11 (uF (uF (uF (uF (uF (uF f 19 (iv m1)) 18 (iv p1)) 14 (iv tx)) 3 (iv ((sk T n (sk T n ((sk T n a1) + 1))) + 0))) 4 (iv (-1))) 5 (iv dp))), (hT, ar 160 T), (hR, ar 30 Rr)]) (by simp only [List.set]; rw [uF_mv (j := 5) (k := 3) (by decide), uF_mv (j := 4) (k := 3) (by decide), uF_same (k := 3)]) ?_
                refine S_w (ws' := [(h0, ob 11 (uF (uF (uF (uF (uF (uF f 19 (iv m1)) 18 (iv p1)) 14 (iv tx)) 3 (iv (sk T n (sk T n ((sk T n a1) + 1))))) 4 (iv (-1))) 5 (iv dp))), (hT, ar 160 T), (hR, ar 30 Rr)]) (by rw [Int.add_zero]) ?_
                refine S_goto (tgt := 25) X dX12_readTown_155 (by decide) ?_
                refine S_iload_n X dX12_readTown_25 rfl rfl ?_
                refine S_if_eq (tgt := 158) X dX12_readTown_26 (by decide) (by decide) (fun _ => ?_) (fun h9 => absurd h9 (by decide))
                refine S_aload_n X dX12_readTown_158 rfl hL37_0 ?_
                refine S_get (v := iv (-1)) X fgX12_118_11 0 rfl rfl dX12_readTown_159 ?_
                refine S_iconst X dX12_readTown_162 ?_
                refine S_icmp_ne (tgt := 185) X dX12_readTown_163 (by decide) (by decide) (by decide) (fun h9 => absurd h9 (by decide)) (fun _ => ?_)
                refine S_aload_n X dX12_readTown_166 rfl hL37_0 ?_
                refine S_calli X (kX12_look l h0 hT (uF (uF (uF f 19 (iv m1)) 18 (iv p1)) 14 (iv tx)) T n (sk T n (sk T n ((sk T n a1) + 1))) (-1) dp hf0 hf1 (by omega) (by omega)) (is := [0, 1]) rfl (run_V X lkX12_130 0 rfl rfl (is := [0, 1]) (avs := []) (rest := []) rfl rfl (nle rfl) ⟨nle rfl, nle rfl⟩ ⟨nle rfl, nle rfl⟩ dX12_readTown_167 (by decide) rfl) (fun z_49 u_47 hp_48 => ?_)
                obtain ⟨hz_50, hu_51⟩ := hp_48
                subst hz_50
                subst hu_51
                refine ⟨rfl, ?_⟩
                refine S_w (ws' := [(h0, ob 11 (uF (uF (uF (uF (uF (uF f 19 (iv m1)) 18 (iv p1)) 14 (iv tx)) 3 (iv (sk T n (sk T n (sk T n ((sk T n a1) + 1)))))) 4 (iv (-1))) 5 (iv dp))), (hT, ar 160 T), (hR, ar 30 Rr)]) rfl ?_
                rw [sk_idem (a := (sk T n (sk T n a1 + 1)))]
                refine S_iconst X dX12_readTown_170 ?_
                refine S_icmp_ne (tgt := 181) X dX12_readTown_171 (by decide) (by omega) (by decide) (fun c_52 => ?_) (fun c_52 => ?_)
                ·
                  refine S_aload_n X dX12_readTown_181 rfl hL37_0 ?_
                  refine S_callv X (kX12_bad l h0 (uF (uF (uF f 19 (iv m1)) 18 (iv p1)) 14 (iv tx)) (sk T n (sk T n ((sk T n a1) + 1))) (-1) dp (by omega)) (is := [0]) rfl (run_V X lkX12_127 0 rfl rfl (is := [0]) (avs := []) (rest := []) rfl rfl (nle rfl) ⟨nle rfl, nle rfl⟩ ⟨nle rfl, nle rfl⟩ dX12_readTown_182 (by decide) rfl) (fun u_53 hp_54 => ?_)
                  have hu_57 := hp_54
                  subst hu_57
                  refine ⟨rfl, ?_⟩
                  refine S_w (ws' := [(h0, ob 11 (uF (uF (uF (uF (uF (uF f 19 (iv m1)) 18 (iv p1)) 14 (iv tx)) 3 (iv (sk T n (sk T n ((sk T n a1) + 1))))) 4 (iv (sk T n (sk T n ((sk T n a1) + 1))))) 5 (iv dp))), (hT, ar 160 T), (hR, ar 30 Rr)]) rfl ?_
                  refine S_aload_n X dX12_readTown_185 rfl hL37_0 ?_
                  refine S_get (v := iv (sk T n (sk T n ((sk T n a1) + 1)))) X fgX12_118_11 0 rfl rfl dX12_readTown_186 ?_
                  exact S_iret X (nle rfl) (nle rfl) dX12_readTown_189 (hPo _ _ (Or.inl ⟨_, _, _, _, _, rfl, rfl, tnRes_f (hk9.symm.trans (ends_x hen_35 (by omega) (by omega))), by omega⟩))
                ·
                  have hcl_58 := ends_l hen_35 (by omega)
                  have hok_58 := (pCl_in hn1 (by omega) (by omega) hs).2 _ hcl_58
                  dsimp only at hok_58
                  refine S_aload_n X dX12_readTown_174 rfl hL37_0 ?_
                  refine S_calli X (kX12_areTold l h0 (uF f 19 (iv m1)) (sk T n (sk T n ((sk T n a1) + 1))) dp tx p1 hR Rr (-1) hf2 (by omega) (flat_in (hfl) hok_58.2.2)) (is := [0, 2]) rfl (run_V X lkX12_243 0 rfl rfl (is := [0, 2]) (avs := []) (rest := []) rfl rfl (nle rfl) ⟨nle rfl, nle rfl⟩ ⟨nle rfl, nle rfl⟩ dX12_readTown_175 (by decide) rfl) (fun z_61 u_59 hp_60 => ?_)
                  rcases hp_60 with ⟨hz_62, hu_63, hq_64⟩ | ⟨hz_65, hu_66, hq_67⟩
                  ·
                    subst hz_62
                    subst hu_63
                    refine ⟨rfl, ?_⟩
                    refine S_w (ws' := [(h0, ob 11 (uF (uF (uF (uF (uF (uF f 19 (iv m1)) 18 (iv p1)) 14 (iv tx)) 3 (iv (sk T n (sk T n ((sk T n a1) + 1))))) 4 (iv (-1))) 5 (iv dp))), (hT, ar 160 T), (hR, ar 30 Rr)]) rfl ?_
                    refine S_if_ne (tgt := 185) X dX12_readTown_178 (by decide) (by decide) (fun h9 => absurd h9 (by decide)) (fun _ => ?_)
                    refine S_aload_n X dX12_readTown_181 rfl hL37_0 ?_
                    refine S_callv X (kX12_bad l h0 (uF (uF (uF f 19 (iv m1)) 18 (iv p1)) 14 (iv tx)) (sk T n (sk T n ((sk T n a1) + 1))) (-1) dp (by omega)) (is := [0]) rfl (run_V X lkX12_127 0 rfl rfl (is := [0]) (avs := []) (rest := []) rfl rfl (nle rfl) ⟨nle rfl, nle rfl⟩ ⟨nle rfl, nle rfl⟩ dX12_readTown_182 (by decide) rfl) (fun u_69 hp_70 => ?_)
                    have hu_73 := hp_70
                    subst hu_73
                    refine ⟨rfl, ?_⟩
                    refine S_w (ws' := [(h0, ob 11 (uF (uF (uF (uF (uF (uF f 19 (iv m1)) 18 (iv p1)) 14 (iv tx)) 3 (iv (sk T n (sk T n ((sk T n a1) + 1))))) 4 (iv (sk T n (sk T n ((sk T n a1) + 1))))) 5 (iv dp))), (hT, ar 160 T), (hR, ar 30 Rr)]) rfl ?_
                    refine S_aload_n X dX12_readTown_185 rfl hL37_0 ?_
                    refine S_get (v := iv (sk T n (sk T n ((sk T n a1) + 1)))) X fgX12_118_11 0 rfl rfl dX12_readTown_186 ?_
                    exact S_iret X (nle rfl) (nle rfl) dX12_readTown_189 (hPo _ _ (Or.inl ⟨_, _, _, _, _, rfl, rfl, by rw [show (sk T n (sk T n ((sk T n a1) + 1))) = n by omega]; exact tnRes_n (hk9.symm.trans (ends_0 hen_35 (by omega))) (fun q9 => hq_64 ((flat_ok (hfl)).2 q9)), by omega⟩))
                  ·
                    subst hz_65
                    subst hu_66
                    refine ⟨rfl, ?_⟩
                    refine S_w (ws' := [(h0, ob 11 (uF (uF (uF (uF (uF (uF f 19 (iv m1)) 18 (iv p1)) 14 (iv tx)) 3 (iv (sk T n (sk T n ((sk T n a1) + 1))))) 4 (iv (-1))) 5 (iv dp))), (hT, ar 160 T), (hR, ar 30 Rr)]) rfl ?_
                    refine S_if_ne (tgt := 185) X dX12_readTown_178 (by decide) (by decide) (fun _ => ?_) (fun h9 => absurd h9 (by decide))
                    refine S_aload_n X dX12_readTown_185 rfl hL37_0 ?_
                    refine S_get (v := iv (-1)) X fgX12_118_11 0 rfl rfl dX12_readTown_186 ?_
                    exact S_iret X (nle rfl) (nle rfl) dX12_readTown_189 (hPo _ _ (Or.inr ⟨_, _, _, _, _, _, rfl, rfl, tnRes_y (hk9.symm.trans (ends_0 hen_35 (by omega))) ((flat_ok (hfl)).1 hq_67), hfl, hok_58.2.2⟩))
              ·
                have hcl_75 := ends_l hen_35 (by omega)
                have hok_75 := (pCl_in hn1 (by omega) (by omega) hs).2 _ hcl_75
                dsimp only at hok_75
                refine S_iconst X dX12_readTown_131 ?_
                refine S_goto (tgt := 136) X dX12_readTown_132 (by decide) ?_
                refine S_istore_n X dX12_readTown_136 rfl (nle rfl) ?_
                refine S_aload_n X dX12_readTown_137 rfl hL37_0 ?_
                refine S_dup X dX12_readTown_138 ?_
                refine S_get (v := iv (sk T n (sk T n ((sk T n a1) + 1)))) X fgX12_111_11 0 rfl rfl dX12_readTown_139 ?_
                refine S_iload_n X dX12_readTown_142 rfl rfl ?_
                refine S_if_eq (tgt := 150) X dX12_readTown_143 (by decide) (by decide) (fun h9 => absurd h9 (by decide)) (fun _ => ?_)
                refine S_iconst X dX12_readTown_146 ?_
                refine S_goto (tgt := 151) X dX12_readTown_147 (by decide) ?_
                refine S_iadd X dX12_readTown_151 ?_
                refine S_put X fpX12_111_11 0 rfl FT_i dX12_readTown_152 ?_
                refine S_w (ws' := [(h0, ob 11 (uF (uF (uF (uF (uF (uF f 19 (iv m1)) 18 (iv p1)) 14 (iv tx)) 3 (iv ((sk T n (sk T n ((sk T n a1) + 1))) + 1))) 4 (iv (-1))) 5 (iv dp))), (hT, ar 160 T), (hR, ar 30 Rr)]) (by simp only [List.set]; rw [uF_mv (j := 5) (k := 3) (by decide), uF_mv (j := 4) (k := 3) (by decide), uF_same (k := 3)]) ?_
                refine S_goto (tgt := 25) X dX12_readTown_155 (by decide) ?_
                refine S_iload_n X dX12_readTown_25 rfl rfl ?_
                refine S_if_eq (tgt := 158) X dX12_readTown_26 (by decide) (by decide) (fun h9 => absurd h9 (by decide)) (fun _ => ?_)
                refine S_aload_n X dX12_readTown_29 rfl hL37_0 ?_
                refine S_get (v := iv (-1)) X fgX12_118_11 0 rfl rfl dX12_readTown_30 ?_
                refine S_iconst X dX12_readTown_33 ?_
                refine S_icmp_ne (tgt := 158) X dX12_readTown_34 (by decide) (by decide) (by decide) (fun h9 => absurd h9 (by decide)) (fun _ => ?_)
                exact ih37 ((sk T n (sk T n ((sk T n a1) + 1))) + 1) 1 m1 p1 Rr Rc _ (by omega) (hok_75.2.2) (hfl) (⟨g9, by omega, (ends_59 hen_35 (by omega)).symm.trans hk9⟩) hL37_0 rfl rfl (by omega)
            ·
              have hi0 : itemOf (ch T n (sk T n (sk T n a1 + 1))) = 0 := by rw [show ch T n (sk T n (sk T n a1 + 1)) = 98 by omega]; rfl
              refine S_aload_n X dX12_readTown_86 rfl hL37_0 ?_
              refine S_dup X dX12_readTown_87 ?_
              refine S_get (v := iv (sk T n ((sk T n a1) + 1))) X fgX12_111_11 0 rfl rfl dX12_readTown_88 ?_
              refine S_iconst X dX12_readTown_91 ?_
              refine S_iadd X dX12_readTown_92 ?_
              refine S_put X fpX12_111_11 0 rfl FT_i dX12_readTown_93 ?_
              refine S_w (ws' := [(h0, ob 11 (uF (uF (uF (uF (uF (uF f 19 (iv m1)) 18 (iv p1)) 14 (iv tx)) 3 (iv ((sk T n ((sk T n a1) + 1)) + 1))) 4 (iv (-1))) 5 (iv dp))), (hT, ar 160 T), (hR, ar 30 Rr)]) (by simp only [List.set]; rw [uF_mv (j := 5) (k := 3) (by decide), uF_mv (j := 4) (k := 3) (by decide), uF_same (k := 3)]) ?_
              refine S_aload_n X dX12_readTown_96 rfl hL37_0 ?_
              refine S_aload_n X dX12_readTown_97 rfl hL37_0 ?_
              refine S_iconst X dX12_readTown_98 ?_
              refine S_bipush X dX12_readTown_99 rfl ?_
              refine S_calli X (kX12_number l h0 hT (uF (uF (uF f 19 (iv m1)) 18 (iv p1)) 14 (iv tx)) T n ((sk T n ((sk T n a1) + 1)) + 1) (-1) dp 1 99 hf0 hf1 (by omega) (by omega) (by omega) (by omega)) (is := [0, 1]) rfl (run_V X lkX12_233 0 rfl rfl (is := [0, 1]) (avs := [iv 1, iv 99]) (rest := [rv h0]) rfl rfl (nle rfl) ⟨nle rfl, nle rfl⟩ ⟨nle rfl, nle rfl⟩ dX12_readTown_101 (by decide) rfl) (fun z_81 u_79 hp_80 => ?_)
              rcases hp_80 with ⟨a2_82, fl_83, v_84, hz_85, hu_86, hq_87, hr_88⟩ | ⟨a2_89, v_90, hz_91, hu_92, hq_93⟩
              ·
                subst hz_85
                subst hu_86
                refine ⟨rfl, ?_⟩
                refine S_w (ws' := [(h0, ob 11 (uF (uF (uF (uF (uF (uF f 19 (iv m1)) 18 (iv p1)) 14 (iv tx)) 3 (iv a2_82)) 4 (iv fl_83)) 5 (iv dp))), (hT, ar 160 T), (hR, ar 30 Rr)]) rfl ?_
                refine S_put X fpX12_237_11 0 rfl FT_i dX12_readTown_104 ?_
                refine S_w (ws' := [(h0, ob 11 (uF (uF (uF (uF (uF (uF f 19 (iv z_81)) 18 (iv p1)) 14 (iv tx)) 3 (iv a2_82)) 4 (iv fl_83)) 5 (iv dp))), (hT, ar 160 T), (hR, ar 30 Rr)]) (by simp only [List.set]; rw [uF_mv (j := 5) (k := 19) (by decide), uF_mv (j := 4) (k := 19) (by decide), uF_mv (j := 3) (k := 19) (by decide), uF_mv (j := 14) (k := 19) (by decide), uF_mv (j := 18) (k := 19) (by decide), uF_same (k := 19)]) ?_
                refine S_goto (tgt := 114) X dX12_readTown_107 (by decide) ?_
                refine S_aload_n X dX12_readTown_114 rfl hL37_0 ?_
                refine S_get (v := iv fl_83) X fgX12_118_11 0 rfl rfl dX12_readTown_115 ?_
                refine S_iconst X dX12_readTown_118 ?_
                refine S_icmp_ne (tgt := 135) X dX12_readTown_119 (by decide) (by omega) (by decide) (fun c_94 => ?_) (fun c_94 => by exfalso; omega)
                refine S_iconst X dX12_readTown_135 ?_
                refine S_istore_n X dX12_readTown_136 rfl (nle rfl) ?_
                refine S_aload_n X dX12_readTown_137 rfl hL37_0 ?_
                refine S_dup X dX12_readTown_138 ?_
                refine S_get (v := iv a2_82) X fgX12_111_11 0 rfl rfl dX12_readTown_139 ?_
                refine S_iload_n X dX12_readTown_142 rfl rfl ?_
                refine S_if_eq (tgt := 150) X dX12_readTown_143 (by decide) (by decide) (fun _ => ?_) (fun h9 => absurd h9 (by decide))
                refine S_iconst X dX12_readTown_150 ?_
                refine S_iadd X dX12_readTown_151 ?_
                refine S_put X fpX12_111_11 0 rfl FT_i dX12_readTown_152 ?_
                refine S_w (ws' := [(h0, ob 11 (uF (uF (uF (uF (uF (uF f 19 (iv z_81)) 18 (iv p1)) 14 (iv tx)) 3 (iv (a2_82 + 0))) 4 (iv fl_83)) 5 (iv dp))), (hT, ar 160 T), (hR, ar 30 Rr)]) (by simp only [List.set]; rw [uF_mv (j := 5) (k := 3) (by decide), uF_mv (j := 4) (k := 3) (by decide), uF_same (k := 3)]) ?_
                refine S_w (ws' := [(h0, ob 11 (uF (uF (uF (uF (uF (uF f 19 (iv z_81)) 18 (iv p1)) 14 (iv tx)) 3 (iv a2_82)) 4 (iv fl_83)) 5 (iv dp))), (hT, ar 160 T), (hR, ar 30 Rr)]) (by rw [Int.add_zero]) ?_
                refine S_goto (tgt := 25) X dX12_readTown_155 (by decide) ?_
                refine S_iload_n X dX12_readTown_25 rfl rfl ?_
                refine S_if_eq (tgt := 158) X dX12_readTown_26 (by decide) (by decide) (fun _ => ?_) (fun h9 => absurd h9 (by decide))
                refine S_aload_n X dX12_readTown_158 rfl hL37_0 ?_
                refine S_get (v := iv fl_83) X fgX12_118_11 0 rfl rfl dX12_readTown_159 ?_
                refine S_iconst X dX12_readTown_162 ?_
                refine S_icmp_ne (tgt := 185) X dX12_readTown_163 (by decide) (by omega) (by decide) (fun c_97 => ?_) (fun c_97 => by exfalso; omega)
                refine S_aload_n X dX12_readTown_185 rfl hL37_0 ?_
                refine S_get (v := iv fl_83) X fgX12_118_11 0 rfl rfl dX12_readTown_186 ?_
                exact S_iret X (nle rfl) (nle rfl) dX12_readTown_189 (hPo _ _ (Or.inl ⟨_, _, _, _, _, rfl, rfl, tnRes_f (hk9.symm.trans (pTnL_f (pCl_mf (s := (p1, m1, x1, Rc)) ⟨by omega, by omega⟩ (mt_f hi0 hq_87)))), by omega⟩))
              ·
                subst hz_91
                subst hu_92
                refine ⟨rfl, ?_⟩
                refine S_w (ws' := [(h0, ob 11 (uF (uF (uF (uF (uF (uF f 19 (iv m1)) 18 (iv p1)) 14 (iv tx)) 3 (iv a2_89)) 4 (iv (-1))) 5 (iv dp))), (hT, ar 160 T), (hR, ar 30 Rr)]) rfl ?_
                have hen_98 : ends T n a1 (p1, m1, x1, Rc) a2_89 (p1, z_81, 1, Rc) := ends_mb ⟨by omega, by omega⟩ hi0 hq_93
                have hpn_98 := (pNum_in (T := T) (n := n) (dg := 2) (lo := 1) (hi := 99) (a := sk T n (sk T n a1 + 1) + 1) (by omega) (by decide) hn1 (by omega)).2 _ hq_93
                dsimp only at hpn_98
                refine S_put X fpX12_237_11 0 rfl FT_i dX12_readTown_104 ?_
                refine S_w (ws' := [(h0, ob 11 (uF (uF (uF (uF (uF (uF f 19 (iv z_81)) 18 (iv p1)) 14 (iv tx)) 3 (iv a2_89)) 4 (iv (-1))) 5 (iv dp))), (hT, ar 160 T), (hR, ar 30 Rr)]) (by simp only [List.set]; rw [uF_mv (j := 5) (k := 19) (by decide), uF_mv (j := 4) (k := 19) (by decide), uF_mv (j := 3) (k := 19) (by decide), uF_mv (j := 14) (k := 19) (by decide), uF_mv (j := 18) (k := 19) (by decide), uF_same (k := 19)]) ?_
                refine S_goto (tgt := 114) X dX12_readTown_107 (by decide) ?_
                refine S_aload_n X dX12_readTown_114 rfl hL37_0 ?_
                refine S_get (v := iv (-1)) X fgX12_118_11 0 rfl rfl dX12_readTown_115 ?_
                refine S_iconst X dX12_readTown_118 ?_
                refine S_icmp_ne (tgt := 135) X dX12_readTown_119 (by decide) (by decide) (by decide) (fun h9 => absurd h9 (by decide)) (fun _ => ?_)
                refine S_aload_n X dX12_readTown_122 rfl hL37_0 ?_
                refine S_calli X (kX12_look l h0 hT (uF (uF (uF f 19 (iv z_81)) 18 (iv p1)) 14 (iv tx)) T n a2_89 (-1) dp hf0 hf1 (by omega) (by omega)) (is := [0, 1]) rfl (run_V X lkX12_130 0 rfl rfl (is := [0, 1]) (avs := []) (rest := []) rfl rfl (nle rfl) ⟨nle rfl, nle rfl⟩ ⟨nle rfl, nle rfl⟩ dX12_readTown_123 (by decide) rfl) (fun z_102 u_100 hp_101 => ?_)
                obtain ⟨hz_103, hu_104⟩ := hp_101
                subst hz_103
                subst hu_104
                refine ⟨rfl, ?_⟩
                refine S_w (ws' := [(h0, ob 11 (uF (uF (uF (uF (uF (uF f 19 (iv z_81)) 18 (iv p1)) 14 (iv tx)) 3 (iv (sk T n a2_89))) 4 (iv (-1))) 5 (iv dp))), (hT, ar 160 T), (hR, ar 30 Rr)]) rfl ?_
                have hsk_105 := sk_in (T := T) (n := n) (a := a2_89) (by omega)
                have hcm_105 := chM_or okT (a := sk T n a2_89) (by omega) (by omega)
                refine S_bipush X dX12_readTown_126 rfl ?_
                refine S_icmp_ne (tgt := 135) X dX12_readTown_128 (by decide) (by omega) (by decide) (fun c_106 => ?_) (fun c_106 => ?_)
                ·
                  refine S_iconst X dX12_readTown_135 ?_
                  refine S_istore_n X dX12_readTown_136 rfl (nle rfl) ?_
                  refine S_aload_n X dX12_readTown_137 rfl hL37_0 ?_
                  refine S_dup X dX12_readTown_138 ?_
                  refine S_get (v := iv (sk T n a2_89)) X fgX12_111_11 0 rfl rfl dX12_readTown_139 ?_
                  refine S_iload_n X dX12_readTown_142 rfl rfl ?_
                  refine S_if_eq (tgt := 150) X dX12_readTown_143 (by decide) (by decide) (fun _ => ?_) (fun h9 => absurd h9 (by decide))
                  refine S_iconst X dX12_readTown_150 ?_
                  refine S_iadd X dX12_readTown_151 ?_
                  refine S_put X fpX12_111_11 0 rfl FT_i dX12_readTown_152 ?_
                  refine S_w (ws' := [(h0, ob 11 (uF (uF (uF (uF (uF (uF f 19 (iv z_81)) 18 (iv p1)) 14 (iv tx)) 3 (iv ((sk T n a2_89) + 0))) 4 (iv (-1))) 5 (iv dp))), (hT, ar 160 T), (hR, ar 30 Rr)]) (by simp only [List.set]; rw [uF_mv (j := 5) (k := 3) (by decide), uF_mv (j := 4) (k := 3) (by decide), uF_same (k := 3)]) ?_
                  refine S_w (ws' := [(h0, ob 11 (uF (uF (uF (uF (uF (uF f 19 (iv z_81)) 18 (iv p1)) 14 (iv tx)) 3 (iv (sk T n a2_89))) 4 (iv (-1))) 5 (iv dp))), (hT, ar 160 T), (hR, ar 30 Rr)]) (by rw [Int.add_zero]) ?_
                  refine S_goto (tgt := 25) X dX12_readTown_155 (by decide) ?_
                  refine S_iload_n X dX12_readTown_25 rfl rfl ?_
                  refine S_if_eq (tgt := 158) X dX12_readTown_26 (by decide) (by decide) (fun _ => ?_) (fun h9 => absurd h9 (by decide))
                  refine S_aload_n X dX12_readTown_158 rfl hL37_0 ?_
                  refine S_get (v := iv (-1)) X fgX12_118_11 0 rfl rfl dX12_readTown_159 ?_
                  refine S_iconst X dX12_readTown_162 ?_
                  refine S_icmp_ne (tgt := 185) X dX12_readTown_163 (by decide) (by decide) (by decide) (fun h9 => absurd h9 (by decide)) (fun _ => ?_)
                  refine S_aload_n X dX12_readTown_166 rfl hL37_0 ?_
                  refine S_calli X (kX12_look l h0 hT (uF (uF (uF f 19 (iv z_81)) 18 (iv p1)) 14 (iv tx)) T n (sk T n a2_89) (-1) dp hf0 hf1 (by omega) (by omega)) (is := [0, 1]) rfl (run_V X lkX12_130 0 rfl rfl (is := [0, 1]) (avs := []) (rest := []) rfl rfl (nle rfl) ⟨nle rfl, nle rfl⟩ ⟨nle rfl, nle rfl⟩ dX12_readTown_167 (by decide) rfl) (fun z_112 u_110 hp_111 => ?_)
                  obtain ⟨hz_113, hu_114⟩ := hp_111
                  subst hz_113
                  subst hu_114
                  refine ⟨rfl, ?_⟩
                  refine S_w (ws' := [(h0, ob 11 (uF (uF (uF (uF (uF (uF f 19 (iv z_81)) 18 (iv p1)) 14 (iv tx)) 3 (iv (sk T n (sk T n a2_89)))) 4 (iv (-1))) 5 (iv dp))), (hT, ar 160 T), (hR, ar 30 Rr)]) rfl ?_
                  rw [sk_idem (a := a2_89)]
                  refine S_iconst X dX12_readTown_170 ?_
                  refine S_icmp_ne (tgt := 181) X dX12_readTown_171 (by decide) (by omega) (by decide) (fun c_115 => ?_) (fun c_115 => ?_)
                  ·
                    refine S_aload_n X dX12_readTown_181 rfl hL37_0 ?_
                    refine S_callv X (kX12_bad l h0 (uF (uF (uF f 19 (iv z_81)) 18 (iv p1)) 14 (iv tx)) (sk T n a2_89) (-1) dp (by omega)) (is := [0]) rfl (run_V X lkX12_127 0 rfl rfl (is := [0]) (avs := []) (rest := []) rfl rfl (nle rfl) ⟨nle rfl, nle rfl⟩ ⟨nle rfl, nle rfl⟩ dX12_readTown_182 (by decide) rfl) (fun u_116 hp_117 => ?_)
                    have hu_120 := hp_117
                    subst hu_120
                    refine ⟨rfl, ?_⟩
                    refine S_w (ws' := [(h0, ob 11 (uF (uF (uF (uF (uF (uF f 19 (iv z_81)) 18 (iv p1)) 14 (iv tx)) 3 (iv (sk T n a2_89))) 4 (iv (sk T n a2_89))) 5 (iv dp))), (hT, ar 160 T), (hR, ar 30 Rr)]) rfl ?_
                    refine S_aload_n X dX12_readTown_185 rfl hL37_0 ?_
                    refine S_get (v := iv (sk T n a2_89)) X fgX12_118_11 0 rfl rfl dX12_readTown_186 ?_
                    exact S_iret X (nle rfl) (nle rfl) dX12_readTown_189 (hPo _ _ (Or.inl ⟨_, _, _, _, _, rfl, rfl, tnRes_f (hk9.symm.trans (ends_x hen_98 (by omega) (by omega))), by omega⟩))
                  ·
                    have hcl_121 := ends_l hen_98 (by omega)
                    have hok_121 := (pCl_in hn1 (by omega) (by omega) hs).2 _ hcl_121
                    dsimp only at hok_121
                    refine S_aload_n X dX12_readTown_174 rfl hL37_0 ?_
                    refine S_calli X (kX12_areTold l h0 (uF f 19 (iv z_81)) (sk T n a2_89) dp tx p1 hR Rr (-1) hf2 (by omega) (flat_in (hfl) hok_121.2.2)) (is := [0, 2]) rfl (run_V X lkX12_243 0 rfl rfl (is := [0, 2]) (avs := []) (rest := []) rfl rfl (nle rfl) ⟨nle rfl, nle rfl⟩ ⟨nle rfl, nle rfl⟩ dX12_readTown_175 (by decide) rfl) (fun z_124 u_122 hp_123 => ?_)
                    rcases hp_123 with ⟨hz_125, hu_126, hq_127⟩ | ⟨hz_128, hu_129, hq_130⟩
                    ·
                      subst hz_125
                      subst hu_126
                      refine ⟨rfl, ?_⟩
                      refine S_w (ws' := [(h0, ob 11 (uF (uF (uF (uF (uF (uF f 19 (iv z_81)) 18 (iv p1)) 14 (iv tx)) 3 (iv (sk T n a2_89))) 4 (iv (-1))) 5 (iv dp))), (hT, ar 160 T), (hR, ar 30 Rr)]) rfl ?_
                      refine S_if_ne (tgt := 185) X dX12_readTown_178 (by decide) (by decide) (fun h9 => absurd h9 (by decide)) (fun _ => ?_)
                      refine S_aload_n X dX12_readTown_181 rfl hL37_0 ?_
                      refine S_callv X (kX12_bad l h0 (uF (uF (uF f 19 (iv z_81)) 18 (iv p1)) 14 (iv tx)) (sk T n a2_89) (-1) dp (by omega)) (is := [0]) rfl (run_V X lkX12_127 0 rfl rfl (is := [0]) (avs := []) (rest := []) rfl rfl (nle rfl) ⟨nle rfl, nle rfl⟩ ⟨nle rfl, nle rfl⟩ dX12_readTown_182 (by decide) rfl) (fun u_132 hp_133 => ?_)
                      have hu_136 := hp_133
                      subst hu_136
                      refine ⟨rfl, ?_⟩
                      refine S_w (ws' := [(h0, ob 11 (uF (uF (uF (uF (uF (uF f 19 (iv z_81)) 18 (iv p1)) 14 (iv tx)) 3 (iv (sk T n a2_89))) 4 (iv (sk T n a2_89))) 5 (iv dp))), (hT, ar 160 T), (hR, ar 30 Rr)]) rfl ?_
                      refine S_aload_n X dX12_readTown_185 rfl hL37_0 ?_
                      refine S_get (v := iv (sk T n a2_89)) X fgX12_118_11 0 rfl rfl dX12_readTown_186 ?_
                      exact S_iret X (nle rfl) (nle rfl) dX12_readTown_189 (hPo _ _ (Or.inl ⟨_, _, _, _, _, rfl, rfl, by rw [show (sk T n a2_89) = n by omega]; exact tnRes_n (hk9.symm.trans (ends_0 hen_98 (by omega))) (fun q9 => hq_127 ((flat_ok (hfl)).2 q9)), by omega⟩))
                    ·
                      subst hz_128
                      subst hu_129
                      refine ⟨rfl, ?_⟩
                      refine S_w (ws' := [(h0, ob 11 (uF (uF (uF (uF (uF (uF f 19 (iv z_81)) 18 (iv p1)) 14 (iv tx)) 3 (iv (sk T n a2_89))) 4 (iv (-1))) 5 (iv dp))), (hT, ar 160 T), (hR, ar 30 Rr)]) rfl ?_
                      refine S_if_ne (tgt := 185) X dX12_readTown_178 (by decide) (by decide) (fun _ => ?_) (fun h9 => absurd h9 (by decide))
                      refine S_aload_n X dX12_readTown_185 rfl hL37_0 ?_
                      refine S_get (v := iv (-1)) X fgX12_118_11 0 rfl rfl dX12_readTown_186 ?_
                      exact S_iret X (nle rfl) (nle rfl) dX12_readTown_189 (hPo _ _ (Or.inr ⟨_, _, _, _, _, _, rfl, rfl, tnRes_y (hk9.symm.trans (ends_0 hen_98 (by omega))) ((flat_ok (hfl)).1 hq_130), hfl, hok_121.2.2⟩))
                ·
                  have hcl_138 := ends_l hen_98 (by omega)
                  have hok_138 := (pCl_in hn1 (by omega) (by omega) hs).2 _ hcl_138
                  dsimp only at hok_138
                  refine S_iconst X dX12_readTown_131 ?_
                  refine S_goto (tgt := 136) X dX12_readTown_132 (by decide) ?_
                  refine S_istore_n X dX12_readTown_136 rfl (nle rfl) ?_
                  refine S_aload_n X dX12_readTown_137 rfl hL37_0 ?_
                  refine S_dup X dX12_readTown_138 ?_
                  refine S_get (v := iv (sk T n a2_89)) X fgX12_111_11 0 rfl rfl dX12_readTown_139 ?_
                  refine S_iload_n X dX12_readTown_142 rfl rfl ?_
                  refine S_if_eq (tgt := 150) X dX12_readTown_143 (by decide) (by decide) (fun h9 => absurd h9 (by decide)) (fun _ => ?_)
                  refine S_iconst X dX12_readTown_146 ?_
                  refine S_goto (tgt := 151) X dX12_readTown_147 (by decide) ?_
                  refine S_iadd X dX12_readTown_151 ?_
                  refine S_put X fpX12_111_11 0 rfl FT_i dX12_readTown_152 ?_
                  refine S_w (ws' := [(h0, ob 11 (uF (uF (uF (uF (uF (uF f 19 (iv z_81)) 18 (iv p1)) 14 (iv tx)) 3 (iv ((sk T n a2_89) + 1))) 4 (iv (-1))) 5 (iv dp))), (hT, ar 160 T), (hR, ar 30 Rr)]) (by simp only [List.set]; rw [uF_mv (j := 5) (k := 3) (by decide), uF_mv (j := 4) (k := 3) (by decide), uF_same (k := 3)]) ?_
                  refine S_goto (tgt := 25) X dX12_readTown_155 (by decide) ?_
                  refine S_iload_n X dX12_readTown_25 rfl rfl ?_
                  refine S_if_eq (tgt := 158) X dX12_readTown_26 (by decide) (by decide) (fun h9 => absurd h9 (by decide)) (fun _ => ?_)
                  refine S_aload_n X dX12_readTown_29 rfl hL37_0 ?_
                  refine S_get (v := iv (-1)) X fgX12_118_11 0 rfl rfl dX12_readTown_30 ?_
                  refine S_iconst X dX12_readTown_33 ?_
                  refine S_icmp_ne (tgt := 158) X dX12_readTown_34 (by decide) (by decide) (by decide) (fun h9 => absurd h9 (by decide)) (fun _ => ?_)
                  exact ih37 ((sk T n a2_89) + 1) 1 z_81 p1 Rr Rc _ (by omega) (hok_138.2.2) (hfl) (⟨g9, by omega, (ends_59 hen_98 (by omega)).symm.trans hk9⟩) hL37_0 rfl rfl (by omega)
      ·
        refine S_aload_n X dX12_readTown_48 rfl hL37_0 ?_
        refine S_callv X (kX12_playerText l h0 hT (uF f 19 (iv m1)) T n (sk T n a1) dp tx p1 hR Rr hf0 hf1 hf2 (by omega) (by omega) (by omega)) (is := [0, 1, 2]) rfl (run_V X lkX12_240 0 rfl rfl (is := [0, 1, 2]) (avs := []) (rest := []) rfl rfl (nle rfl) ⟨nle rfl, nle rfl⟩ ⟨nle rfl, nle rfl⟩ dX12_readTown_49 (by decide) rfl) (fun u_142 hp_143 => ?_)
        rcases hp_143 with ⟨hu_146, h6_147⟩ | ⟨a2_148, fl_149, r_150, hu_152, h6_153, hq_154, hr_155⟩ | ⟨a2_156, r_157, hu_159, h6_160, hq_161, hr_162, hi_163, hid_164⟩ | ⟨a2_165, r_166, hu_168, h6_169, hq_170, hr_171⟩
        ·
          subst hu_146
          refine ⟨rfl, ?_⟩
          refine S_w (ws' := [(h0, ob 11 (uF (uF (uF (uF (uF (uF f 19 (iv m1)) 18 (iv p1)) 14 (iv tx)) 3 (iv (sk T n a1))) 4 (iv (sk T n a1))) 5 (iv dp))), (hT, ar 160 T), (hR, ar 30 Rr)]) rfl ?_
          refine S_goto (tgt := 114) X dX12_readTown_52 (by decide) ?_
          refine S_aload_n X dX12_readTown_114 rfl hL37_0 ?_
          refine S_get (v := iv (sk T n a1)) X fgX12_118_11 0 rfl rfl dX12_readTown_115 ?_
          refine S_iconst X dX12_readTown_118 ?_
          refine S_icmp_ne (tgt := 135) X dX12_readTown_119 (by decide) (by omega) (by decide) (fun c_172 => ?_) (fun c_172 => by exfalso; omega)
          refine S_iconst X dX12_readTown_135 ?_
          refine S_istore_n X dX12_readTown_136 rfl (nle rfl) ?_
          refine S_aload_n X dX12_readTown_137 rfl hL37_0 ?_
          refine S_dup X dX12_readTown_138 ?_
          refine S_get (v := iv (sk T n a1)) X fgX12_111_11 0 rfl rfl dX12_readTown_139 ?_
          refine S_iload_n X dX12_readTown_142 rfl rfl ?_
          refine S_if_eq (tgt := 150) X dX12_readTown_143 (by decide) (by decide) (fun _ => ?_) (fun h9 => absurd h9 (by decide))
          refine S_iconst X dX12_readTown_150 ?_
          refine S_iadd X dX12_readTown_151 ?_
          refine S_put X fpX12_111_11 0 rfl FT_i dX12_readTown_152 ?_
          refine S_w (ws' := [(h0, ob 11 (uF (uF (uF (uF (uF (uF f 19 (iv m1)) 18 (iv p1)) 14 (iv tx)) 3 (iv ((sk T n a1) + 0))) 4 (iv (sk T n a1))) 5 (iv dp))), (hT, ar 160 T), (hR, ar 30 Rr)]) (by simp only [List.set]; rw [uF_mv (j := 5) (k := 3) (by decide), uF_mv (j := 4) (k := 3) (by decide), uF_same (k := 3)]) ?_
          refine S_w (ws' := [(h0, ob 11 (uF (uF (uF (uF (uF (uF f 19 (iv m1)) 18 (iv p1)) 14 (iv tx)) 3 (iv (sk T n a1))) 4 (iv (sk T n a1))) 5 (iv dp))), (hT, ar 160 T), (hR, ar 30 Rr)]) (by rw [Int.add_zero]) ?_
          refine S_goto (tgt := 25) X dX12_readTown_155 (by decide) ?_
          refine S_iload_n X dX12_readTown_25 rfl rfl ?_
          refine S_if_eq (tgt := 158) X dX12_readTown_26 (by decide) (by decide) (fun _ => ?_) (fun h9 => absurd h9 (by decide))
          refine S_aload_n X dX12_readTown_158 rfl hL37_0 ?_
          refine S_get (v := iv (sk T n a1)) X fgX12_118_11 0 rfl rfl dX12_readTown_159 ?_
          refine S_iconst X dX12_readTown_162 ?_
          refine S_icmp_ne (tgt := 185) X dX12_readTown_163 (by decide) (by omega) (by decide) (fun c_175 => ?_) (fun c_175 => by exfalso; omega)
          refine S_aload_n X dX12_readTown_185 rfl hL37_0 ?_
          refine S_get (v := iv (sk T n a1)) X fgX12_118_11 0 rfl rfl dX12_readTown_186 ?_
          exact S_iret X (nle rfl) (nle rfl) dX12_readTown_189 (hPo _ _ (Or.inl ⟨_, _, _, _, _, rfl, rfl, tnRes_f (hk9.symm.trans (pTnL_f (pCl_no (by dsimp only; omega) (by dsimp only; omega)))), by omega⟩))
        ·
          subst hu_152
          refine ⟨rfl, ?_⟩
          refine S_w (ws' := [(h0, ob 11 (uF (uF (uF (uF (uF (uF f 19 (iv m1)) 18 (iv (p1 + 1))) 14 (iv tx)) 3 (iv a2_148)) 4 (iv fl_149)) 5 (iv dp))), (hT, ar 160 T), (hR, ar 30 (rowW Rr p1 r_150))]) rfl ?_
          refine S_goto (tgt := 114) X dX12_readTown_52 (by decide) ?_
          refine S_aload_n X dX12_readTown_114 rfl hL37_0 ?_
          refine S_get (v := iv fl_149) X fgX12_118_11 0 rfl rfl dX12_readTown_115 ?_
          refine S_iconst X dX12_readTown_118 ?_
          refine S_icmp_ne (tgt := 135) X dX12_readTown_119 (by decide) (by omega) (by decide) (fun c_176 => ?_) (fun c_176 => by exfalso; omega)
          refine S_iconst X dX12_readTown_135 ?_
          refine S_istore_n X dX12_readTown_136 rfl (nle rfl) ?_
          refine S_aload_n X dX12_readTown_137 rfl hL37_0 ?_
          refine S_dup X dX12_readTown_138 ?_
          refine S_get (v := iv a2_148) X fgX12_111_11 0 rfl rfl dX12_readTown_139 ?_
          refine S_iload_n X dX12_readTown_142 rfl rfl ?_
          refine S_if_eq (tgt := 150) X dX12_readTown_143 (by decide) (by decide) (fun _ => ?_) (fun h9 => absurd h9 (by decide))
          refine S_iconst X dX12_readTown_150 ?_
          refine S_iadd X dX12_readTown_151 ?_
          refine S_put X fpX12_111_11 0 rfl FT_i dX12_readTown_152 ?_
          refine S_w (ws' := [(h0, ob 11 (uF (uF (uF (uF (uF (uF f 19 (iv m1)) 18 (iv (p1 + 1))) 14 (iv tx)) 3 (iv (a2_148 + 0))) 4 (iv fl_149)) 5 (iv dp))), (hT, ar 160 T), (hR, ar 30 (rowW Rr p1 r_150))]) (by simp only [List.set]; rw [uF_mv (j := 5) (k := 3) (by decide), uF_mv (j := 4) (k := 3) (by decide), uF_same (k := 3)]) ?_
          refine S_w (ws' := [(h0, ob 11 (uF (uF (uF (uF (uF (uF f 19 (iv m1)) 18 (iv (p1 + 1))) 14 (iv tx)) 3 (iv a2_148)) 4 (iv fl_149)) 5 (iv dp))), (hT, ar 160 T), (hR, ar 30 (rowW Rr p1 r_150))]) (by rw [Int.add_zero]) ?_
          refine S_goto (tgt := 25) X dX12_readTown_155 (by decide) ?_
          refine S_iload_n X dX12_readTown_25 rfl rfl ?_
          refine S_if_eq (tgt := 158) X dX12_readTown_26 (by decide) (by decide) (fun _ => ?_) (fun h9 => absurd h9 (by decide))
          refine S_aload_n X dX12_readTown_158 rfl hL37_0 ?_
          refine S_get (v := iv fl_149) X fgX12_118_11 0 rfl rfl dX12_readTown_159 ?_
          refine S_iconst X dX12_readTown_162 ?_
          refine S_icmp_ne (tgt := 185) X dX12_readTown_163 (by decide) (by omega) (by decide) (fun c_179 => ?_) (fun c_179 => by exfalso; omega)
          refine S_aload_n X dX12_readTown_185 rfl hL37_0 ?_
          refine S_get (v := iv fl_149) X fgX12_118_11 0 rfl rfl dX12_readTown_186 ?_
          exact S_iret X (nle rfl) (nle rfl) dX12_readTown_189 (hPo _ _ (Or.inl ⟨_, _, _, _, _, rfl, rfl, tnRes_f (hk9.symm.trans (pTnL_f (pCl_pf (s := (p1, m1, x1, Rc)) ⟨by omega, by omega⟩ hq_154))), by omega⟩))
        ·
          subst hu_159
          refine ⟨rfl, ?_⟩
          refine S_w (ws' := [(h0, ob 11 (uF (uF (uF (uF (uF (uF f 19 (iv m1)) 18 (iv (p1 + 1))) 14 (iv tx)) 3 (iv (sk T n a2_156))) 4 (iv (-1))) 5 (iv dp))), (hT, ar 160 T), (hR, ar 30 (rowW Rr p1 r_157))]) rfl ?_
          have hski_180 := sk_in (T := T) (n := n) (a := a2_156) (by omega)
          have hen_180 : ends T n a1 (p1, m1, x1, Rc) (sk T n a2_156) (p1 + 1, m1, x1, uZ Rc p1 r_157) := Or.inr ⟨by rw [sk_idem]; exact pCl_pf (s := (p1, m1, x1, Rc)) ⟨by omega, by omega⟩ hq_161, by rw [sk_idem]; exact hi_163⟩
          refine S_goto (tgt := 114) X dX12_readTown_52 (by decide) ?_
          refine S_aload_n X dX12_readTown_114 rfl hL37_0 ?_
          refine S_get (v := iv (-1)) X fgX12_118_11 0 rfl rfl dX12_readTown_115 ?_
          refine S_iconst X dX12_readTown_118 ?_
          refine S_icmp_ne (tgt := 135) X dX12_readTown_119 (by decide) (by decide) (by decide) (fun h9 => absurd h9 (by decide)) (fun _ => ?_)
          refine S_aload_n X dX12_readTown_122 rfl hL37_0 ?_
          refine S_calli X (kX12_look l h0 hT (uF (uF (uF f 19 (iv m1)) 18 (iv (p1 + 1))) 14 (iv tx)) T n (sk T n a2_156) (-1) dp hf0 hf1 (by omega) (by omega)) (is := [0, 1]) rfl (run_V X lkX12_130 0 rfl rfl (is := [0, 1]) (avs := []) (rest := []) rfl rfl (nle rfl) ⟨nle rfl, nle rfl⟩ ⟨nle rfl, nle rfl⟩ dX12_readTown_123 (by decide) rfl) (fun z_184 u_182 hp_183 => ?_)
          obtain ⟨hz_185, hu_186⟩ := hp_183
          subst hz_185
          subst hu_186
          refine ⟨rfl, ?_⟩
          refine S_w (ws' := [(h0, ob 11 (uF (uF (uF (uF (uF (uF f 19 (iv m1)) 18 (iv (p1 + 1))) 14 (iv tx)) 3 (iv (sk T n (sk T n a2_156)))) 4 (iv (-1))) 5 (iv dp))), (hT, ar 160 T), (hR, ar 30 (rowW Rr p1 r_157))]) rfl ?_
          have hsk_187 := sk_in (T := T) (n := n) (a := (sk T n a2_156)) (by omega)
          have hcm_187 := chM_or okT (a := sk T n (sk T n a2_156)) (by omega) (by omega)
          refine S_bipush X dX12_readTown_126 rfl ?_
          refine S_icmp_ne (tgt := 135) X dX12_readTown_128 (by decide) (by omega) (by decide) (fun c_188 => ?_) (fun c_188 => ?_)
          ·
            refine S_iconst X dX12_readTown_135 ?_
            refine S_istore_n X dX12_readTown_136 rfl (nle rfl) ?_
            refine S_aload_n X dX12_readTown_137 rfl hL37_0 ?_
            refine S_dup X dX12_readTown_138 ?_
            refine S_get (v := iv (sk T n (sk T n a2_156))) X fgX12_111_11 0 rfl rfl dX12_readTown_139 ?_
            refine S_iload_n X dX12_readTown_142 rfl rfl ?_
            refine S_if_eq (tgt := 150) X dX12_readTown_143 (by decide) (by decide) (fun _ => ?_) (fun h9 => absurd h9 (by decide))
            refine S_iconst X dX12_readTown_150 ?_
            refine S_iadd X dX12_readTown_151 ?_
            refine S_put X fpX12_111_11 0 rfl FT_i dX12_readTown_152 ?_
            refine S_w (ws' := [(h0, ob 11 (uF (uF (uF (uF (uF (uF f 19 (iv m1)) 18 (iv (p1 + 1))) 14 (iv tx)) 3 (iv ((sk T n (sk T n a2_156)) + 0))) 4 (iv (-1))) 5 (iv dp))), (hT, ar 160 T), (hR, ar 30 (rowW Rr p1 r_157))]) (by simp only [List.set]; rw [uF_mv (j := 5) (k := 3) (by decide), uF_mv (j := 4) (k := 3) (by decide), uF_same (k := 3)]) ?_
            refine S_w (ws' := [(h0, ob 11 (uF (uF (uF (uF (uF (uF f 19 (iv m1)) 18 (iv (p1 + 1))) 14 (iv tx)) 3 (iv (sk T n (sk T n a2_156)))) 4 (iv (-1))) 5 (iv dp))), (hT, ar 160 T), (hR, ar 30 (rowW Rr p1 r_157))]) (by rw [Int.add_zero]) ?_
            refine S_goto (tgt := 25) X dX12_readTown_155 (by decide) ?_
            refine S_iload_n X dX12_readTown_25 rfl rfl ?_
            refine S_if_eq (tgt := 158) X dX12_readTown_26 (by decide) (by decide) (fun _ => ?_) (fun h9 => absurd h9 (by decide))
            refine S_aload_n X dX12_readTown_158 rfl hL37_0 ?_
            refine S_get (v := iv (-1)) X fgX12_118_11 0 rfl rfl dX12_readTown_159 ?_
            refine S_iconst X dX12_readTown_162 ?_
            refine S_icmp_ne (tgt := 185) X dX12_readTown_163 (by decide) (by decide) (by decide) (fun h9 => absurd h9 (by decide)) (fun _ => ?_)
            refine S_aload_n X dX12_readTown_166 rfl hL37_0 ?_
            refine S_calli X (kX12_look l h0 hT (uF (uF (uF f 19 (iv m1)) 18 (iv (p1 + 1))) 14 (iv tx)) T n (sk T n (sk T n a2_156)) (-1) dp hf0 hf1 (by omega) (by omega)) (is := [0, 1]) rfl (run_V X lkX12_130 0 rfl rfl (is := [0, 1]) (avs := []) (rest := []) rfl rfl (nle rfl) ⟨nle rfl, nle rfl⟩ ⟨nle rfl, nle rfl⟩ dX12_readTown_167 (by decide) rfl) (fun z_194 u_192 hp_193 => ?_)
            obtain ⟨hz_195, hu_196⟩ := hp_193
            subst hz_195
            subst hu_196
            refine ⟨rfl, ?_⟩
            refine S_w (ws' := [(h0, ob 11 (uF (uF (uF (uF (uF (uF f 19 (iv m1)) 18 (iv (p1 + 1))) 14 (iv tx)) 3 (iv (sk T n (sk T n (sk T n a2_156))))) 4 (iv (-1))) 5 (iv dp))), (hT, ar 160 T), (hR, ar 30 (rowW Rr p1 r_157))]) rfl ?_
            rw [sk_idem (a := (sk T n a2_156))]
            refine S_iconst X dX12_readTown_170 ?_
            refine S_icmp_ne (tgt := 181) X dX12_readTown_171 (by decide) (by omega) (by decide) (fun c_197 => ?_) (fun c_197 => ?_)
            ·
              refine S_aload_n X dX12_readTown_181 rfl hL37_0 ?_
              refine S_callv X (kX12_bad l h0 (uF (uF (uF f 19 (iv m1)) 18 (iv (p1 + 1))) 14 (iv tx)) (sk T n (sk T n a2_156)) (-1) dp (by omega)) (is := [0]) rfl (run_V X lkX12_127 0 rfl rfl (is := [0]) (avs := []) (rest := []) rfl rfl (nle rfl) ⟨nle rfl, nle rfl⟩ ⟨nle rfl, nle rfl⟩ dX12_readTown_182 (by decide) rfl) (fun u_198 hp_199 => ?_)
              have hu_202 := hp_199
              subst hu_202
              refine ⟨rfl, ?_⟩
              refine S_w (ws' := [(h0, ob 11 (uF (uF (uF (uF (uF (uF f 19 (iv m1)) 18 (iv (p1 + 1))) 14 (iv tx)) 3 (iv (sk T n (sk T n a2_156)))) 4 (iv (sk T n (sk T n a2_156)))) 5 (iv dp))), (hT, ar 160 T), (hR, ar 30 (rowW Rr p1 r_157))]) rfl ?_
              refine S_aload_n X dX12_readTown_185 rfl hL37_0 ?_
              refine S_get (v := iv (sk T n (sk T n a2_156))) X fgX12_118_11 0 rfl rfl dX12_readTown_186 ?_
              exact S_iret X (nle rfl) (nle rfl) dX12_readTown_189 (hPo _ _ (Or.inl ⟨_, _, _, _, _, rfl, rfl, tnRes_f (hk9.symm.trans (ends_x hen_180 (by omega) (by omega))), by omega⟩))
            ·
              have hcl_203 := ends_l hen_180 (by omega)
              have hok_203 := (pCl_in hn1 (by omega) (by omega) hs).2 _ hcl_203
              dsimp only at hok_203
              refine S_aload_n X dX12_readTown_174 rfl hL37_0 ?_
              refine S_calli X (kX12_areTold l h0 (uF f 19 (iv m1)) (sk T n (sk T n a2_156)) dp tx (p1 + 1) hR (rowW Rr p1 r_157) (-1) hf2 (by omega) (flat_in (flat_put hfl) hok_203.2.2)) (is := [0, 2]) rfl (run_V X lkX12_243 0 rfl rfl (is := [0, 2]) (avs := []) (rest := []) rfl rfl (nle rfl) ⟨nle rfl, nle rfl⟩ ⟨nle rfl, nle rfl⟩ dX12_readTown_175 (by decide) rfl) (fun z_206 u_204 hp_205 => ?_)
              rcases hp_205 with ⟨hz_207, hu_208, hq_209⟩ | ⟨hz_210, hu_211, hq_212⟩
              ·
                subst hz_207
                subst hu_208
                refine ⟨rfl, ?_⟩
                refine S_w (ws' := [(h0, ob 11 (uF (uF (uF (uF (uF (uF f 19 (iv m1)) 18 (iv (p1 + 1))) 14 (iv tx)) 3 (iv (sk T n (sk T n a2_156)))) 4 (iv (-1))) 5 (iv dp))), (hT, ar 160 T), (hR, ar 30 (rowW Rr p1 r_157))]) rfl ?_
                refine S_if_ne (tgt := 185) X dX12_readTown_178 (by decide) (by decide) (fun h9 => absurd h9 (by decide)) (fun _ => ?_)
                refine S_aload_n X dX12_readTown_181 rfl hL37_0 ?_
                refine S_callv X (kX12_bad l h0 (uF (uF (uF f 19 (iv m1)) 18 (iv (p1 + 1))) 14 (iv tx)) (sk T n (sk T n a2_156)) (-1) dp (by omega)) (is := [0]) rfl (run_V X lkX12_127 0 rfl rfl (is := [0]) (avs := []) (rest := []) rfl rfl (nle rfl) ⟨nle rfl, nle rfl⟩ ⟨nle rfl, nle rfl⟩ dX12_readTown_182 (by decide) rfl) (fun u_214 hp_215 => ?_)
                have hu_218 := hp_215
                subst hu_218
                refine ⟨rfl, ?_⟩
                refine S_w (ws' := [(h0, ob 11 (uF (uF (uF (uF (uF (uF f 19 (iv m1)) 18 (iv (p1 + 1))) 14 (iv tx)) 3 (iv (sk T n (sk T n a2_156)))) 4 (iv (sk T n (sk T n a2_156)))) 5 (iv dp))), (hT, ar 160 T), (hR, ar 30 (rowW Rr p1 r_157))]) rfl ?_
                refine S_aload_n X dX12_readTown_185 rfl hL37_0 ?_
                refine S_get (v := iv (sk T n (sk T n a2_156))) X fgX12_118_11 0 rfl rfl dX12_readTown_186 ?_
                exact S_iret X (nle rfl) (nle rfl) dX12_readTown_189 (hPo _ _ (Or.inl ⟨_, _, _, _, _, rfl, rfl, by rw [show (sk T n (sk T n a2_156)) = n by omega]; exact tnRes_n (hk9.symm.trans (ends_0 hen_180 (by omega))) (fun q9 => hq_209 ((flat_ok (flat_put hfl)).2 q9)), by omega⟩))
              ·
                subst hz_210
                subst hu_211
                refine ⟨rfl, ?_⟩
                refine S_w (ws' := [(h0, ob 11 (uF (uF (uF (uF (uF (uF f 19 (iv m1)) 18 (iv (p1 + 1))) 14 (iv tx)) 3 (iv (sk T n (sk T n a2_156)))) 4 (iv (-1))) 5 (iv dp))), (hT, ar 160 T), (hR, ar 30 (rowW Rr p1 r_157))]) rfl ?_
                refine S_if_ne (tgt := 185) X dX12_readTown_178 (by decide) (by decide) (fun _ => ?_) (fun h9 => absurd h9 (by decide))
                refine S_aload_n X dX12_readTown_185 rfl hL37_0 ?_
                refine S_get (v := iv (-1)) X fgX12_118_11 0 rfl rfl dX12_readTown_186 ?_
                exact S_iret X (nle rfl) (nle rfl) dX12_readTown_189 (hPo _ _ (Or.inr ⟨_, _, _, _, _, _, rfl, rfl, tnRes_y (hk9.symm.trans (ends_0 hen_180 (by omega))) ((flat_ok (flat_put hfl)).1 hq_212), flat_put hfl, hok_203.2.2⟩))
          ·
            have hcl_220 := ends_l hen_180 (by omega)
            have hok_220 := (pCl_in hn1 (by omega) (by omega) hs).2 _ hcl_220
            dsimp only at hok_220
            refine S_iconst X dX12_readTown_131 ?_
            refine S_goto (tgt := 136) X dX12_readTown_132 (by decide) ?_
            refine S_istore_n X dX12_readTown_136 rfl (nle rfl) ?_
            refine S_aload_n X dX12_readTown_137 rfl hL37_0 ?_
            refine S_dup X dX12_readTown_138 ?_
            refine S_get (v := iv (sk T n (sk T n a2_156))) X fgX12_111_11 0 rfl rfl dX12_readTown_139 ?_
            refine S_iload_n X dX12_readTown_142 rfl rfl ?_
            refine S_if_eq (tgt := 150) X dX12_readTown_143 (by decide) (by decide) (fun h9 => absurd h9 (by decide)) (fun _ => ?_)
            refine S_iconst X dX12_readTown_146 ?_
            refine S_goto (tgt := 151) X dX12_readTown_147 (by decide) ?_
            refine S_iadd X dX12_readTown_151 ?_
            refine S_put X fpX12_111_11 0 rfl FT_i dX12_readTown_152 ?_
            refine S_w (ws' := [(h0, ob 11 (uF (uF (uF (uF (uF (uF f 19 (iv m1)) 18 (iv (p1 + 1))) 14 (iv tx)) 3 (iv ((sk T n (sk T n a2_156)) + 1))) 4 (iv (-1))) 5 (iv dp))), (hT, ar 160 T), (hR, ar 30 (rowW Rr p1 r_157))]) (by simp only [List.set]; rw [uF_mv (j := 5) (k := 3) (by decide), uF_mv (j := 4) (k := 3) (by decide), uF_same (k := 3)]) ?_
            refine S_goto (tgt := 25) X dX12_readTown_155 (by decide) ?_
            refine S_iload_n X dX12_readTown_25 rfl rfl ?_
            refine S_if_eq (tgt := 158) X dX12_readTown_26 (by decide) (by decide) (fun h9 => absurd h9 (by decide)) (fun _ => ?_)
            refine S_aload_n X dX12_readTown_29 rfl hL37_0 ?_
            refine S_get (v := iv (-1)) X fgX12_118_11 0 rfl rfl dX12_readTown_30 ?_
            refine S_iconst X dX12_readTown_33 ?_
            refine S_icmp_ne (tgt := 158) X dX12_readTown_34 (by decide) (by decide) (by decide) (fun h9 => absurd h9 (by decide)) (fun _ => ?_)
            exact ih37 ((sk T n (sk T n a2_156)) + 1) x1 m1 (p1 + 1) (rowW Rr p1 r_157) (uZ Rc p1 r_157) _ (by omega) (hok_220.2.2) (flat_put hfl) (⟨g9, by omega, (ends_59 hen_180 (by omega)).symm.trans hk9⟩) hL37_0 hL37_1 rfl (by omega)
        ·
          subst hu_168
          refine ⟨rfl, ?_⟩
          refine S_w (ws' := [(h0, ob 11 (uF (uF (uF (uF (uF (uF f 19 (iv m1)) 18 (iv (p1 + 1))) 14 (iv tx)) 3 (iv (sk T n a2_165))) 4 (iv (-1))) 5 (iv dp))), (hT, ar 160 T), (hR, ar 30 (rowW Rr p1 r_166))]) rfl ?_
          have hski_224 := sk_in (T := T) (n := n) (a := a2_165) (by omega)
          have hen_224 : ends T n a1 (p1, m1, x1, Rc) (sk T n a2_165) (p1 + 1, m1, x1, uZ Rc p1 r_166) := Or.inl (by rw [sk_idem]; exact pCl_p (s := (p1, m1, x1, Rc)) ⟨by omega, by omega⟩ hq_170)
          refine S_goto (tgt := 114) X dX12_readTown_52 (by decide) ?_
          refine S_aload_n X dX12_readTown_114 rfl hL37_0 ?_
          refine S_get (v := iv (-1)) X fgX12_118_11 0 rfl rfl dX12_readTown_115 ?_
          refine S_iconst X dX12_readTown_118 ?_
          refine S_icmp_ne (tgt := 135) X dX12_readTown_119 (by decide) (by decide) (by decide) (fun h9 => absurd h9 (by decide)) (fun _ => ?_)
          refine S_aload_n X dX12_readTown_122 rfl hL37_0 ?_
          refine S_calli X (kX12_look l h0 hT (uF (uF (uF f 19 (iv m1)) 18 (iv (p1 + 1))) 14 (iv tx)) T n (sk T n a2_165) (-1) dp hf0 hf1 (by omega) (by omega)) (is := [0, 1]) rfl (run_V X lkX12_130 0 rfl rfl (is := [0, 1]) (avs := []) (rest := []) rfl rfl (nle rfl) ⟨nle rfl, nle rfl⟩ ⟨nle rfl, nle rfl⟩ dX12_readTown_123 (by decide) rfl) (fun z_228 u_226 hp_227 => ?_)
          obtain ⟨hz_229, hu_230⟩ := hp_227
          subst hz_229
          subst hu_230
          refine ⟨rfl, ?_⟩
          refine S_w (ws' := [(h0, ob 11 (uF (uF (uF (uF (uF (uF f 19 (iv m1)) 18 (iv (p1 + 1))) 14 (iv tx)) 3 (iv (sk T n (sk T n a2_165)))) 4 (iv (-1))) 5 (iv dp))), (hT, ar 160 T), (hR, ar 30 (rowW Rr p1 r_166))]) rfl ?_
          have hsk_231 := sk_in (T := T) (n := n) (a := (sk T n a2_165)) (by omega)
          have hcm_231 := chM_or okT (a := sk T n (sk T n a2_165)) (by omega) (by omega)
          refine S_bipush X dX12_readTown_126 rfl ?_
          refine S_icmp_ne (tgt := 135) X dX12_readTown_128 (by decide) (by omega) (by decide) (fun c_232 => ?_) (fun c_232 => ?_)
          ·
            refine S_iconst X dX12_readTown_135 ?_
            refine S_istore_n X dX12_readTown_136 rfl (nle rfl) ?_
            refine S_aload_n X dX12_readTown_137 rfl hL37_0 ?_
            refine S_dup X dX12_readTown_138 ?_
            refine S_get (v := iv (sk T n (sk T n a2_165))) X fgX12_111_11 0 rfl rfl dX12_readTown_139 ?_
            refine S_iload_n X dX12_readTown_142 rfl rfl ?_
            refine S_if_eq (tgt := 150) X dX12_readTown_143 (by decide) (by decide) (fun _ => ?_) (fun h9 => absurd h9 (by decide))
            refine S_iconst X dX12_readTown_150 ?_
            refine S_iadd X dX12_readTown_151 ?_
            refine S_put X fpX12_111_11 0 rfl FT_i dX12_readTown_152 ?_
            refine S_w (ws' := [(h0, ob 11 (uF (uF (uF (uF (uF (uF f 19 (iv m1)) 18 (iv (p1 + 1))) 14 (iv tx)) 3 (iv ((sk T n (sk T n a2_165)) + 0))) 4 (iv (-1))) 5 (iv dp))), (hT, ar 160 T), (hR, ar 30 (rowW Rr p1 r_166))]) (by simp only [List.set]; rw [uF_mv (j := 5) (k := 3) (by decide), uF_mv (j := 4) (k := 3) (by decide), uF_same (k := 3)]) ?_
            refine S_w (ws' := [(h0, ob 11 (uF (uF (uF (uF (uF (uF f 19 (iv m1)) 18 (iv (p1 + 1))) 14 (iv tx)) 3 (iv (sk T n (sk T n a2_165)))) 4 (iv (-1))) 5 (iv dp))), (hT, ar 160 T), (hR, ar 30 (rowW Rr p1 r_166))]) (by rw [Int.add_zero]) ?_
            refine S_goto (tgt := 25) X dX12_readTown_155 (by decide) ?_
            refine S_iload_n X dX12_readTown_25 rfl rfl ?_
            refine S_if_eq (tgt := 158) X dX12_readTown_26 (by decide) (by decide) (fun _ => ?_) (fun h9 => absurd h9 (by decide))
            refine S_aload_n X dX12_readTown_158 rfl hL37_0 ?_
            refine S_get (v := iv (-1)) X fgX12_118_11 0 rfl rfl dX12_readTown_159 ?_
            refine S_iconst X dX12_readTown_162 ?_
            refine S_icmp_ne (tgt := 185) X dX12_readTown_163 (by decide) (by decide) (by decide) (fun h9 => absurd h9 (by decide)) (fun _ => ?_)
            refine S_aload_n X dX12_readTown_166 rfl hL37_0 ?_
            refine S_calli X (kX12_look l h0 hT (uF (uF (uF f 19 (iv m1)) 18 (iv (p1 + 1))) 14 (iv tx)) T n (sk T n (sk T n a2_165)) (-1) dp hf0 hf1 (by omega) (by omega)) (is := [0, 1]) rfl (run_V X lkX12_130 0 rfl rfl (is := [0, 1]) (avs := []) (rest := []) rfl rfl (nle rfl) ⟨nle rfl, nle rfl⟩ ⟨nle rfl, nle rfl⟩ dX12_readTown_167 (by decide) rfl) (fun z_238 u_236 hp_237 => ?_)
            obtain ⟨hz_239, hu_240⟩ := hp_237
            subst hz_239
            subst hu_240
            refine ⟨rfl, ?_⟩
            refine S_w (ws' := [(h0, ob 11 (uF (uF (uF (uF (uF (uF f 19 (iv m1)) 18 (iv (p1 + 1))) 14 (iv tx)) 3 (iv (sk T n (sk T n (sk T n a2_165))))) 4 (iv (-1))) 5 (iv dp))), (hT, ar 160 T), (hR, ar 30 (rowW Rr p1 r_166))]) rfl ?_
            rw [sk_idem (a := (sk T n a2_165))]
            refine S_iconst X dX12_readTown_170 ?_
            refine S_icmp_ne (tgt := 181) X dX12_readTown_171 (by decide) (by omega) (by decide) (fun c_241 => ?_) (fun c_241 => ?_)
            ·
              refine S_aload_n X dX12_readTown_181 rfl hL37_0 ?_
              refine S_callv X (kX12_bad l h0 (uF (uF (uF f 19 (iv m1)) 18 (iv (p1 + 1))) 14 (iv tx)) (sk T n (sk T n a2_165)) (-1) dp (by omega)) (is := [0]) rfl (run_V X lkX12_127 0 rfl rfl (is := [0]) (avs := []) (rest := []) rfl rfl (nle rfl) ⟨nle rfl, nle rfl⟩ ⟨nle rfl, nle rfl⟩ dX12_readTown_182 (by decide) rfl) (fun u_242 hp_243 => ?_)
              have hu_246 := hp_243
              subst hu_246
              refine ⟨rfl, ?_⟩
              refine S_w (ws' := [(h0, ob 11 (uF (uF (uF (uF (uF (uF f 19 (iv m1)) 18 (iv (p1 + 1))) 14 (iv tx)) 3 (iv (sk T n (sk T n a2_165)))) 4 (iv (sk T n (sk T n a2_165)))) 5 (iv dp))), (hT, ar 160 T), (hR, ar 30 (rowW Rr p1 r_166))]) rfl ?_
              refine S_aload_n X dX12_readTown_185 rfl hL37_0 ?_
              refine S_get (v := iv (sk T n (sk T n a2_165))) X fgX12_118_11 0 rfl rfl dX12_readTown_186 ?_
              exact S_iret X (nle rfl) (nle rfl) dX12_readTown_189 (hPo _ _ (Or.inl ⟨_, _, _, _, _, rfl, rfl, tnRes_f (hk9.symm.trans (ends_x hen_224 (by omega) (by omega))), by omega⟩))
            ·
              have hcl_247 := ends_l hen_224 (by omega)
              have hok_247 := (pCl_in hn1 (by omega) (by omega) hs).2 _ hcl_247
              dsimp only at hok_247
              refine S_aload_n X dX12_readTown_174 rfl hL37_0 ?_
              refine S_calli X (kX12_areTold l h0 (uF f 19 (iv m1)) (sk T n (sk T n a2_165)) dp tx (p1 + 1) hR (rowW Rr p1 r_166) (-1) hf2 (by omega) (flat_in (flat_put hfl) hok_247.2.2)) (is := [0, 2]) rfl (run_V X lkX12_243 0 rfl rfl (is := [0, 2]) (avs := []) (rest := []) rfl rfl (nle rfl) ⟨nle rfl, nle rfl⟩ ⟨nle rfl, nle rfl⟩ dX12_readTown_175 (by decide) rfl) (fun z_250 u_248 hp_249 => ?_)
              rcases hp_249 with ⟨hz_251, hu_252, hq_253⟩ | ⟨hz_254, hu_255, hq_256⟩
              ·
                subst hz_251
                subst hu_252
                refine ⟨rfl, ?_⟩
                refine S_w (ws' := [(h0, ob 11 (uF (uF (uF (uF (uF (uF f 19 (iv m1)) 18 (iv (p1 + 1))) 14 (iv tx)) 3 (iv (sk T n (sk T n a2_165)))) 4 (iv (-1))) 5 (iv dp))), (hT, ar 160 T), (hR, ar 30 (rowW Rr p1 r_166))]) rfl ?_
                refine S_if_ne (tgt := 185) X dX12_readTown_178 (by decide) (by decide) (fun h9 => absurd h9 (by decide)) (fun _ => ?_)
                refine S_aload_n X dX12_readTown_181 rfl hL37_0 ?_
                refine S_callv X (kX12_bad l h0 (uF (uF (uF f 19 (iv m1)) 18 (iv (p1 + 1))) 14 (iv tx)) (sk T n (sk T n a2_165)) (-1) dp (by omega)) (is := [0]) rfl (run_V X lkX12_127 0 rfl rfl (is := [0]) (avs := []) (rest := []) rfl rfl (nle rfl) ⟨nle rfl, nle rfl⟩ ⟨nle rfl, nle rfl⟩ dX12_readTown_182 (by decide) rfl) (fun u_258 hp_259 => ?_)
                have hu_262 := hp_259
                subst hu_262
                refine ⟨rfl, ?_⟩
                refine S_w (ws' := [(h0, ob 11 (uF (uF (uF (uF (uF (uF f 19 (iv m1)) 18 (iv (p1 + 1))) 14 (iv tx)) 3 (iv (sk T n (sk T n a2_165)))) 4 (iv (sk T n (sk T n a2_165)))) 5 (iv dp))), (hT, ar 160 T), (hR, ar 30 (rowW Rr p1 r_166))]) rfl ?_
                refine S_aload_n X dX12_readTown_185 rfl hL37_0 ?_
                refine S_get (v := iv (sk T n (sk T n a2_165))) X fgX12_118_11 0 rfl rfl dX12_readTown_186 ?_
                exact S_iret X (nle rfl) (nle rfl) dX12_readTown_189 (hPo _ _ (Or.inl ⟨_, _, _, _, _, rfl, rfl, by rw [show (sk T n (sk T n a2_165)) = n by omega]; exact tnRes_n (hk9.symm.trans (ends_0 hen_224 (by omega))) (fun q9 => hq_253 ((flat_ok (flat_put hfl)).2 q9)), by omega⟩))
              ·
                subst hz_254
                subst hu_255
                refine ⟨rfl, ?_⟩
                refine S_w (ws' := [(h0, ob 11 (uF (uF (uF (uF (uF (uF f 19 (iv m1)) 18 (iv (p1 + 1))) 14 (iv tx)) 3 (iv (sk T n (sk T n a2_165)))) 4 (iv (-1))) 5 (iv dp))), (hT, ar 160 T), (hR, ar 30 (rowW Rr p1 r_166))]) rfl ?_
                refine S_if_ne (tgt := 185) X dX12_readTown_178 (by decide) (by decide) (fun _ => ?_) (fun h9 => absurd h9 (by decide))
                refine S_aload_n X dX12_readTown_185 rfl hL37_0 ?_
                refine S_get (v := iv (-1)) X fgX12_118_11 0 rfl rfl dX12_readTown_186 ?_
                exact S_iret X (nle rfl) (nle rfl) dX12_readTown_189 (hPo _ _ (Or.inr ⟨_, _, _, _, _, _, rfl, rfl, tnRes_y (hk9.symm.trans (ends_0 hen_224 (by omega))) ((flat_ok (flat_put hfl)).1 hq_256), flat_put hfl, hok_247.2.2⟩))
          ·
            have hcl_264 := ends_l hen_224 (by omega)
            have hok_264 := (pCl_in hn1 (by omega) (by omega) hs).2 _ hcl_264
            dsimp only at hok_264
            refine S_iconst X dX12_readTown_131 ?_
            refine S_goto (tgt := 136) X dX12_readTown_132 (by decide) ?_
            refine S_istore_n X dX12_readTown_136 rfl (nle rfl) ?_
            refine S_aload_n X dX12_readTown_137 rfl hL37_0 ?_
            refine S_dup X dX12_readTown_138 ?_
            refine S_get (v := iv (sk T n (sk T n a2_165))) X fgX12_111_11 0 rfl rfl dX12_readTown_139 ?_
            refine S_iload_n X dX12_readTown_142 rfl rfl ?_
            refine S_if_eq (tgt := 150) X dX12_readTown_143 (by decide) (by decide) (fun h9 => absurd h9 (by decide)) (fun _ => ?_)
            refine S_iconst X dX12_readTown_146 ?_
            refine S_goto (tgt := 151) X dX12_readTown_147 (by decide) ?_
            refine S_iadd X dX12_readTown_151 ?_
            refine S_put X fpX12_111_11 0 rfl FT_i dX12_readTown_152 ?_
            refine S_w (ws' := [(h0, ob 11 (uF (uF (uF (uF (uF (uF f 19 (iv m1)) 18 (iv (p1 + 1))) 14 (iv tx)) 3 (iv ((sk T n (sk T n a2_165)) + 1))) 4 (iv (-1))) 5 (iv dp))), (hT, ar 160 T), (hR, ar 30 (rowW Rr p1 r_166))]) (by simp only [List.set]; rw [uF_mv (j := 5) (k := 3) (by decide), uF_mv (j := 4) (k := 3) (by decide), uF_same (k := 3)]) ?_
            refine S_goto (tgt := 25) X dX12_readTown_155 (by decide) ?_
            refine S_iload_n X dX12_readTown_25 rfl rfl ?_
            refine S_if_eq (tgt := 158) X dX12_readTown_26 (by decide) (by decide) (fun h9 => absurd h9 (by decide)) (fun _ => ?_)
            refine S_aload_n X dX12_readTown_29 rfl hL37_0 ?_
            refine S_get (v := iv (-1)) X fgX12_118_11 0 rfl rfl dX12_readTown_30 ?_
            refine S_iconst X dX12_readTown_33 ?_
            refine S_icmp_ne (tgt := 158) X dX12_readTown_34 (by decide) (by decide) (by decide) (fun h9 => absurd h9 (by decide)) (fun _ => ?_)
            exact ih37 ((sk T n (sk T n a2_165)) + 1) x1 m1 (p1 + 1) (rowW Rr p1 r_166) (uZ Rc p1 r_166) _ (by omega) (hok_264.2.2) (flat_put hfl) (⟨g9, by omega, (ends_59 hen_224 (by omega)).symm.trans hk9⟩) hL37_0 hL37_1 rfl (by omega)
  exact lp37_0 (Int.toNat (161 - 0) + 1) 0 0 60 0 R1 R0 _ (by omega) (⟨by dsimp only; omega, by dsimp only; omega, Or.inl rfl, fun j j0 j1 => absurd j1 (by dsimp only; omega)⟩) (flat_0) (⟨161, by omega, rfl⟩) rfl rfl rfl (by omega)
