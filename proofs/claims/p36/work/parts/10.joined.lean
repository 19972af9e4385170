/- 30.ref10.lean.txt -/
section pt_30ref10
set_option maxHeartbeats 4000000 in
set_option maxRecDepth 100000 in
theorem kX12_readTown (l : Launch) (h0 : Nat) (hT : Nat) (f : Nat → AV) (T : Int → Int) (n : Int) (a : Int) (w : Int) (dp : Int) (tx : Int) (m0 : Int) (p0 : Int) (hR : Nat) (R1 : Int → Int) (R0 : Int → Int → Int) (hf0 : f 1 = rv hT) (hf1 : f 2 = iv n) (hf2 : f 17 = rv hR) (okT : okT T n) : AMi l yX12_readTown cX12_readTown 4 .int 4 0 0 [rv h0] [(h0, ob 11 (uF (uF (uF (uF (uF (uF f 19 (iv m0)) 18 (iv p0)) 14 (iv tx)) 3 (iv a)) 4 (iv w)) 5 (iv dp))), (hT, ar 160 T), (hR, ar 30 R1)] (fun z u => (∃ a2 : Int, ∃ fl : Int, ∃ p2 : Int, ∃ m2 : Int, ∃ R2 : Int → Int, z = fl ∧ u = [(h0, ob 11 (uF (uF (uF (uF (uF (uF f 19 (iv m2)) 18 (iv p2)) 14 (iv tx)) 3 (iv a2)) 4 (iv fl)) 5 (iv dp))), (hT, ar 160 T), (hR, ar 30 R2)] ∧ tnRes T n R0 = .inl fl ∧ (0 ≤ fl ∧ fl ≤ n)) ∨ (∃ a2 : Int, ∃ p2 : Int, ∃ m2 : Int, ∃ x2 : Int, ∃ R2 : Int → Int, ∃ Rc : Int → Int → Int, z = -1 ∧ u = [(h0, ob 11 (uF (uF (uF (uF (uF (uF f 19 (iv m2)) 18 (iv p2)) 14 (iv tx)) 3 (iv a2)) 4 (iv (-1))) 5 (iv dp))), (hT, ar 160 T), (hR, ar 30 R2)] ∧ tnRes T n R0 = .inr (p2, m2, x2, Rc) ∧ flat p2 R2 Rc ∧ okTS (p2, m2, x2, Rc))) := by
  refine AMi.of2 rfl (nle rfl) ?_
  intro D G A p e s m args below meth c Po hPo X
  obtain ⟨hn0, hn1, hT2⟩ := id okT
  refine S_aload_n X dX12_readTown_0 rfl rfl ?_
  refine S_iconst X dX12_readTown_1 ?_
  refine S_put X fpX12_111_11 0 rfl FT_i dX12_readTown_2 ?_
  refine S_w (ws' := [(h0, ob 11 (uF (uF (uF (uF (uF (uF f 19 (iv m0)) 18 (iv p0)) 14 (iv tx)) 3 (iv 0)) 4 (iv w)) 5 (iv dp))), (hT, ar 160 T), (hR, ar 30 R1)]) (by simp only [List.set]; rw [uF_mv (j := 5) (k := 3) (by decide), uF_mv (j := 4) (k := 3) (by decide), uF_same (k := 3)]) ?_
  refine S_aload_n X dX12_readTown_5 rfl rfl ?_
  refine S_iconst X dX12_readTown_6 ?_
  refine S_put X fpX12_118_11 0 rfl FT_i dX12_readTown_7 ?_
  refine S_w (ws' := [(h0, ob 11 (uF (uF (uF (uF (uF (uF f 19 (iv m0)) 18 (iv p0)) 14 (iv tx)) 3 (iv 0)) 4 (iv (-1))) 5 (iv dp))), (hT, ar 160 T), (hR, ar 30 R1)]) (by simp only [List.set]; rw [uF_mv (j := 5) (k := 4) (by decide), uF_same (k := 4)]) ?_
  refine S_aload_n X dX12_readTown_10 rfl rfl ?_
  refine S_iconst X dX12_readTown_11 ?_
  refine S_put X fpX12_220_11 0 rfl FT_i dX12_readTown_12 ?_
  refine S_w (ws' := [(h0, ob 11 (uF (uF (uF (uF (uF (uF f 19 (iv m0)) 18 (iv 0)) 14 (iv tx)) 3 (iv 0)) 4 (iv (-1))) 5 (iv dp))), (hT, ar 160 T), (hR, ar 30 R1)]) (by simp only [List.set]; rw [uF_mv (j := 5) (k := 18) (by decide), uF_mv (j := 4) (k := 18) (by decide), uF_mv (j := 3) (k := 18) (by decide), uF_mv (j := 14) (k := 18) (by decide), uF_same (k := 18)]) ?_
  refine S_aload_n X dX12_readTown_15 rfl rfl ?_
  refine S_bipush X dX12_readTown_16 rfl ?_
  refine S_put X fpX12_237_11 0 rfl FT_i dX12_readTown_18 ?_
  refine S_w (ws' := [(h0, ob 11 (uF (uF (uF (uF (uF (uF f 19 (iv 60)) 18 (iv 0)) 14 (iv tx)) 3 (iv 0)) 4 (iv (-1))) 5 (iv dp))), (hT, ar 160 T), (hR, ar 30 R1)]) (by simp only [List.set]; rw [uF_mv (j := 5) (k := 19) (by decide), uF_mv (j := 4) (k := 19) (by decide), uF_mv (j := 3) (k := 19) (by decide), uF_mv (j := 14) (k := 19) (by decide), uF_mv (j := 18) (k := 19) (by decide), uF_same (k := 19)]) ?_
  refine S_iconst X dX12_readTown_21 ?_
  refine S_istore_n X dX12_readTown_22 rfl (nle rfl) ?_
  refine S_iconst X dX12_readTown_23 ?_
  refine S_istore_n X dX12_readTown_24 rfl (nle rfl) ?_
  refine S_iload_n X dX12_readTown_25 rfl rfl ?_
  refine S_if_eq (tgt := 158) X dX12_readTown_26 (by decide) (by decide) (fun h9 => absurd h9 (by decide)) (fun _ => ?_)
  refine S_aload_n X dX12_readTown_29 rfl rfl ?_
  refine S_get (v := iv (-1)) X fgX12_118_11 0 rfl rfl dX12_readTown_30 ?_
  refine S_iconst X dX12_readTown_33 ?_
  refine S_icmp_ne (tgt := 158) X dX12_readTown_34 (by decide) (by decide) (by decide) (fun h9 => absurd h9 (by decide)) (fun _ => ?_)
  have lp37_0 : ∀ (N : Nat) (a1 : Int) (x1 : Int) (m1 : Int) (p1 : Int) (Rr : Int → Int) (Rc : Int → Int → Int) (L : Nat → Option AV), 0 ≤ a1 ∧ a1 ≤ n → okTS (p1, m1, x1, Rc) → flat p1 Rr Rc → (∃ f : Nat, 161 - a1 ≤ f ∧ pTnL T n f a1 (p1, m1, x1, Rc) = pTnL T n 161 0 (0, 60, 0, R0)) → L 0 = some (rv h0) → L 1 = some (iv x1) → L 2 = some (iv 1) → 161 - a1 < (N : Int) → S_ p l e (rmD 4 0 0) s m args below meth c (MQ below (QcI D G A Po) args s 0 0 A) D G A 4 0 0 37 L [] [(h0, ob 11 (uF (uF (uF (uF (uF (uF f 19 (iv m1)) 18 (iv p1)) 14 (iv tx)) 3 (iv a1)) 4 (iv (-1))) 5 (iv dp))), (hT, ar 160 T), (hR, ar 30 Rr)] := by
    intro N
    induction N with
    | zero =>
      intro a1 x1 m1 p1 Rr Rc L37 hi hs hfl hkl hL37_0 hL37_1 hL37_2 hN37
      exfalso; omega
    | succ N ih37 =>
      intro a1 x1 m1 p1 Rr Rc L37 hi hs hfl hkl hL37_0 hL37_1 hL37_2 hN37
      obtain ⟨f9, hf9, hk9⟩ := hkl
      obtain ⟨g9, rfl⟩ : ∃ g, f9 = g + 1 := ⟨f9 - 1, by omega⟩
      have hsk1 := sk_in (T := T) (n := n) (a := a1) (by omega)
      have hcm1 := chM_or okT (a := sk T n a1) (by omega) (by omega)
      obtain ⟨hs1, hs2, hs3, hs4⟩ := id hs
      dsimp only at hs1 hs2 hs3
      refine S_aload_n X dX12_readTown_37 rfl hL37_0 ?_
      refine S_calli X (kX12_look l h0 hT (uF (uF (uF f 19 (iv m1)) 18 (iv p1)) 14 (iv tx)) T n a1 (-1) dp hf0 hf1 (by omega) (by omega)) (is := [0, 1]) rfl (run_V X lkX12_130 0 rfl rfl (is := [0, 1]) (avs := []) (rest := []) rfl rfl (nle rfl) ⟨nle rfl, nle rfl⟩ ⟨nle rfl, nle rfl⟩ dX12_readTown_38 (by decide) rfl) (fun z_5 u_3 hp_4 => ?_)
      obtain ⟨hz_6, hu_7⟩ := hp_4
      subst hz_6
      subst hu_7
      refine ⟨rfl, ?_⟩
      refine S_w (ws' := [(h0, ob 11 (uF (uF (uF (uF (uF (uF f 19 (iv m1)) 18 (iv p1)) 14 (iv tx)) 3 (iv (sk T n a1))) 4 (iv (-1))) 5 (iv dp))), (hT, ar 160 T), (hR, ar 30 Rr)]) rfl ?_
      refine S_istore_n X dX12_readTown_41 rfl (nle rfl) ?_
      refine S_iload_n X dX12_readTown_42 rfl rfl ?_
      refine S_bipush X dX12_readTown_43 rfl ?_
      refine S_icmp_ne (tgt := 55) X dX12_readTown_45 (by decide) (by omega) (by decide) (fun c_8 => ?_) (fun c_8 => ?_)
      ·
        refine S_iload_n X dX12_readTown_55 rfl rfl ?_
        refine S_bipush X dX12_readTown_56 rfl ?_
        refine S_icmp_ne (tgt := 110) X dX12_readTown_58 (by decide) (by omega) (by decide) (fun c_9 => ?_) (fun c_9 => ?_)
        ·
          refine S_aload_n X dX12_readTown_110 rfl hL37_0 ?_
          refine S_callv X (kX12_bad l h0 (uF (uF (uF f 19 (iv m1)) 18 (iv p1)) 14 (iv tx)) (sk T n a1) (-1) dp (by omega)) (is := [0]) rfl (run_V X lkX12_127 0 rfl rfl (is := [0]) (avs := []) (rest := []) rfl rfl (nle rfl) ⟨nle rfl, nle rfl⟩ ⟨nle rfl, nle rfl⟩ dX12_readTown_111 (by decide) rfl) (fun u_10 hp_11 => ?_)
          have hu_14 := hp_11
          subst hu_14
          refine ⟨rfl, ?_⟩
          refine S_w (ws' := [(h0, ob 11 (uF (uF (uF (uF (uF (uF f 19 (iv m1)) 18 (iv p1)) 14 (iv tx)) 3 (iv (sk T n a1))) 4 (iv (sk T n a1))) 5 (iv dp))), (hT, ar 160 T), (hR, ar 30 Rr)]) rfl ?_
          refine S_aload_n X dX12_readTown_114 rfl hL37_0 ?_
          refine S_get (v := iv (sk T n a1)) X fgX12_118_11 0 rfl rfl dX12_readTown_115 ?_
          refine S_iconst X dX12_readTown_118 ?_
          refine S_icmp_ne (tgt := 135) X dX12_readTown_119 (by decide) (by omega) (by decide) (fun c_15 => ?_) (fun c_15 => by exfalso; omega)
          refine S_iconst X dX12_readTown_135 ?_
          refine S_istore_n X dX12_readTown_136 rfl (nle rfl) ?_
          refine S_aload_n X dX12_readTown_137 rfl hL37_0 ?_
          refine S_dup X dX12_readTown_138 ?_
          refine S_get (v := iv (sk T n a1)) X fgX12_111_11 0 rfl rfl dX12_readTown_139 ?_
          refine S_iload_n X dX12_readTown_142 rfl rfl ?_
          refine S_if_eq (tgt := 150) X dX12_readTown_143 (by decide) (by decide) (fun _ => ?_) (fun h9 => absurd h9 (by decide))
          refine S_iconst X dX12_readTown_150 ?_
          refine S_iadd X dX12_readTown_151 ?_
          refine S_put X fpX12_111_11 0 rfl FT_i dX12_readTown_152 ?_
          refine S_w (ws' := [(h0, ob 11 (uF (uF (uF (uF (uF (uF f 19 (iv m1)) 18 (iv p1)) 14 (iv tx)) 3 (iv ((sk T n a1) + 0))) 4 (iv (sk T n a1))) 5 (iv dp))), (hT, ar 160 T), (hR, ar 30 Rr)]) (by simp only [List.set]; rw [uF_mv (j := 5) (k := 3) (by decide), uF_mv (j := 4) (k := 3) (by decide), uF_same (k := 3)]) ?_
          refine S_w (ws' := [(h0, ob 11 (uF (uF (uF (uF (uF (uF f 19 (iv m1)) 18 (iv p1)) 14 (iv tx)) 3 (iv (sk T n a1))) 4 (iv (sk T n a1))) 5 (iv dp))), (hT, ar 160 T), (hR, ar 30 Rr)]) (by rw [Int.add_zero]) ?_
          refine S_goto (tgt := 25) X dX12_readTown_155 (by decide) ?_
          refine S_iload_n X dX12_readTown_25 rfl rfl ?_
          refine S_if_eq (tgt := 158) X dX12_readTown_26 (by decide) (by decide) (fun _ => ?_) (fun h9 => absurd h9 (by decide))
          refine S_aload_n X dX12_readTown_158 rfl hL37_0 ?_
          refine S_get (v := iv (sk T n a1)) X fgX12_118_11 0 rfl rfl dX12_readTown_159 ?_
          refine S_iconst X dX12_readTown_162 ?_
          refine S_icmp_ne (tgt := 185) X dX12_readTown_163 (by decide) (by omega) (by decide) (fun c_18 => ?_) (fun c_18 => by exfalso; omega)
          refine S_aload_n X dX12_readTown_185 rfl hL37_0 ?_
          refine S_get (v := iv (sk T n a1)) X fgX12_118_11 0 rfl rfl dX12_readTown_186 ?_
          exact S_iret X (nle rfl) (nle rfl) dX12_readTown_189 (hPo _ _ (Or.inl ⟨_, _, _, _, _, rfl, rfl, tnRes_f (hk9.symm.trans (pTnL_f (pCl_no (by dsimp only; omega) (by dsimp only; omega)))), by omega⟩))
        ·
          refine S_iload_n X dX12_readTown_61 rfl hL37_1 ?_
          refine S_if_ne (tgt := 110) X dX12_readTown_62 (by decide) (by omega) (fun c_19 => ?_) (fun c_19 => ?_)
          ·
            refine S_aload_n X dX12_readTown_110 rfl hL37_0 ?_
            refine S_callv X (kX12_bad l h0 (uF (uF (uF f 19 (iv m1)) 18 (iv p1)) 14 (iv tx)) (sk T n a1) (-1) dp (by omega)) (is := [0]) rfl (run_V X lkX12_127 0 rfl rfl (is := [0]) (avs := []) (rest := []) rfl rfl (nle rfl) ⟨nle rfl, nle rfl⟩ ⟨nle rfl, nle rfl⟩ dX12_readTown_111 (by decide) rfl) (fun u_20 hp_21 => ?_)
            have hu_24 := hp_21
            subst hu_24
            refine ⟨rfl, ?_⟩
            refine S_w (ws' := [(h0, ob 11 (uF (uF (uF (uF (uF (uF f 19 (iv m1)) 18 (iv p1)) 14 (iv tx)) 3 (iv (sk T n a1))) 4 (iv (sk T n a1))) 5 (iv dp))), (hT, ar 160 T), (hR, ar 30 Rr)]) rfl ?_
            refine S_aload_n X dX12_readTown_114 rfl hL37_0 ?_
            refine S_get (v := iv (sk T n a1)) X fgX12_118_11 0 rfl rfl dX12_readTown_115 ?_
            refine S_iconst X dX12_readTown_118 ?_
            refine S_icmp_ne (tgt := 135) X dX12_readTown_119 (by decide) (by omega) (by decide) (fun c_25 => ?_) (fun c_25 => by exfalso; omega)
            refine S_iconst X dX12_readTown_135 ?_
            refine S_istore_n X dX12_readTown_136 rfl (nle rfl) ?_
            refine S_aload_n X dX12_readTown_137 rfl hL37_0 ?_
            refine S_dup X dX12_readTown_138 ?_
            refine S_get (v := iv (sk T n a1)) X fgX12_111_11 0 rfl rfl dX12_readTown_139 ?_
            refine S_iload_n X dX12_readTown_142 rfl rfl ?_
            refine S_if_eq (tgt := 150) X dX12_readTown_143 (by decide) (by decide) (fun _ => ?_) (fun h9 => absurd h9 (by decide))
            refine S_iconst X dX12_readTown_150 ?_
            refine S_iadd X dX12_readTown_151 ?_
            refine S_put X fpX12_111_11 0 rfl FT_i dX12_readTown_152 ?_
            refine S_w (ws' := [(h0, ob 11 (uF (uF (uF (uF (uF (uF f 19 (iv m1)) 18 (iv p1)) 14 (iv tx)) 3 (iv ((sk T n a1) + 0))) 4 (iv (sk T n a1))) 5 (iv dp))), (hT, ar 160 T), (hR, ar 30 Rr)]) (by simp only [List.set]; rw [uF_mv (j := 5) (k := 3) (by decide), uF_mv (j := 4) (k := 3) (by decide), uF_same (k := 3)]) ?_
            refine S_w (ws' := [(h0, ob 11 (uF (uF (uF (uF (uF (uF f 19 (iv m1)) 18 (iv p1)) 14 (iv tx)) 3 (iv (sk T n a1))) 4 (iv (sk T n a1))) 5 (iv dp))), (hT, ar 160 T), (hR, ar 30 Rr)]) (by rw [Int.add_zero]) ?_
            refine S_goto (tgt := 25) X dX12_readTown_155 (by decide) ?_
            refine S_iload_n X dX12_readTown_25 rfl rfl ?_
            refine S_if_eq (tgt := 158) X dX12_readTown_26 (by decide) (by decide) (fun _ => ?_) (fun h9 => absurd h9 (by decide))
            refine S_aload_n X dX12_readTown_158 rfl hL37_0 ?_
            refine S_get (v := iv (sk T n a1)) X fgX12_118_11 0 rfl rfl dX12_readTown_159 ?_
            refine S_iconst X dX12_readTown_162 ?_
            refine S_icmp_ne (tgt := 185) X dX12_readTown_163 (by decide) (by omega) (by decide) (fun c_28 => ?_) (fun c_28 => by exfalso; omega)
            refine S_aload_n X dX12_readTown_185 rfl hL37_0 ?_
            refine S_get (v := iv (sk T n a1)) X fgX12_118_11 0 rfl rfl dX12_readTown_186 ?_
            exact S_iret X (nle rfl) (nle rfl) dX12_readTown_189 (hPo _ _ (Or.inl ⟨_, _, _, _, _, rfl, rfl, tnRes_f (hk9.symm.trans (pTnL_f (pCl_no (by dsimp only; omega) (by dsimp only; omega)))), by omega⟩))
          ·
            refine S_iconst X dX12_readTown_65 ?_
            refine S_istore_n X dX12_readTown_66 rfl (nle rfl) ?_
            refine S_aload_n X dX12_readTown_67 rfl hL37_0 ?_
            refine S_dup X dX12_readTown_68 ?_
            refine S_get (v := iv (sk T n a1)) X fgX12_111_11 0 rfl rfl dX12_readTown_69 ?_
            refine S_iconst X dX12_readTown_72 ?_
            refine S_iadd X dX12_readTown_73 ?_
            refine S_put X fpX12_111_11 0 rfl FT_i dX12_readTown_74 ?_
            refine S_w (ws' := [(h0, ob 11 (uF (uF (uF (uF (uF (uF f 19 (iv m1)) 18 (iv p1)) 14 (iv tx)) 3 (iv ((sk T n a1) + 1))) 4 (iv (-1))) 5 (iv dp))), (hT, ar 160 T), (hR, ar 30 Rr)]) (by simp only [List.set]; rw [uF_mv (j := 5) (k := 3) (by decide), uF_mv (j := 4) (k := 3) (by decide), uF_same (k := 3)]) ?_
            refine S_aload_n X dX12_readTown_77 rfl hL37_0 ?_
            refine S_calli X (kX12_look l h0 hT (uF (uF (uF f 19 (iv m1)) 18 (iv p1)) 14 (iv tx)) T n ((sk T n a1) + 1) (-1) dp hf0 hf1 (by omega) (by omega)) (is := [0, 1]) rfl (run_V X lkX12_130 0 rfl rfl (is := [0, 1]) (avs := []) (rest := []) rfl rfl (nle rfl) ⟨nle rfl, nle rfl⟩ ⟨nle rfl, nle rfl⟩ dX12_readTown_78 (by decide) rfl) (fun z_31 u_29 hp_30 => ?_)
            obtain ⟨hz_32, hu_33⟩ := hp_30
            subst hz_32
            subst hu_33
            refine ⟨rfl, ?_⟩
            refine S_w (ws' := [(h0, ob 11 (uF (uF (uF (uF (uF (uF f 19 (iv m1)) 18 (iv p1)) 14 (iv tx)) 3 (iv (sk T n ((sk T n a1) + 1)))) 4 (iv (-1))) 5 (iv dp))), (hT, ar 160 T), (hR, ar 30 Rr)]) rfl ?_
            have hsk_m := sk_in (T := T) (n := n) (a := (sk T n a1 + 1)) (by omega)
            have hcm_m := chM_or okT (a := sk T n (sk T n a1 + 1)) (by omega) (by omega)
            refine S_bipush X dX12_readTown_81 rfl ?_
            refine S_icmp_ne (tgt := 114) X dX12_readTown_83 (by decide) (by omega) (by decide) (fun c_34 => ?_) (fun c_34 => ?_)
            ·
              have hi0 : ¬ itemOf (ch T n (sk T n (sk T n a1 + 1))) = 0 := by unfold itemOf; (repeat' split) <;> omega
              have hen_35 : ends T n a1 (p1, m1, x1, Rc) (sk T n (sk T n a1 + 1)) (p1, m1, 1, Rc) := ends_mo ⟨by omega, by omega⟩ hi0
              refine S_aload_n X dX12_readTown_114 rfl hL37_0 ?_
              refine S_get (v := iv (-1)) X fgX12_118_11 0 rfl rfl dX12_readTown_115 ?_
              refine S_iconst X dX12_readTown_118 ?_
              refine S_icmp_ne (tgt := 135) X dX12_readTown_119 (by decide) (by decide) (by decide) (fun h9 => absurd h9 (by decide)) (fun _ => ?_)
              refine S_aload_n X dX12_readTown_122 rfl hL37_0 ?_
              refine S_calli X (kX12_look l h0 hT (uF (uF (uF f 19 (iv m1)) 18 (iv p1)) 14 (iv tx)) T n (sk T n ((sk T n a1) + 1)) (-1) dp hf0 hf1 (by omega) (by omega)) (is := [0, 1]) rfl (run_V X lkX12_130 0 rfl rfl (is := [0, 1]) (avs := []) (rest := []) rfl rfl (nle rfl) ⟨nle rfl, nle rfl⟩ ⟨nle rfl, nle rfl⟩ dX12_readTown_123 (by decide) rfl) (fun z_39 u_37 hp_38 => ?_)
              obtain ⟨hz_40, hu_41⟩ := hp_38
              subst hz_40
              subst hu_41
              refine ⟨rfl, ?_⟩
              refine S_w (ws' := [(h0, ob 11 (uF (uF (uF (uF (uF (uF f 19 (iv m1)) 18 (iv p1)) 14 (iv tx)) 3 (iv (sk T n (sk T n ((sk T n a1) + 1))))) 4 (iv (-1))) 5 (iv dp))), (hT, ar 160 T), (hR, ar 30 Rr)]) rfl ?_
              have hsk_42 := sk_in (T := T) (n := n) (a := (sk T n (sk T n a1 + 1))) (by omega)
              have hcm_42 := chM_or okT (a := sk T n (sk T n (sk T n a1 + 1))) (by omega) (by omega)
              refine S_bipush X dX12_readTown_126 rfl ?_
              refine S_icmp_ne (tgt := 135) X dX12_readTown_128 (by decide) (by omega) (by decide) (fun c_43 => ?_) (fun c_43 => ?_)
              ·
                refine S_iconst X dX12_readTown_135 ?_
                refine S_istore_n X dX12_readTown_136 rfl (nle rfl) ?_
                refine S_aload_n X dX12_readTown_137 rfl hL37_0 ?_
                refine S_dup X dX12_readTown_138 ?_
                refine S_get (v := iv (sk T n (sk T n ((sk T n a1) + 1)))) X fgX12_111_11 0 rfl rfl dX12_readTown_139 ?_
                refine S_iload_n X dX12_readTown_142 rfl rfl ?_
                refine S_if_eq (tgt := 150) X dX12_readTown_143 (by decide) (by decide) (fun _ => ?_) (fun h9 => absurd h9 (by decide))
                refine S_iconst X dX12_readTown_150 ?_
                refine S_iadd X dX12_readTown_151 ?_
                refine S_put X fpX12_111_11 0 rfl FT_i dX12_readTown_152 ?_
                refine S_w (ws' := [(h0, ob 11 (uF (uF (uF (uF (uF (uF f 19 (iv m1)) 18 (iv p1)) 14 (iv tx)) 3 (iv ((sk T n (sk T n ((sk T n a1) + 1))) + 0))) 4 (iv (-1))) 5 (iv dp))), (hT, ar 160 T), (hR, ar 30 Rr)]) (by simp only [List.set]; rw [uF_mv (j := 5) (k := 3) (by decide), uF_mv (j := 4) (k := 3) (by decide), uF_same (k := 3)]) ?_
                refine S_w (ws' := [(h0, ob 11 (uF (uF (uF (uF (uF (uF f 19 (iv m1)) 18 (iv p1)) 14 (iv tx)) 3 (iv (sk T n (sk T n ((sk T n a1) + 1))))) 4 (iv (-1))) 5 (iv dp))), (hT, ar 160 T), (hR, ar 30 Rr)]) (by rw [Int.add_zero]) ?_
                refine S_goto (tgt := 25) X dX12_readTown_155 (by decide) ?_
                refine S_iload_n X dX12_readTown_25 rfl rfl ?_
                refine S_if_eq (tgt := 158) X dX12_readTown_26 (by decide) (by decide) (fun _ => ?_) (fun h9 => absurd h9 (by decide))
                refine S_aload_n X dX12_readTown_158 rfl hL37_0 ?_
                refine S_get (v := iv (-1)) X fgX12_118_11 0 rfl rfl dX12_readTown_159 ?_
                refine S_iconst X dX12_readTown_162 ?_
                refine S_icmp_ne (tgt := 185) X dX12_readTown_163 (by decide) (by decide) (by decide) (fun h9 => absurd h9 (by decide)) (fun _ => ?_)
                refine S_aload_n X dX12_readTown_166 rfl hL37_0 ?_
                refine S_calli X (kX12_look l h0 hT (uF (uF (uF f 19 (iv m1)) 18 (iv p1)) 14 (iv tx)) T n (sk T n (sk T n ((sk T n a1) + 1))) (-1) dp hf0 hf1 (by omega) (by omega)) (is := [0, 1]) rfl (run_V X lkX12_130 0 rfl rfl (is := [0, 1]) (avs := []) (rest := []) rfl rfl (nle rfl) ⟨nle rfl, nle rfl⟩ ⟨nle rfl, nle rfl⟩ dX12_readTown_167 (by decide) rfl) (fun z_49 u_47 hp_48 => ?_)
                obtain ⟨hz_50, hu_51⟩ := hp_48
                subst hz_50
                subst hu_51
                refine ⟨rfl, ?_⟩
                refine S_w (ws' := [(h0, ob 11 (uF (uF (uF (uF (uF (uF f 19 (iv m1)) 18 (iv p1)) 14 (iv tx)) 3 (iv (sk T n (sk T n (sk T n ((sk T n a1) + 1)))))) 4 (iv (-1))) 5 (iv dp))), (hT, ar 160 T), (hR, ar 30 Rr)]) rfl ?_
                rw [sk_idem (a := (sk T n (sk T n a1 + 1)))]
                refine S_iconst X dX12_readTown_170 ?_
                refine S_icmp_ne (tgt := 181) X dX12_readTown_171 (by decide) (by omega) (by decide) (fun c_52 => ?_) (fun c_52 => ?_)
                ·
                  refine S_aload_n X dX12_readTown_181 rfl hL37_0 ?_
                  refine S_callv X (kX12_bad l h0 (uF (uF (uF f 19 (iv m1)) 18 (iv p1)) 14 (iv tx)) (sk T n (sk T n ((sk T n a1) + 1))) (-1) dp (by omega)) (is := [0]) rfl (run_V X lkX12_127 0 rfl rfl (is := [0]) (avs := []) (rest := []) rfl rfl (nle rfl) ⟨nle rfl, nle rfl⟩ ⟨nle rfl, nle rfl⟩ dX12_readTown_182 (by decide) rfl) (fun u_53 hp_54 => ?_)
                  have hu_57 := hp_54
                  subst hu_57
                  refine ⟨rfl, ?_⟩
                  refine S_w (ws' := [(h0, ob 11 (uF (uF (uF (uF (uF (uF f 19 (iv m1)) 18 (iv p1)) 14 (iv tx)) 3 (iv (sk T n (sk T n ((sk T n a1) + 1))))) 4 (iv (sk T n (sk T n ((sk T n a1) + 1))))) 5 (iv dp))), (hT, ar 160 T), (hR, ar 30 Rr)]) rfl ?_
                  refine S_aload_n X dX12_readTown_185 rfl hL37_0 ?_
                  refine S_get (v := iv (sk T n (sk T n ((sk T n a1) + 1)))) X fgX12_118_11 0 rfl rfl dX12_readTown_186 ?_
                  exact S_iret X (nle rfl) (nle rfl) dX12_readTown_189 (hPo _ _ (Or.inl ⟨_, _, _, _, _, rfl, rfl, tnRes_f (hk9.symm.trans (ends_x hen_35 (by omega) (by omega))), by omega⟩))
                ·
                  have hcl_58 := ends_l hen_35 (by omega)
                  have hok_58 := (pCl_in hn1 (by omega) (by omega) hs).2 _ hcl_58
                  dsimp only at hok_58
                  refine S_aload_n X dX12_readTown_174 rfl hL37_0 ?_
                  refine S_calli X (kX12_areTold l h0 (uF f 19 (iv m1)) (sk T n (sk T n ((sk T n a1) + 1))) dp tx p1 hR Rr (-1) hf2 (by omega) (flat_in (hfl) hok_58.2.2)) (is := [0, 2]) rfl (run_V X lkX12_243 0 rfl rfl (is := [0, 2]) (avs := []) (rest := []) rfl rfl (nle rfl) ⟨nle rfl, nle rfl⟩ ⟨nle rfl, nle rfl⟩ dX12_readTown_175 (by decide) rfl) (fun z_61 u_59 hp_60 => ?_)
                  rcases hp_60 with ⟨hz_62, hu_63, hq_64⟩ | ⟨hz_65, hu_66, hq_67⟩
                  ·
                    subst hz_62
                    subst hu_63
                    refine ⟨rfl, ?_⟩
                    refine S_w (ws' := [(h0, ob 11 (uF (uF (uF (uF (uF (uF f 19 (iv m1)) 18 (iv p1)) 14 (iv tx)) 3 (iv (sk T n (sk T n ((sk T n a1) + 1))))) 4 (iv (-1))) 5 (iv dp))), (hT, ar 160 T), (hR, ar 30 Rr)]) rfl ?_
                    refine S_if_ne (tgt := 185) X dX12_readTown_178 (by decide) (by decide) (fun h9 => absurd h9 (by decide)) (fun _ => ?_)
                    refine S_aload_n X dX12_readTown_181 rfl hL37_0 ?_
                    refine S_callv X (kX12_bad l h0 (uF (uF (uF f 19 (iv m1)) 18 (iv p1)) 14 (iv tx)) (sk T n (sk T n ((sk T n a1) + 1))) (-1) dp (by omega)) (is := [0]) rfl (run_V X lkX12_127 0 rfl rfl (is := [0]) (avs := []) (rest := []) rfl rfl (nle rfl) ⟨nle rfl, nle rfl⟩ ⟨nle rfl, nle rfl⟩ dX12_readTown_182 (by decide) rfl) (fun u_69 hp_70 => ?_)
                    have hu_73 := hp_70
                    subst hu_73
                    refine ⟨rfl, ?_⟩
                    refine S_w (ws' := [(h0, ob 11 (uF (uF (uF (uF (uF (uF f 19 (iv m1)) 18 (iv p1)) 14 (iv tx)) 3 (iv (sk T n (sk T n ((sk T n a1) + 1))))) 4 (iv (sk T n (sk T n ((sk T n a1) + 1))))) 5 (iv dp))), (hT, ar 160 T), (hR, ar 30 Rr)]) rfl ?_
                    refine S_aload_n X dX12_readTown_185 rfl hL37_0 ?_
                    refine S_get (v := iv (sk T n (sk T n ((sk T n a1) + 1)))) X fgX12_118_11 0 rfl rfl dX12_readTown_186 ?_
                    exact S_iret X (nle rfl) (nle rfl) dX12_readTown_189 (hPo _ _ (Or.inl ⟨_, _, _, _, _, rfl, rfl, by rw [show (sk T n (sk T n ((sk T n a1) + 1))) = n by omega]; exact tnRes_n (hk9.symm.trans (ends_0 hen_35 (by omega))) (fun q9 => hq_64 ((flat_ok (hfl)).2 q9)), by omega⟩))
                  ·
                    subst hz_65
                    subst hu_66
                    refine ⟨rfl, ?_⟩
                    refine S_w (ws' := [(h0, ob 11 (uF (uF (uF (uF (uF (uF f 19 (iv m1)) 18 (iv p1)) 14 (iv tx)) 3 (iv (sk T n (sk T n ((sk T n a1) + 1))))) 4 (iv (-1))) 5 (iv dp))), (hT, ar 160 T), (hR, ar 30 Rr)]) rfl ?_
                    refine S_if_ne (tgt := 185) X dX12_readTown_178 (by decide) (by decide) (fun _ => ?_) (fun h9 => absurd h9 (by decide))
                    refine S_aload_n X dX12_readTown_185 rfl hL37_0 ?_
                    refine S_get (v := iv (-1)) X fgX12_118_11 0 rfl rfl dX12_readTown_186 ?_
                    exact S_iret X (nle rfl) (nle rfl) dX12_readTown_189 (hPo _ _ (Or.inr ⟨_, _, _, _, _, _, rfl, rfl, tnRes_y (hk9.symm.trans (ends_0 hen_35 (by omega))) ((flat_ok (hfl)).1 hq_67), hfl, hok_58.2.2⟩))
              ·
                have hcl_75 := ends_l hen_35 (by omega)
                have hok_75 := (pCl_in hn1 (by omega) (by omega) hs).2 _ hcl_75
                dsimp only at hok_75
                refine S_iconst X dX12_readTown_131 ?_
                refine S_goto (tgt := 136) X dX12_readTown_132 (by decide) ?_
                refine S_istore_n X dX12_readTown_136 rfl (nle rfl) ?_
                refine S_aload_n X dX12_readTown_137 rfl hL37_0 ?_
                refine S_dup X dX12_readTown_138 ?_
                refine S_get (v := iv (sk T n (sk T n ((sk T n a1) + 1)))) X fgX12_111_11 0 rfl rfl dX12_readTown_139 ?_
                refine S_iload_n X dX12_readTown_142 rfl rfl ?_
                refine S_if_eq (tgt := 150) X dX12_readTown_143 (by decide) (by decide) (fun h9 => absurd h9 (by decide)) (fun _ => ?_)
                refine S_iconst X dX12_readTown_146 ?_
                refine S_goto (tgt := 151) X dX12_readTown_147 (by decide) ?_
                refine S_iadd X dX12_readTown_151 ?_
                refine S_put X fpX12_111_11 0 rfl FT_i dX12_readTown_152 ?_
                refine S_w (ws' := [(h0, ob 11 (uF (uF (uF (uF (uF (uF f 19 (iv m1)) 18 (iv p1)) 14 (iv tx)) 3 (iv ((sk T n (sk T n ((sk T n a1) + 1))) + 1))) 4 (iv (-1))) 5 (iv dp))), (hT, ar 160 T), (hR, ar 30 Rr)]) (by simp only [List.set]; rw [uF_mv (j := 5) (k := 3) (by decide), uF_mv (j := 4) (k := 3) (by decide), uF_same (k := 3)]) ?_
                refine S_goto (tgt := 25) X dX12_readTown_155 (by decide) ?_
                refine S_iload_n X dX12_readTown_25 rfl rfl ?_
                refine S_if_eq (tgt := 158) X dX12_readTown_26 (by decide) (by decide) (fun h9 => absurd h9 (by decide)) (fun _ => ?_)
                refine S_aload_n X dX12_readTown_29 rfl hL37_0 ?_
                refine S_get (v := iv (-1)) X fgX12_118_11 0 rfl rfl dX12_readTown_30 ?_
                refine S_iconst X dX12_readTown_33 ?_
                refine S_icmp_ne (tgt := 158) X dX12_readTown_34 (by decide) (by decide) (by decide) (fun h9 => absurd h9 (by decide)) (fun _ => ?_)
                exact ih37 ((sk T n (sk T n ((sk T n a1) + 1))) + 1) 1 m1 p1 Rr Rc _ (by omega) (hok_75.2.2) (hfl) (⟨g9, by omega, (ends_59 hen_35 (by omega)).symm.trans hk9⟩) hL37_0 rfl rfl (by omega)
            ·
              have hi0 : itemOf (ch T n (sk T n (sk T n a1 + 1))) = 0 := by rw [show ch T n (sk T n (sk T n a1 + 1)) = 98 by omega]; rfl
              refine S_aload_n X dX12_readTown_86 rfl hL37_0 ?_
              refine S_dup X dX12_readTown_87 ?_
              refine S_get (v := iv (sk T n ((sk T n a1) + 1))) X fgX12_111_11 0 rfl rfl dX12_readTown_88 ?_
              refine S_iconst X dX12_readTown_91 ?_
              refine S_iadd X dX12_readTown_92 ?_
              refine S_put X fpX12_111_11 0 rfl FT_i dX12_readTown_93 ?_
              refine S_w (ws' := [(h0, ob 11 (uF (uF (uF (uF (uF (uF f 19 (iv m1)) 18 (iv p1)) 14 (iv tx)) 3 (iv ((sk T n ((sk T n a1) + 1)) + 1))) 4 (iv (-1))) 5 (iv dp))), (hT, ar 160 T), (hR, ar 30 Rr)]) (by simp only [List.set]; rw [uF_mv (j := 5) (k := 3) (by decide), uF_mv (j := 4) (k := 3) (by decide), uF_same (k := 3)]) ?_
              refine S_aload_n X dX12_readTown_96 rfl hL37_0 ?_
              refine S_aload_n X dX12_readTown_97 rfl hL37_0 ?_
              refine S_iconst X dX12_readTown_98 ?_
              refine S_bipush X dX12_readTown_99 rfl ?_
              refine S_calli X (kX12_number l h0 hT (uF (uF (uF f 19 (iv m1)) 18 (iv p1)) 14 (iv tx)) T n ((sk T n ((sk T n a1) + 1)) + 1) (-1) dp 1 99 hf0 hf1 (by omega) (by omega) (by omega) (by omega)) (is := [0, 1]) rfl (run_V X lkX12_233 0 rfl rfl (is := [0, 1]) (avs := [iv 1, iv 99]) (rest := [rv h0]) rfl rfl (nle rfl) ⟨nle rfl, nle rfl⟩ ⟨nle rfl, nle rfl⟩ dX12_readTown_101 (by decide) rfl) (fun z_81 u_79 hp_80 => ?_)
              rcases hp_80 with ⟨a2_82, fl_83, v_84, hz_85, hu_86, hq_87, hr_88⟩ | ⟨a2_89, v_90, hz_91, hu_92, hq_93⟩
              ·
                subst hz_85
                subst hu_86
                refine ⟨rfl, ?_⟩
                refine S_w (ws' := [(h0, ob 11 (uF (uF (uF (uF (uF (uF f 19 (iv m1)) 18 (iv p1)) 14 (iv tx)) 3 (iv a2_82)) 4 (iv fl_83)) 5 (iv dp))), (hT, ar 160 T), (hR, ar 30 Rr)]) rfl ?_
                refine S_put X fpX12_237_11 0 rfl FT_i dX12_readTown_104 ?_
                refine S_w (ws' := [(h0, ob 11 (uF (uF (uF (uF (uF (uF f 19 (iv z_81)) 18 (iv p1)) 14 (iv tx)) 3 (iv a2_82)) 4 (iv fl_83)) 5 (iv dp))), (hT, ar 160 T), (hR, ar 30 Rr)]) (by simp only [List.set]; rw [uF_mv (j := 5) (k := 19) (by decide), uF_mv (j := 4) (k := 19) (by decide), uF_mv (j := 3) (k := 19) (by decide), uF_mv (j := 14) (k := 19) (by decide), uF_mv (j := 18) (k := 19) (by decide), uF_same (k := 19)]) ?_
                refine S_goto (tgt := 114) X dX12_readTown_107 (by decide) ?_
                refine S_aload_n X dX12_readTown_114 rfl hL37_0 ?_
                refine S_get (v := iv fl_83) X fgX12_118_11 0 rfl rfl dX12_readTown_115 ?_
                refine S_iconst X dX12_readTown_118 ?_
                refine S_icmp_ne (tgt := 135) X dX12_readTown_119 (by decide) (by omega) (by decide) (fun c_94 => ?_) (fun c_94 => by exfalso; omega)
                refine S_iconst X dX12_readTown_135 ?_
                refine S_istore_n X dX12_readTown_136 rfl (nle rfl) ?_
                refine S_aload_n X dX12_readTown_137 rfl hL37_0 ?_
                refine S_dup X dX12_readTown_138 ?_
                refine S_get (v := iv a2_82) X fgX12_111_11 0 rfl rfl dX12_readTown_139 ?_
                refine S_iload_n X dX12_readTown_142 rfl rfl ?_
                refine S_if_eq (tgt := 150) X dX12_readTown_143 (by decide) (by decide) (fun _ => ?_) (fun h9 => absurd h9 (by decide))
                refine S_iconst X dX12_readTown_150 ?_
                refine S_iadd X dX12_readTown_151 ?_
                refine S_put X fpX12_111_11 0 rfl FT_i dX12_readTown_152 ?_
                refine S_w (ws' := [(h0, ob 11 (uF (uF (uF (uF (uF (uF f 19 (iv z_81)) 18 (iv p1)) 14 (iv tx)) 3 (iv (a2_82 + 0))) 4 (iv fl_83)) 5 (iv dp))), (hT, ar 160 T), (hR, ar 30 Rr)]) (by simp only [List.set]; rw [uF_mv (j := 5) (k := 3) (by decide), uF_mv (j := 4) (k := 3) (by decide), uF_same (k := 3)]) ?_
                refine S_w (ws' := [(h0, ob 11 (uF (uF (uF (uF (uF (uF f 19 (iv z_81)) 18 (iv p1)) 14 (iv tx)) 3 (iv a2_82)) 4 (iv fl_83)) 5 (iv dp))), (hT, ar 160 T), (hR, ar 30 Rr)]) (by rw [Int.add_zero]) ?_
                refine S_goto (tgt := 25) X dX12_readTown_155 (by decide) ?_
                refine S_iload_n X dX12_readTown_25 rfl rfl ?_
                refine S_if_eq (tgt := 158) X dX12_readTown_26 (by decide) (by decide) (fun _ => ?_) (fun h9 => absurd h9 (by decide))
                refine S_aload_n X dX12_readTown_158 rfl hL37_0 ?_
                refine S_get (v := iv fl_83) X fgX12_118_11 0 rfl rfl dX12_readTown_159 ?_
                refine S_iconst X dX12_readTown_162 ?_
                refine S_icmp_ne (tgt := 185) X dX12_readTown_163 (by decide) (by omega) (by decide) (fun c_97 => ?_) (fun c_97 => by exfalso; omega)
                refine S_aload_n X dX12_readTown_185 rfl hL37_0 ?_
                refine S_get (v := iv fl_83) X fgX12_118_11 0 rfl rfl dX12_readTown_186 ?_
                exact S_iret X (nle rfl) (nle rfl) dX12_readTown_189 (hPo _ _ (Or.inl ⟨_, _, _, _, _, rfl, rfl, tnRes_f (hk9.symm.trans (pTnL_f (pCl_mf (s := (p1, m1, x1, Rc)) ⟨by omega, by omega⟩ (mt_f hi0 hq_87)))), by omega⟩))
              ·
                subst hz_91
                subst hu_92
                refine ⟨rfl, ?_⟩
                refine S_w (ws' := [(h0, ob 11 (uF (uF (uF (uF (uF (uF f 19 (iv m1)) 18 (iv p1)) 14 (iv tx)) 3 (iv a2_89)) 4 (iv (-1))) 5 (iv dp))), (hT, ar 160 T), (hR, ar 30 Rr)]) rfl ?_
                have hen_98 : ends T n a1 (p1, m1, x1, Rc) a2_89 (p1, z_81, 1, Rc) := ends_mb ⟨by omega, by omega⟩ hi0 hq_93
                have hpn_98 := (pNum_in (T := T) (n := n) (dg := 2) (lo := 1) (hi := 99) (a := sk T n (sk T n a1 + 1) + 1) (by omega) (by decide) hn1 (by omega)).2 _ hq_93
                dsimp only at hpn_98
                refine S_put X fpX12_237_11 0 rfl FT_i dX12_readTown_104 ?_
                refine S_w (ws' := [(h0, ob 11 (uF (uF (uF (uF (uF (uF f 19 (iv z_81)) 18 (iv p1)) 14 (iv tx)) 3 (iv a2_89)) 4 (iv (-1))) 5 (iv dp))), (hT, ar 160 T), (hR, ar 30 Rr)]) (by simp only [List.set]; rw [uF_mv (j := 5) (k := 19) (by decide), uF_mv (j := 4) (k := 19) (by decide), uF_mv (j := 3) (k := 19) (by decide), uF_mv (j := 14) (k := 19) (by decide), uF_mv (j := 18) (k := 19) (by decide), uF_same (k := 19)]) ?_
                refine S_goto (tgt := 114) X dX12_readTown_107 (by decide) ?_
                refine S_aload_n X dX12_readTown_114 rfl hL37_0 ?_
                refine S_get (v := iv (-1)) X fgX12_118_11 0 rfl rfl dX12_readTown_115 ?_
                refine S_iconst X dX12_readTown_118 ?_
                refine S_icmp_ne (tgt := 135) X dX12_readTown_119 (by decide) (by decide) (by decide) (fun h9 => absurd h9 (by decide)) (fun _ => ?_)
                refine S_aload_n X dX12_readTown_122 rfl hL37_0 ?_
                refine S_calli X (kX12_look l h0 hT (uF (uF (uF f 19 (iv z_81)) 18 (iv p1)) 14 (iv tx)) T n a2_89 (-1) dp hf0 hf1 (by omega) (by omega)) (is := [0, 1]) rfl (run_V X lkX12_130 0 rfl rfl (is := [0, 1]) (avs := []) (rest := []) rfl rfl (nle rfl) ⟨nle rfl, nle rfl⟩ ⟨nle rfl, nle rfl⟩ dX12_readTown_123 (by decide) rfl) (fun z_102 u_100 hp_101 => ?_)
                obtain ⟨hz_103, hu_104⟩ := hp_101
                subst hz_103
                subst hu_104
                refine ⟨rfl, ?_⟩
                refine S_w (ws' := [(h0, ob 11 (uF (uF (uF (uF (uF (uF f 19 (iv z_81)) 18 (iv p1)) 14 (iv tx)) 3 (iv (sk T n a2_89))) 4 (iv (-1))) 5 (iv dp))), (hT, ar 160 T), (hR, ar 30 Rr)]) rfl ?_
                have hsk_105 := sk_in (T := T) (n := n) (a := a2_89) (by omega)
                have hcm_105 := chM_or okT (a := sk T n a2_89) (by omega) (by omega)
                refine S_bipush X dX12_readTown_126 rfl ?_
                refine S_icmp_ne (tgt := 135) X dX12_readTown_128 (by decide) (by omega) (by decide) (fun c_106 => ?_) (fun c_106 => ?_)
                ·
                  refine S_iconst X dX12_readTown_135 ?_
                  refine S_istore_n X dX12_readTown_136 rfl (nle rfl) ?_
                  refine S_aload_n X dX12_readTown_137 rfl hL37_0 ?_
                  refine S_dup X dX12_readTown_138 ?_
                  refine S_get (v := iv (sk T n a2_89)) X fgX12_111_11 0 rfl rfl dX12_readTown_139 ?_
                  refine S_iload_n X dX12_readTown_142 rfl rfl ?_
                  refine S_if_eq (tgt := 150) X dX12_readTown_143 (by decide) (by decide) (fun _ => ?_) (fun h9 => absurd h9 (by decide))
                  refine S_iconst X dX12_readTown_150 ?_
                  refine S_iadd X dX12_readTown_151 ?_
                  refine S_put X fpX12_111_11 0 rfl FT_i dX12_readTown_152 ?_
                  refine S_w (ws' := [(h0, ob 11 (uF (uF (uF (uF (uF (uF f 19 (iv z_81)) 18 (iv p1)) 14 (iv tx)) 3 (iv ((sk T n a2_89) + 0))) 4 (iv (-1))) 5 (iv dp))), (hT, ar 160 T), (hR, ar 30 Rr)]) (by simp only [List.set]; rw [uF_mv (j := 5) (k := 3) (by decide), uF_mv (j := 4) (k := 3) (by decide), uF_same (k := 3)]) ?_
                  refine S_w (ws' := [(h0, ob 11 (uF (uF (uF (uF (uF (uF f 19 (iv z_81)) 18 (iv p1)) 14 (iv tx)) 3 (iv (sk T n a2_89))) 4 (iv (-1))) 5 (iv dp))), (hT, ar 160 T), (hR, ar 30 Rr)]) (by rw [Int.add_zero]) ?_
                  refine S_goto (tgt := 25) X dX12_readTown_155 (by decide) ?_
                  refine S_iload_n X dX12_readTown_25 rfl rfl ?_
                  refine S_if_eq (tgt := 158) X dX12_readTown_26 (by decide) (by decide) (fun _ => ?_) (fun h9 => absurd h9 (by decide))
                  refine S_aload_n X dX12_readTown_158 rfl hL37_0 ?_
                  refine S_get (v := iv (-1)) X fgX12_118_11 0 rfl rfl dX12_readTown_159 ?_
                  refine S_iconst X dX12_readTown_162 ?_
                  refine S_icmp_ne (tgt := 185) X dX12_readTown_163 (by decide) (by decide) (by decide) (fun h9 => absurd h9 (by decide)) (fun _ => ?_)
                  refine S_aload_n X dX12_readTown_166 rfl hL37_0 ?_
                  refine S_calli X (kX12_look l h0 hT (uF (uF (uF f 19 (iv z_81)) 18 (iv p1)) 14 (iv tx)) T n (sk T n a2_89) (-1) dp hf0 hf1 (by omega) (by omega)) (is := [0, 1]) rfl (run_V X lkX12_130 0 rfl rfl (is := [0, 1]) (avs := []) (rest := []) rfl rfl (nle rfl) ⟨nle rfl, nle rfl⟩ ⟨nle rfl, nle rfl⟩ dX12_readTown_167 (by decide) rfl) (fun z_112 u_110 hp_111 => ?_)
                  obtain ⟨hz_113, hu_114⟩ := hp_111
                  subst hz_113
                  subst hu_114
                  refine ⟨rfl, ?_⟩
                  refine S_w (ws' := [(h0, ob 11 (uF (uF (uF (uF (uF (uF f 19 (iv z_81)) 18 (iv p1)) 14 (iv tx)) 3 (iv (sk T n (sk T n a2_89)))) 4 (iv (-1))) 5 (iv dp))), (hT, ar 160 T), (hR, ar 30 Rr)]) rfl ?_
                  rw [sk_idem (a := a2_89)]
                  refine S_iconst X dX12_readTown_170 ?_
                  refine S_icmp_ne (tgt := 181) X dX12_readTown_171 (by decide) (by omega) (by decide) (fun c_115 => ?_) (fun c_115 => ?_)
                  ·
                    refine S_aload_n X dX12_readTown_181 rfl hL37_0 ?_
                    refine S_callv X (kX12_bad l h0 (uF (uF (uF f 19 (iv z_81)) 18 (iv p1)) 14 (iv tx)) (sk T n a2_89) (-1) dp (by omega)) (is := [0]) rfl (run_V X lkX12_127 0 rfl rfl (is := [0]) (avs := []) (rest := []) rfl rfl (nle rfl) ⟨nle rfl, nle rfl⟩ ⟨nle rfl, nle rfl⟩ dX12_readTown_182 (by decide) rfl) (fun u_116 hp_117 => ?_)
                    have hu_120 := hp_117
                    subst hu_120
                    refine ⟨rfl, ?_⟩
                    refine S_w (ws' := [(h0, ob 11 (uF (uF (uF (uF (uF (uF f 19 (iv z_81)) 18 (iv p1)) 14 (iv tx)) 3 (iv (sk T n a2_89))) 4 (iv (sk T n a2_89))) 5 (iv dp))), (hT, ar 160 T), (hR, ar 30 Rr)]) rfl ?_
                    refine S_aload_n X dX12_readTown_185 rfl hL37_0 ?_
                    refine S_get (v := iv (sk T n a2_89)) X fgX12_118_11 0 rfl rfl dX12_readTown_186 ?_
                    exact S_iret X (nle rfl) (nle rfl) dX12_readTown_189 (hPo _ _ (Or.inl ⟨_, _, _, _, _, rfl, rfl, tnRes_f (hk9.symm.trans (ends_x hen_98 (by omega) (by omega))), by omega⟩))
                  ·
                    have hcl_121 := ends_l hen_98 (by omega)
                    have hok_121 := (pCl_in hn1 (by omega) (by omega) hs).2 _ hcl_121
                    dsimp only at hok_121
                    refine S_aload_n X dX12_readTown_174 rfl hL37_0 ?_
                    refine S_calli X (kX12_areTold l h0 (uF f 19 (iv z_81)) (sk T n a2_89) dp tx p1 hR Rr (-1) hf2 (by omega) (flat_in (hfl) hok_121.2.2)) (is := [0, 2]) rfl (run_V X lkX12_243 0 rfl rfl (is := [0, 2]) (avs := []) (rest := []) rfl rfl (nle rfl) ⟨nle rfl, nle rfl⟩ ⟨nle rfl, nle rfl⟩ dX12_readTown_175 (by decide) rfl) (fun z_124 u_122 hp_123 => ?_)
                    rcases hp_123 with ⟨hz_125, hu_126, hq_127⟩ | ⟨hz_128, hu_129, hq_130⟩
                    ·
                      subst hz_125
                      subst hu_126
                      refine ⟨rfl, ?_⟩
                      refine S_w (ws' := [(h0, ob 11 (uF (uF (uF (uF (uF (uF f 19 (iv z_81)) 18 (iv p1)) 14 (iv tx)) 3 (iv (sk T n a2_89))) 4 (iv (-1))) 5 (iv dp))), (hT, ar 160 T), (hR, ar 30 Rr)]) rfl ?_
                      refine S_if_ne (tgt := 185) X dX12_readTown_178 (by decide) (by decide) (fun h9 => absurd h9 (by decide)) (fun _ => ?_)
                      refine S_aload_n X dX12_readTown_181 rfl hL37_0 ?_
                      refine S_callv X (kX12_bad l h0 (uF (uF (uF f 19 (iv z_81)) 18 (iv p1)) 14 (iv tx)) (sk T n a2_89) (-1) dp (by omega)) (is := [0]) rfl (run_V X lkX12_127 0 rfl rfl (is := [0]) (avs := []) (rest := []) rfl rfl (nle rfl) ⟨nle rfl, nle rfl⟩ ⟨nle rfl, nle rfl⟩ dX12_readTown_182 (by decide) rfl) (fun u_132 hp_133 => ?_)
                      have hu_136 := hp_133
                      subst hu_136
                      refine ⟨rfl, ?_⟩
                      refine S_w (ws' := [(h0, ob 11 (uF (uF (uF (uF (uF (uF f 19 (iv z_81)) 18 (iv p1)) 14 (iv tx)) 3 (iv (sk T n a2_89))) 4 (iv (sk T n a2_89))) 5 (iv dp))), (hT, ar 160 T), (hR, ar 30 Rr)]) rfl ?_
                      refine S_aload_n X dX12_readTown_185 rfl hL37_0 ?_
                      refine S_get (v := iv (sk T n a2_89)) X fgX12_118_11 0 rfl rfl dX12_readTown_186 ?_
                      exact S_iret X (nle rfl) (nle rfl) dX12_readTown_189 (hPo _ _ (Or.inl ⟨_, _, _, _, _, rfl, rfl, by rw [show (sk T n a2_89) = n by omega]; exact tnRes_n (hk9.symm.trans (ends_0 hen_98 (by omega))) (fun q9 => hq_127 ((flat_ok (hfl)).2 q9)), by omega⟩))
                    ·
                      subst hz_128
                      subst hu_129
                      refine ⟨rfl, ?_⟩
                      refine S_w (ws' := [(h0, ob 11 (uF (uF (uF (uF (uF (uF f 19 (iv z_81)) 18 (iv p1)) 14 (iv tx)) 3 (iv (sk T n a2_89))) 4 (iv (-1))) 5 (iv dp))), (hT, ar 160 T), (hR, ar 30 Rr)]) rfl ?_
                      refine S_if_ne (tgt := 185) X dX12_readTown_178 (by decide) (by decide) (fun _ => ?_) (fun h9 => absurd h9 (by decide))
                      refine S_aload_n X dX12_readTown_185 rfl hL37_0 ?_
                      refine S_get (v := iv (-1)) X fgX12_118_11 0 rfl rfl dX12_readTown_186 ?_
                      exact S_iret X (nle rfl) (nle rfl) dX12_readTown_189 (hPo _ _ (Or.inr ⟨_, _, _, _, _, _, rfl, rfl, tnRes_y (hk9.symm.trans (ends_0 hen_98 (by omega))) ((flat_ok (hfl)).1 hq_130), hfl, hok_121.2.2⟩))
                ·
                  have hcl_138 := ends_l hen_98 (by omega)
                  have hok_138 := (pCl_in hn1 (by omega) (by omega) hs).2 _ hcl_138
                  dsimp only at hok_138
                  refine S_iconst X dX12_readTown_131 ?_
                  refine S_goto (tgt := 136) X dX12_readTown_132 (by decide) ?_
                  refine S_istore_n X dX12_readTown_136 rfl (nle rfl) ?_
                  refine S_aload_n X dX12_readTown_137 rfl hL37_0 ?_
                  refine S_dup X dX12_readTown_138 ?_
                  refine S_get (v := iv (sk T n a2_89)) X fgX12_111_11 0 rfl rfl dX12_readTown_139 ?_
                  refine S_iload_n X dX12_readTown_142 rfl rfl ?_
                  refine S_if_eq (tgt := 150) X dX12_readTown_143 (by decide) (by decide) (fun h9 => absurd h9 (by decide)) (fun _ => ?_)
                  refine S_iconst X dX12_readTown_146 ?_
                  refine S_goto (tgt := 151) X dX12_readTown_147 (by decide) ?_
                  refine S_iadd X dX12_readTown_151 ?_
                  refine S_put X fpX12_111_11 0 rfl FT_i dX12_readTown_152 ?_
                  refine S_w (ws' := [(h0, ob 11 (uF (uF (uF (uF (uF (uF f 19 (iv z_81)) 18 (iv p1)) 14 (iv tx)) 3 (iv ((sk T n a2_89) + 1))) 4 (iv (-1))) 5 (iv dp))), (hT, ar 160 T), (hR, ar 30 Rr)]) (by simp only [List.set]; rw [uF_mv (j := 5) (k := 3) (by decide), uF_mv (j := 4) (k := 3) (by decide), uF_same (k := 3)]) ?_
                  refine S_goto (tgt := 25) X dX12_readTown_155 (by decide) ?_
                  refine S_iload_n X dX12_readTown_25 rfl rfl ?_
                  refine S_if_eq (tgt := 158) X dX12_readTown_26 (by decide) (by decide) (fun h9 => absurd h9 (by decide)) (fun _ => ?_)
                  refine S_aload_n X dX12_readTown_29 rfl hL37_0 ?_
                  refine S_get (v := iv (-1)) X fgX12_118_11 0 rfl rfl dX12_readTown_30 ?_
                  refine S_iconst X dX12_readTown_33 ?_
                  refine S_icmp_ne (tgt := 158) X dX12_readTown_34 (by decide) (by decide) (by decide) (fun h9 => absurd h9 (by decide)) (fun _ => ?_)
                  exact ih37 ((sk T n a2_89) + 1) 1 z_81 p1 Rr Rc _ (by omega) (hok_138.2.2) (hfl) (⟨g9, by omega, (ends_59 hen_98 (by omega)).symm.trans hk9⟩) hL37_0 rfl rfl (by omega)
      ·
        refine S_aload_n X dX12_readTown_48 rfl hL37_0 ?_
        refine S_callv X (kX12_playerText l h0 hT (uF f 19 (iv m1)) T n (sk T n a1) dp tx p1 hR Rr hf0 hf1 hf2 (by omega) (by omega) (by omega)) (is := [0, 1, 2]) rfl (run_V X lkX12_240 0 rfl rfl (is := [0, 1, 2]) (avs := []) (rest := []) rfl rfl (nle rfl) ⟨nle rfl, nle rfl⟩ ⟨nle rfl, nle rfl⟩ dX12_readTown_49 (by decide) rfl) (fun u_142 hp_143 => ?_)
        rcases hp_143 with ⟨hu_146, h6_147⟩ | ⟨a2_148, fl_149, r_150, hu_152, h6_153, hq_154, hr_155⟩ | ⟨a2_156, r_157, hu_159, h6_160, hq_161, hr_162, hi_163, hid_164⟩ | ⟨a2_165, r_166, hu_168, h6_169, hq_170, hr_171⟩
        ·
          subst hu_146
          refine ⟨rfl, ?_⟩
          refine S_w (ws' := [(h0, ob 11 (uF (uF (uF (uF (uF (uF f 19 (iv m1)) 18 (iv p1)) 14 (iv tx)) 3 (iv (sk T n a1))) 4 (iv (sk T n a1))) 5 (iv dp))), (hT, ar 160 T), (hR, ar 30 Rr)]) rfl ?_
          refine S_goto (tgt := 114) X dX12_readTown_52 (by decide) ?_
          refine S_aload_n X dX12_readTown_114 rfl hL37_0 ?_
          refine S_get (v := iv (sk T n a1)) X fgX12_118_11 0 rfl rfl dX12_readTown_115 ?_
          refine S_iconst X dX12_readTown_118 ?_
          refine S_icmp_ne (tgt := 135) X dX12_readTown_119 (by decide) (by omega) (by decide) (fun c_172 => ?_) (fun c_172 => by exfalso; omega)
          refine S_iconst X dX12_readTown_135 ?_
          refine S_istore_n X dX12_readTown_136 rfl (nle rfl) ?_
          refine S_aload_n X dX12_readTown_137 rfl hL37_0 ?_
          refine S_dup X dX12_readTown_138 ?_
          refine S_get (v := iv (sk T n a1)) X fgX12_111_11 0 rfl rfl dX12_readTown_139 ?_
          refine S_iload_n X dX12_readTown_142 rfl rfl ?_
          refine S_if_eq (tgt := 150) X dX12_readTown_143 (by decide) (by decide) (fun _ => ?_) (fun h9 => absurd h9 (by decide))
          refine S_iconst X dX12_readTown_150 ?_
          refine S_iadd X dX12_readTown_151 ?_
          refine S_put X fpX12_111_11 0 rfl FT_i dX12_readTown_152 ?_
          refine S_w (ws' := [(h0, ob 11 (uF (uF (uF (uF (uF (uF f 19 (iv m1)) 18 (iv p1)) 14 (iv tx)) 3 (iv ((sk T n a1) + 0))) 4 (iv (sk T n a1))) 5 (iv dp))), (hT, ar 160 T), (hR, ar 30 Rr)]) (by simp only [List.set]; rw [uF_mv (j := 5) (k := 3) (by decide), uF_mv (j := 4) (k := 3) (by decide), uF_same (k := 3)]) ?_
          refine S_w (ws' := [(h0, ob 11 (uF (uF (uF (uF (uF (uF f 19 (iv m1)) 18 (iv p1)) 14 (iv tx)) 3 (iv (sk T n a1))) 4 (iv (sk T n a1))) 5 (iv dp))), (hT, ar 160 T), (hR, ar 30 Rr)]) (by rw [Int.add_zero]) ?_
          refine S_goto (tgt := 25) X dX12_readTown_155 (by decide) ?_
          refine S_iload_n X dX12_readTown_25 rfl rfl ?_
          refine S_if_eq (tgt := 158) X dX12_readTown_26 (by decide) (by decide) (fun _ => ?_) (fun h9 => absurd h9 (by decide))
          refine S_aload_n X dX12_readTown_158 rfl hL37_0 ?_
          refine S_get (v := iv (sk T n a1)) X fgX12_118_11 0 rfl rfl dX12_readTown_159 ?_
          refine S_iconst X dX12_readTown_162 ?_
          refine S_icmp_ne (tgt := 185) X dX12_readTown_163 (by decide) (by omega) (by decide) (fun c_175 => ?_) (fun c_175 => by exfalso; omega)
          refine S_aload_n X dX12_readTown_185 rfl hL37_0 ?_
          refine S_get (v := iv (sk T n a1)) X fgX12_118_11 0 rfl rfl dX12_readTown_186 ?_
          exact S_iret X (nle rfl) (nle rfl) dX12_readTown_189 (hPo _ _ (Or.inl ⟨_, _, _, _, _, rfl, rfl, tnRes_f (hk9.symm.trans (pTnL_f (pCl_no (by dsimp only; omega) (by dsimp only; omega)))), by omega⟩))
        ·
          subst hu_152
          refine ⟨rfl, ?_⟩
          refine S_w (ws' := [(h0, ob 11 (uF (uF (uF (uF (uF (uF f 19 (iv m1)) 18 (iv (p1 + 1))) 14 (iv tx)) 3 (iv a2_148)) 4 (iv fl_149)) 5 (iv dp))), (hT, ar 160 T), (hR, ar 30 (rowW Rr p1 r_150))]) rfl ?_
          refine S_goto (tgt := 114) X dX12_readTown_52 (by decide) ?_
          refine S_aload_n X dX12_readTown_114 rfl hL37_0 ?_
          refine S_get (v := iv fl_149) X fgX12_118_11 0 rfl rfl dX12_readTown_115 ?_
          refine S_iconst X dX12_readTown_118 ?_
          refine S_icmp_ne (tgt := 135) X dX12_readTown_119 (by decide) (by omega) (by decide) (fun c_176 => ?_) (fun c_176 => by exfalso; omega)
          refine S_iconst X dX12_readTown_135 ?_
          refine S_istore_n X dX12_readTown_136 rfl (nle rfl) ?_
          refine S_aload_n X dX12_readTown_137 rfl hL37_0 ?_
          refine S_dup X dX12_readTown_138 ?_
          refine S_get (v := iv a2_148) X fgX12_111_11 0 rfl rfl dX12_readTown_139 ?_
          refine S_iload_n X dX12_readTown_142 rfl rfl ?_
          refine S_if_eq (tgt := 150) X dX12_readTown_143 (by decide) (by decide) (fun _ => ?_) (fun h9 => absurd h9 (by decide))
          refine S_iconst X dX12_readTown_150 ?_
          refine S_iadd X dX12_readTown_151 ?_
          refine S_put X fpX12_111_11 0 rfl FT_i dX12_readTown_152 ?_
          refine S_w (ws' := [(h0, ob 11 (uF (uF (uF (uF (uF (uF f 19 (iv m1)) 18 (iv (p1 + 1))) 14 (iv tx)) 3 (iv (a2_148 + 0))) 4 (iv fl_149)) 5 (iv dp))), (hT, ar 160 T), (hR, ar 30 (rowW Rr p1 r_150))]) (by simp only [List.set]; rw [uF_mv (j := 5) (k := 3) (by decide), uF_mv (j := 4) (k := 3) (by decide), uF_same (k := 3)]) ?_
          refine S_w (ws' := [(h0, ob 11 (uF (uF (uF (uF (uF (uF f 19 (iv m1)) 18 (iv (p1 + 1))) 14 (iv tx)) 3 (iv a2_148)) 4 (iv fl_149)) 5 (iv dp))), (hT, ar 160 T), (hR, ar 30 (rowW Rr p1 r_150))]) (by rw [Int.add_zero]) ?_
          refine S_goto (tgt := 25) X dX12_readTown_155 (by decide) ?_
          refine S_iload_n X dX12_readTown_25 rfl rfl ?_
          refine S_if_eq (tgt := 158) X dX12_readTown_26 (by decide) (by decide) (fun _ => ?_) (fun h9 => absurd h9 (by decide))
          refine S_aload_n X dX12_readTown_158 rfl hL37_0 ?_
          refine S_get (v := iv fl_149) X fgX12_118_11 0 rfl rfl dX12_readTown_159 ?_
          refine S_iconst X dX12_readTown_162 ?_
          refine S_icmp_ne (tgt := 185) X dX12_readTown_163 (by decide) (by omega) (by decide) (fun c_179 => ?_) (fun c_179 => by exfalso; omega)
          refine S_aload_n X dX12_readTown_185 rfl hL37_0 ?_
          refine S_get (v := iv fl_149) X fgX12_118_11 0 rfl rfl dX12_readTown_186 ?_
          exact S_iret X (nle rfl) (nle rfl) dX12_readTown_189 (hPo _ _ (Or.inl ⟨_, _, _, _, _, rfl, rfl, tnRes_f (hk9.symm.trans (pTnL_f (pCl_pf (s := (p1, m1, x1, Rc)) ⟨by omega, by omega⟩ hq_154))), by omega⟩))
        ·
          subst hu_159
          refine ⟨rfl, ?_⟩
          refine S_w (ws' := [(h0, ob 11 (uF (uF (uF (uF (uF (uF f 19 (iv m1)) 18 (iv (p1 + 1))) 14 (iv tx)) 3 (iv (sk T n a2_156))) 4 (iv (-1))) 5 (iv dp))), (hT, ar 160 T), (hR, ar 30 (rowW Rr p1 r_157))]) rfl ?_
          have hski_180 := sk_in (T := T) (n := n) (a := a2_156) (by omega)
          have hen_180 : ends T n a1 (p1, m1, x1, Rc) (sk T n a2_156) (p1 + 1, m1, x1, uZ Rc p1 r_157) := Or.inr ⟨by rw [sk_idem]; exact pCl_pf (s := (p1, m1, x1, Rc)) ⟨by omega, by omega⟩ hq_161, by rw [sk_idem]; exact hi_163⟩
          refine S_goto (tgt := 114) X dX12_readTown_52 (by decide) ?_
          refine S_aload_n X dX12_readTown_114 rfl hL37_0 ?_
          refine S_get (v := iv (-1)) X fgX12_118_11 0 rfl rfl dX12_readTown_115 ?_
          refine S_iconst X dX12_readTown_118 ?_
          refine S_icmp_ne (tgt := 135) X dX12_readTown_119 (by decide) (by decide) (by decide) (fun h9 => absurd h9 (by decide)) (fun _ => ?_)
          refine S_aload_n X dX12_readTown_122 rfl hL37_0 ?_
          refine S_calli X (kX12_look l h0 hT (uF (uF (uF f 19 (iv m1)) 18 (iv (p1 + 1))) 14 (iv tx)) T n (sk T n a2_156) (-1) dp hf0 hf1 (by omega) (by omega)) (is := [0, 1]) rfl (run_V X lkX12_130 0 rfl rfl (is := [0, 1]) (avs := []) (rest := []) rfl rfl (nle rfl) ⟨nle rfl, nle rfl⟩ ⟨nle rfl, nle rfl⟩ dX12_readTown_123 (by decide) rfl) (fun z_184 u_182 hp_183 => ?_)
          obtain ⟨hz_185, hu_186⟩ := hp_183
          subst hz_185
          subst hu_186
          refine ⟨rfl, ?_⟩
          refine S_w (ws' := [(h0, ob 11 (uF (uF (uF (uF (uF (uF f 19 (iv m1)) 18 (iv (p1 + 1))) 14 (iv tx)) 3 (iv (sk T n (sk T n a2_156)))) 4 (iv (-1))) 5 (iv dp))), (hT, ar 160 T), (hR, ar 30 (rowW Rr p1 r_157))]) rfl ?_
          have hsk_187 := sk_in (T := T) (n := n) (a := (sk T n a2_156)) (by omega)
          have hcm_187 := chM_or okT (a := sk T n (sk T n a2_156)) (by omega) (by omega)
          refine S_bipush X dX12_readTown_126 rfl ?_
          refine S_icmp_ne (tgt := 135) X dX12_readTown_128 (by decide) (by omega) (by decide) (fun c_188 => ?_) (fun c_188 => ?_)
          ·
            refine S_iconst X dX12_readTown_135 ?_
            refine S_istore_n X dX12_readTown_136 rfl (nle rfl) ?_
            refine S_aload_n X dX12_readTown_137 rfl hL37_0 ?_
            refine S_dup X dX12_readTown_138 ?_
            refine S_get (v := iv (sk T n (sk T n a2_156))) X fgX12_111_11 0 rfl rfl dX12_readTown_139 ?_
            refine S_iload_n X dX12_readTown_142 rfl rfl ?_
            refine S_if_eq (tgt := 150) X dX12_readTown_143 (by decide) (by decide) (fun _ => ?_) (fun h9 => absurd h9 (by decide))
            refine S_iconst X dX12_readTown_150 ?_
            refine S_iadd X dX12_readTown_151 ?_
            refine S_put X fpX12_111_11 0 rfl FT_i dX12_readTown_152 ?_
            refine S_w (ws' := [(h0, ob 11 (uF (uF (uF (uF (uF (uF f 19 (iv m1)) 18 (iv (p1 + 1))) 14 (iv tx)) 3 (iv ((sk T n (sk T n a2_156)) + 0))) 4 (iv (-1))) 5 (iv dp))), (hT, ar 160 T), (hR, ar 30 (rowW Rr p1 r_157))]) (by simp only [List.set]; rw [uF_mv (j := 5) (k := 3) (by decide), uF_mv (j := 4) (k := 3) (by decide), uF_same (k := 3)]) ?_
            refine S_w (ws' := [(h0, ob 11 (uF (uF (uF (uF (uF (uF f 19 (iv m1)) 18 (iv (p1 + 1))) 14 (iv tx)) 3 (iv (sk T n (sk T n a2_156)))) 4 (iv (-1))) 5 (iv dp))), (hT, ar 160 T), (hR, ar 30 (rowW Rr p1 r_157))]) (by rw [Int.add_zero]) ?_
            refine S_goto (tgt := 25) X dX12_readTown_155 (by decide) ?_
            refine S_iload_n X dX12_readTown_25 rfl rfl ?_
            refine S_if_eq (tgt := 158) X dX12_readTown_26 (by decide) (by decide) (fun _ => ?_) (fun h9 => absurd h9 (by decide))
            refine S_aload_n X dX12_readTown_158 rfl hL37_0 ?_
            refine S_get (v := iv (-1)) X fgX12_118_11 0 rfl rfl dX12_readTown_159 ?_
            refine S_iconst X dX12_readTown_162 ?_
            refine S_icmp_ne (tgt := 185) X dX12_readTown_163 (by decide) (by decide) (by decide) (fun h9 => absurd h9 (by decide)) (fun _ => ?_)
            refine S_aload_n X dX12_readTown_166 rfl hL37_0 ?_
            refine S_calli X (kX12_look l h0 hT (uF (uF (uF f 19 (iv m1)) 18 (iv (p1 + 1))) 14 (iv tx)) T n (sk T n (sk T n a2_156)) (-1) dp hf0 hf1 (by omega) (by omega)) (is := [0, 1]) rfl (run_V X lkX12_130 0 rfl rfl (is := [0, 1]) (avs := []) (rest := []) rfl rfl (nle rfl) ⟨nle rfl, nle rfl⟩ ⟨nle rfl, nle rfl⟩ dX12_readTown_167 (by decide) rfl) (fun z_194 u_192 hp_193 => ?_)
            obtain ⟨hz_195, hu_196⟩ := hp_193
            subst hz_195
            subst hu_196
            refine ⟨rfl, ?_⟩
            refine S_w (ws' := [(h0, ob 11 (uF (uF (uF (uF (uF (uF f 19 (iv m1)) 18 (iv (p1 + 1))) 14 (iv tx)) 3 (iv (sk T n (sk T n (sk T n a2_156))))) 4 (iv (-1))) 5 (iv dp))), (hT, ar 160 T), (hR, ar 30 (rowW Rr p1 r_157))]) rfl ?_
            rw [sk_idem (a := (sk T n a2_156))]
            refine S_iconst X dX12_readTown_170 ?_
            refine S_icmp_ne (tgt := 181) X dX12_readTown_171 (by decide) (by omega) (by decide) (fun c_197 => ?_) (fun c_197 => ?_)
            ·
              refine S_aload_n X dX12_readTown_181 rfl hL37_0 ?_
              refine S_callv X (kX12_bad l h0 (uF (uF (uF f 19 (iv m1)) 18 (iv (p1 + 1))) 14 (iv tx)) (sk T n (sk T n a2_156)) (-1) dp (by omega)) (is := [0]) rfl (run_V X lkX12_127 0 rfl rfl (is := [0]) (avs := []) (rest := []) rfl rfl (nle rfl) ⟨nle rfl, nle rfl⟩ ⟨nle rfl, nle rfl⟩ dX12_readTown_182 (by decide) rfl) (fun u_198 hp_199 => ?_)
              have hu_202 := hp_199
              subst hu_202
              refine ⟨rfl, ?_⟩
              refine S_w (ws' := [(h0, ob 11 (uF (uF (uF (uF (uF (uF f 19 (iv m1)) 18 (iv (p1 + 1))) 14 (iv tx)) 3 (iv (sk T n (sk T n a2_156)))) 4 (iv (sk T n (sk T n a2_156)))) 5 (iv dp))), (hT, ar 160 T), (hR, ar 30 (rowW Rr p1 r_157))]) rfl ?_
              refine S_aload_n X dX12_readTown_185 rfl hL37_0 ?_
              refine S_get (v := iv (sk T n (sk T n a2_156))) X fgX12_118_11 0 rfl rfl dX12_readTown_186 ?_
              exact S_iret X (nle rfl) (nle rfl) dX12_readTown_189 (hPo _ _ (Or.inl ⟨_, _, _, _, _, rfl, rfl, tnRes_f (hk9.symm.trans (ends_x hen_180 (by omega) (by omega))), by omega⟩))
            ·
              have hcl_203 := ends_l hen_180 (by omega)
              have hok_203 := (pCl_in hn1 (by omega) (by omega) hs).2 _ hcl_203
              dsimp only at hok_203
              refine S_aload_n X dX12_readTown_174 rfl hL37_0 ?_
              refine S_calli X (kX12_areTold l h0 (uF f 19 (iv m1)) (sk T n (sk T n a2_156)) dp tx (p1 + 1) hR (rowW Rr p1 r_157) (-1) hf2 (by omega) (flat_in (flat_put hfl) hok_203.2.2)) (is := [0, 2]) rfl (run_V X lkX12_243 0 rfl rfl (is := [0, 2]) (avs := []) (rest := []) rfl rfl (nle rfl) ⟨nle rfl, nle rfl⟩ ⟨nle rfl, nle rfl⟩ dX12_readTown_175 (by decide) rfl) (fun z_206 u_204 hp_205 => ?_)
              rcases hp_205 with ⟨hz_207, hu_208, hq_209⟩ | ⟨hz_210, hu_211, hq_212⟩
              ·
                subst hz_207
                subst hu_208
                refine ⟨rfl, ?_⟩
                refine S_w (ws' := [(h0, ob 11 (uF (uF (uF (uF (uF (uF f 19 (iv m1)) 18 (iv (p1 + 1))) 14 (iv tx)) 3 (iv (sk T n (sk T n a2_156)))) 4 (iv (-1))) 5 (iv dp))), (hT, ar 160 T), (hR, ar 30 (rowW Rr p1 r_157))]) rfl ?_
                refine S_if_ne (tgt := 185) X dX12_readTown_178 (by decide) (by decide) (fun h9 => absurd h9 (by decide)) (fun _ => ?_)
                refine S_aload_n X dX12_readTown_181 rfl hL37_0 ?_
                refine S_callv X (kX12_bad l h0 (uF (uF (uF f 19 (iv m1)) 18 (iv (p1 + 1))) 14 (iv tx)) (sk T n (sk T n a2_156)) (-1) dp (by omega)) (is := [0]) rfl (run_V X lkX12_127 0 rfl rfl (is := [0]) (avs := []) (rest := []) rfl rfl (nle rfl) ⟨nle rfl, nle rfl⟩ ⟨nle rfl, nle rfl⟩ dX12_readTown_182 (by decide) rfl) (fun u_214 hp_215 => ?_)
                have hu_218 := hp_215
                subst hu_218
                refine ⟨rfl, ?_⟩
                refine S_w (ws' := [(h0, ob 11 (uF (uF (uF (uF (uF (uF f 19 (iv m1)) 18 (iv (p1 + 1))) 14 (iv tx)) 3 (iv (sk T n (sk T n a2_156)))) 4 (iv (sk T n (sk T n a2_156)))) 5 (iv dp))), (hT, ar 160 T), (hR, ar 30 (rowW Rr p1 r_157))]) rfl ?_
                refine S_aload_n X dX12_readTown_185 rfl hL37_0 ?_
                refine S_get (v := iv (sk T n (sk T n a2_156))) X fgX12_118_11 0 rfl rfl dX12_readTown_186 ?_
                exact S_iret X (nle rfl) (nle rfl) dX12_readTown_189 (hPo _ _ (Or.inl ⟨_, _, _, _, _, rfl, rfl, by rw [show (sk T n (sk T n a2_156)) = n by omega]; exact tnRes_n (hk9.symm.trans (ends_0 hen_180 (by omega))) (fun q9 => hq_209 ((flat_ok (flat_put hfl)).2 q9)), by omega⟩))
              ·
                subst hz_210
                subst hu_211
                refine ⟨rfl, ?_⟩
                refine S_w (ws' := [(h0, ob 11 (uF (uF (uF (uF (uF (uF f 19 (iv m1)) 18 (iv (p1 + 1))) 14 (iv tx)) 3 (iv (sk T n (sk T n a2_156)))) 4 (iv (-1))) 5 (iv dp))), (hT, ar 160 T), (hR, ar 30 (rowW Rr p1 r_157))]) rfl ?_
                refine S_if_ne (tgt := 185) X dX12_readTown_178 (by decide) (by decide) (fun _ => ?_) (fun h9 => absurd h9 (by decide))
                refine S_aload_n X dX12_readTown_185 rfl hL37_0 ?_
                refine S_get (v := iv (-1)) X fgX12_118_11 0 rfl rfl dX12_readTown_186 ?_
                exact S_iret X (nle rfl) (nle rfl) dX12_readTown_189 (hPo _ _ (Or.inr ⟨_, _, _, _, _, _, rfl, rfl, tnRes_y (hk9.symm.trans (ends_0 hen_180 (by omega))) ((flat_ok (flat_put hfl)).1 hq_212), flat_put hfl, hok_203.2.2⟩))
          ·
            have hcl_220 := ends_l hen_180 (by omega)
            have hok_220 := (pCl_in hn1 (by omega) (by omega) hs).2 _ hcl_220
            dsimp only at hok_220
            refine S_iconst X dX12_readTown_131 ?_
            refine S_goto (tgt := 136) X dX12_readTown_132 (by decide) ?_
            refine S_istore_n X dX12_readTown_136 rfl (nle rfl) ?_
            refine S_aload_n X dX12_readTown_137 rfl hL37_0 ?_
            refine S_dup X dX12_readTown_138 ?_
            refine S_get (v := iv (sk T n (sk T n a2_156))) X fgX12_111_11 0 rfl rfl dX12_readTown_139 ?_
            refine S_iload_n X dX12_readTown_142 rfl rfl ?_
            refine S_if_eq (tgt := 150) X dX12_readTown_143 (by decide) (by decide) (fun h9 => absurd h9 (by decide)) (fun _ => ?_)
            refine S_iconst X dX12_readTown_146 ?_
            refine S_goto (tgt := 151) X dX12_readTown_147 (by decide) ?_
            refine S_iadd X dX12_readTown_151 ?_
            refine S_put X fpX12_111_11 0 rfl FT_i dX12_readTown_152 ?_
            refine S_w (ws' := [(h0, ob 11 (uF (uF (uF (uF (uF (uF f 19 (iv m1)) 18 (iv (p1 + 1))) 14 (iv tx)) 3 (iv ((sk T n (sk T n a2_156)) + 1))) 4 (iv (-1))) 5 (iv dp))), (hT, ar 160 T), (hR, ar 30 (rowW Rr p1 r_157))]) (by simp only [List.set]; rw [uF_mv (j := 5) (k := 3) (by decide), uF_mv (j := 4) (k := 3) (by decide), uF_same (k := 3)]) ?_
            refine S_goto (tgt := 25) X dX12_readTown_155 (by decide) ?_
            refine S_iload_n X dX12_readTown_25 rfl rfl ?_
            refine S_if_eq (tgt := 158) X dX12_readTown_26 (by decide) (by decide) (fun h9 => absurd h9 (by decide)) (fun _ => ?_)
            refine S_aload_n X dX12_readTown_29 rfl hL37_0 ?_
            refine S_get (v := iv (-1)) X fgX12_118_11 0 rfl rfl dX12_readTown_30 ?_
            refine S_iconst X dX12_readTown_33 ?_
            refine S_icmp_ne (tgt := 158) X dX12_readTown_34 (by decide) (by decide) (by decide) (fun h9 => absurd h9 (by decide)) (fun _ => ?_)
            exact ih37 ((sk T n (sk T n a2_156)) + 1) x1 m1 (p1 + 1) (rowW Rr p1 r_157) (uZ Rc p1 r_157) _ (by omega) (hok_220.2.2) (flat_put hfl) (⟨g9, by omega, (ends_59 hen_180 (by omega)).symm.trans hk9⟩) hL37_0 hL37_1 rfl (by omega)
        ·
          subst hu_168
          refine ⟨rfl, ?_⟩
          refine S_w (ws' := [(h0, ob 11 (uF (uF (uF (uF (uF (uF f 19 (iv m1)) 18 (iv (p1 + 1))) 14 (iv tx)) 3 (iv (sk T n a2_165))) 4 (iv (-1))) 5 (iv dp))), (hT, ar 160 T), (hR, ar 30 (rowW Rr p1 r_166))]) rfl ?_
          have hski_224 := sk_in (T := T) (n := n) (a := a2_165) (by omega)
          have hen_224 : ends T n a1 (p1, m1, x1, Rc) (sk T n a2_165) (p1 + 1, m1, x1, uZ Rc p1 r_166) := Or.inl (by rw [sk_idem]; exact pCl_p (s := (p1, m1, x1, Rc)) ⟨by omega, by omega⟩ hq_170)
          refine S_goto (tgt := 114) X dX12_readTown_52 (by decide) ?_
          refine S_aload_n X dX12_readTown_114 rfl hL37_0 ?_
          refine S_get (v := iv (-1)) X fgX12_118_11 0 rfl rfl dX12_readTown_115 ?_
          refine S_iconst X dX12_readTown_118 ?_
          refine S_icmp_ne (tgt := 135) X dX12_readTown_119 (by decide) (by decide) (by decide) (fun h9 => absurd h9 (by decide)) (fun _ => ?_)
          refine S_aload_n X dX12_readTown_122 rfl hL37_0 ?_
          refine S_calli X (kX12_look l h0 hT (uF (uF (uF f 19 (iv m1)) 18 (iv (p1 + 1))) 14 (iv tx)) T n (sk T n a2_165) (-1) dp hf0 hf1 (by omega) (by omega)) (is := [0, 1]) rfl (run_V X lkX12_130 0 rfl rfl (is := [0, 1]) (avs := []) (rest := []) rfl rfl (nle rfl) ⟨nle rfl, nle rfl⟩ ⟨nle rfl, nle rfl⟩ dX12_readTown_123 (by decide) rfl) (fun z_228 u_226 hp_227 => ?_)
          obtain ⟨hz_229, hu_230⟩ := hp_227
          subst hz_229
          subst hu_230
          refine ⟨rfl, ?_⟩
          refine S_w (ws' := [(h0, ob 11 (uF (uF (uF (uF (uF (uF f 19 (iv m1)) 18 (iv (p1 + 1))) 14 (iv tx)) 3 (iv (sk T n (sk T n a2_165)))) 4 (iv (-1))) 5 (iv dp))), (hT, ar 160 T), (hR, ar 30 (rowW Rr p1 r_166))]) rfl ?_
          have hsk_231 := sk_in (T := T) (n := n) (a := (sk T n a2_165)) (by omega)
          have hcm_231 := chM_or okT (a := sk T n (sk T n a2_165)) (by omega) (by omega)
          refine S_bipush X dX12_readTown_126 rfl ?_
          refine S_icmp_ne (tgt := 135) X dX12_readTown_128 (by decide) (by omega) (by decide) (fun c_232 => ?_) (fun c_232 => ?_)
          ·
            refine S_iconst X dX12_readTown_135 ?_
            refine S_istore_n X dX12_readTown_136 rfl (nle rfl) ?_
            refine S_aload_n X dX12_readTown_137 rfl hL37_0 ?_
            refine S_dup X dX12_readTown_138 ?_
            refine S_get (v := iv (sk T n (sk T n a2_165))) X fgX12_111_11 0 rfl rfl dX12_readTown_139 ?_
            refine S_iload_n X dX12_readTown_142 rfl rfl ?_
            refine S_if_eq (tgt := 150) X dX12_readTown_143 (by decide) (by decide) (fun _ => ?_) (fun h9 => absurd h9 (by decide))
            refine S_iconst X dX12_readTown_150 ?_
            refine S_iadd X dX12_readTown_151 ?_
            refine S_put X fpX12_111_11 0 rfl FT_i dX12_readTown_152 ?_
            refine S_w (ws' := [(h0, ob 11 (uF (uF (uF (uF (uF (uF f 19 (iv m1)) 18 (iv (p1 + 1))) 14 (iv tx)) 3 (iv ((sk T n (sk T n a2_165)) + 0))) 4 (iv (-1))) 5 (iv dp))), (hT, ar 160 T), (hR, ar 30 (rowW Rr p1 r_166))]) (by simp only [List.set]; rw [uF_mv (j := 5) (k := 3) (by decide), uF_mv (j := 4) (k := 3) (by decide), uF_same (k := 3)]) ?_
            refine S_w (ws' := [(h0, ob 11 (uF (uF (uF (uF (uF (uF f 19 (iv m1)) 18 (iv (p1 + 1))) 14 (iv tx)) 3 (iv (sk T n (sk T n a2_165)))) 4 (iv (-1))) 5 (iv dp))), (hT, ar 160 T), (hR, ar 30 (rowW Rr p1 r_166))]) (by rw [Int.add_zero]) ?_
            refine S_goto (tgt := 25) X dX12_readTown_155 (by decide) ?_
            refine S_iload_n X dX12_readTown_25 rfl rfl ?_
            refine S_if_eq (tgt := 158) X dX12_readTown_26 (by decide) (by decide) (fun _ => ?_) (fun h9 => absurd h9 (by decide))
            refine S_aload_n X dX12_readTown_158 rfl hL37_0 ?_
            refine S_get (v := iv (-1)) X fgX12_118_11 0 rfl rfl dX12_readTown_159 ?_
            refine S_iconst X dX12_readTown_162 ?_
            refine S_icmp_ne (tgt := 185) X dX12_readTown_163 (by decide) (by decide) (by decide) (fun h9 => absurd h9 (by decide)) (fun _ => ?_)
            refine S_aload_n X dX12_readTown_166 rfl hL37_0 ?_
            refine S_calli X (kX12_look l h0 hT (uF (uF (uF f 19 (iv m1)) 18 (iv (p1 + 1))) 14 (iv tx)) T n (sk T n (sk T n a2_165)) (-1) dp hf0 hf1 (by omega) (by omega)) (is := [0, 1]) rfl (run_V X lkX12_130 0 rfl rfl (is := [0, 1]) (avs := []) (rest := []) rfl rfl (nle rfl) ⟨nle rfl, nle rfl⟩ ⟨nle rfl, nle rfl⟩ dX12_readTown_167 (by decide) rfl) (fun z_238 u_236 hp_237 => ?_)
            obtain ⟨hz_239, hu_240⟩ := hp_237
            subst hz_239
            subst hu_240
            refine ⟨rfl, ?_⟩
            refine S_w (ws' := [(h0, ob 11 (uF (uF (uF (uF (uF (uF f 19 (iv m1)) 18 (iv (p1 + 1))) 14 (iv tx)) 3 (iv (sk T n (sk T n (sk T n a2_165))))) 4 (iv (-1))) 5 (iv dp))), (hT, ar 160 T), (hR, ar 30 (rowW Rr p1 r_166))]) rfl ?_
            rw [sk_idem (a := (sk T n a2_165))]
            refine S_iconst X dX12_readTown_170 ?_
            refine S_icmp_ne (tgt := 181) X dX12_readTown_171 (by decide) (by omega) (by decide) (fun c_241 => ?_) (fun c_241 => ?_)
            ·
              refine S_aload_n X dX12_readTown_181 rfl hL37_0 ?_
              refine S_callv X (kX12_bad l h0 (uF (uF (uF f 19 (iv m1)) 18 (iv (p1 + 1))) 14 (iv tx)) (sk T n (sk T n a2_165)) (-1) dp (by omega)) (is := [0]) rfl (run_V X lkX12_127 0 rfl rfl (is := [0]) (avs := []) (rest := []) rfl rfl (nle rfl) ⟨nle rfl, nle rfl⟩ ⟨nle rfl, nle rfl⟩ dX12_readTown_182 (by decide) rfl) (fun u_242 hp_243 => ?_)
              have hu_246 := hp_243
              subst hu_246
              refine ⟨rfl, ?_⟩
              refine S_w (ws' := [(h0, ob 11 (uF (uF (uF (uF (uF (uF f 19 (iv m1)) 18 (iv (p1 + 1))) 14 (iv tx)) 3 (iv (sk T n (sk T n a2_165)))) 4 (iv (sk T n (sk T n a2_165)))) 5 (iv dp))), (hT, ar 160 T), (hR, ar 30 (rowW Rr p1 r_166))]) rfl ?_
              refine S_aload_n X dX12_readTown_185 rfl hL37_0 ?_
              refine S_get (v := iv (sk T n (sk T n a2_165))) X fgX12_118_11 0 rfl rfl dX12_readTown_186 ?_
              exact S_iret X (nle rfl) (nle rfl) dX12_readTown_189 (hPo _ _ (Or.inl ⟨_, _, _, _, _, rfl, rfl, tnRes_f (hk9.symm.trans (ends_x hen_224 (by omega) (by omega))), by omega⟩))
            ·
              have hcl_247 := ends_l hen_224 (by omega)
              have hok_247 := (pCl_in hn1 (by omega) (by omega) hs).2 _ hcl_247
              dsimp only at hok_247
              refine S_aload_n X dX12_readTown_174 rfl hL37_0 ?_
              refine S_calli X (kX12_areTold l h0 (uF f 19 (iv m1)) (sk T n (sk T n a2_165)) dp tx (p1 + 1) hR (rowW Rr p1 r_166) (-1) hf2 (by omega) (flat_in (flat_put hfl) hok_247.2.2)) (is := [0, 2]) rfl (run_V X lkX12_243 0 rfl rfl (is := [0, 2]) (avs := []) (rest := []) rfl rfl (nle rfl) ⟨nle rfl, nle rfl⟩ ⟨nle rfl, nle rfl⟩ dX12_readTown_175 (by decide) rfl) (fun z_250 u_248 hp_249 => ?_)
              rcases hp_249 with ⟨hz_251, hu_252, hq_253⟩ | ⟨hz_254, hu_255, hq_256⟩
              ·
                subst hz_251
                subst hu_252
                refine ⟨rfl, ?_⟩
                refine S_w (ws' := [(h0, ob 11 (uF (uF (uF (uF (uF (uF f 19 (iv m1)) 18 (iv (p1 + 1))) 14 (iv tx)) 3 (iv (sk T n (sk T n a2_165)))) 4 (iv (-1))) 5 (iv dp))), (hT, ar 160 T), (hR, ar 30 (rowW Rr p1 r_166))]) rfl ?_
                refine S_if_ne (tgt := 185) X dX12_readTown_178 (by decide) (by decide) (fun h9 => absurd h9 (by decide)) (fun _ => ?_)
                refine S_aload_n X dX12_readTown_181 rfl hL37_0 ?_
                refine S_callv X (kX12_bad l h0 (uF (uF (uF f 19 (iv m1)) 18 (iv (p1 + 1))) 14 (iv tx)) (sk T n (sk T n a2_165)) (-1) dp (by omega)) (is := [0]) rfl (run_V X lkX12_127 0 rfl rfl (is := [0]) (avs := []) (rest := []) rfl rfl (nle rfl) ⟨nle rfl, nle rfl⟩ ⟨nle rfl, nle rfl⟩ dX12_readTown_182 (by decide) rfl) (fun u_258 hp_259 => ?_)
                have hu_262 := hp_259
                subst hu_262
                refine ⟨rfl, ?_⟩
                refine S_w (ws' := [(h0, ob 11 (uF (uF (uF (uF (uF (uF f 19 (iv m1)) 18 (iv (p1 + 1))) 14 (iv tx)) 3 (iv (sk T n (sk T n a2_165)))) 4 (iv (sk T n (sk T n a2_165)))) 5 (iv dp))), (hT, ar 160 T), (hR, ar 30 (rowW Rr p1 r_166))]) rfl ?_
                refine S_aload_n X dX12_readTown_185 rfl hL37_0 ?_
                refine S_get (v := iv (sk T n (sk T n a2_165))) X fgX12_118_11 0 rfl rfl dX12_readTown_186 ?_
                exact S_iret X (nle rfl) (nle rfl) dX12_readTown_189 (hPo _ _ (Or.inl ⟨_, _, _, _, _, rfl, rfl, by rw [show (sk T n (sk T n a2_165)) = n by omega]; exact tnRes_n (hk9.symm.trans (ends_0 hen_224 (by omega))) (fun q9 => hq_253 ((flat_ok (flat_put hfl)).2 q9)), by omega⟩))
              ·
                subst hz_254
                subst hu_255
                refine ⟨rfl, ?_⟩
                refine S_w (ws' := [(h0, ob 11 (uF (uF (uF (uF (uF (uF f 19 (iv m1)) 18 (iv (p1 + 1))) 14 (iv tx)) 3 (iv (sk T n (sk T n a2_165)))) 4 (iv (-1))) 5 (iv dp))), (hT, ar 160 T), (hR, ar 30 (rowW Rr p1 r_166))]) rfl ?_
                refine S_if_ne (tgt := 185) X dX12_readTown_178 (by decide) (by decide) (fun _ => ?_) (fun h9 => absurd h9 (by decide))
                refine S_aload_n X dX12_readTown_185 rfl hL37_0 ?_
                refine S_get (v := iv (-1)) X fgX12_118_11 0 rfl rfl dX12_readTown_186 ?_
                exact S_iret X (nle rfl) (nle rfl) dX12_readTown_189 (hPo _ _ (Or.inr ⟨_, _, _, _, _, _, rfl, rfl, tnRes_y (hk9.symm.trans (ends_0 hen_224 (by omega))) ((flat_ok (flat_put hfl)).1 hq_256), flat_put hfl, hok_247.2.2⟩))
          ·
            have hcl_264 := ends_l hen_224 (by omega)
            have hok_264 := (pCl_in hn1 (by omega) (by omega) hs).2 _ hcl_264
            dsimp only at hok_264
            refine S_iconst X dX12_readTown_131 ?_
            refine S_goto (tgt := 136) X dX12_readTown_132 (by decide) ?_
            refine S_istore_n X dX12_readTown_136 rfl (nle rfl) ?_
            refine S_aload_n X dX12_readTown_137 rfl hL37_0 ?_
            refine S_dup X dX12_readTown_138 ?_
            refine S_get (v := iv (sk T n (sk T n a2_165))) X fgX12_111_11 0 rfl rfl dX12_readTown_139 ?_
            refine S_iload_n X dX12_readTown_142 rfl rfl ?_
            refine S_if_eq (tgt := 150) X dX12_readTown_143 (by decide) (by decide) (fun h9 => absurd h9 (by decide)) (fun _ => ?_)
            refine S_iconst X dX12_readTown_146 ?_
            refine S_goto (tgt := 151) X dX12_readTown_147 (by decide) ?_
            refine S_iadd X dX12_readTown_151 ?_
            refine S_put X fpX12_111_11 0 rfl FT_i dX12_readTown_152 ?_
            refine S_w (ws' := [(h0, ob 11 (uF (uF (uF (uF (uF (uF f 19 (iv m1)) 18 (iv (p1 + 1))) 14 (iv tx)) 3 (iv ((sk T n (sk T n a2_165)) + 1))) 4 (iv (-1))) 5 (iv dp))), (hT, ar 160 T), (hR, ar 30 (rowW Rr p1 r_166))]) (by simp only [List.set]; rw [uF_mv (j := 5) (k := 3) (by decide), uF_mv (j := 4) (k := 3) (by decide), uF_same (k := 3)]) ?_
            refine S_goto (tgt := 25) X dX12_readTown_155 (by decide) ?_
            refine S_iload_n X dX12_readTown_25 rfl rfl ?_
            refine S_if_eq (tgt := 158) X dX12_readTown_26 (by decide) (by decide) (fun h9 => absurd h9 (by decide)) (fun _ => ?_)
            refine S_aload_n X dX12_readTown_29 rfl hL37_0 ?_
            refine S_get (v := iv (-1)) X fgX12_118_11 0 rfl rfl dX12_readTown_30 ?_
            refine S_iconst X dX12_readTown_33 ?_
            refine S_icmp_ne (tgt := 158) X dX12_readTown_34 (by decide) (by decide) (by decide) (fun h9 => absurd h9 (by decide)) (fun _ => ?_)
            exact ih37 ((sk T n (sk T n a2_165)) + 1) x1 m1 (p1 + 1) (rowW Rr p1 r_166) (uZ Rc p1 r_166) _ (by omega) (hok_264.2.2) (flat_put hfl) (⟨g9, by omega, (ends_59 hen_224 (by omega)).symm.trans hk9⟩) hL37_0 hL37_1 rfl (by omega)
  exact lp37_0 (Int.toNat (161 - 0) + 1) 0 0 60 0 R1 R0 _ (by omega) (⟨by dsimp only; omega, by dsimp only; omega, Or.inl rfl, fun j j0 j1 => absurd j1 (by dsimp only; omega)⟩) (flat_0) (⟨161, by omega, rfl⟩) rfl rfl rfl (by omega)
end pt_30ref10
/- 31.ref11.lean.txt -/
section pt_31ref11
set_option maxHeartbeats 4000000 in
set_option maxRecDepth 100000 in
theorem kX12_takeTown (l : Launch) (h0 : Nat) (f : Nat → AV) (pl : Int) (mt : Int) (p1 : Int) (m1 : Int) (z1 : Int) (z2 : Int) (z3 : Int) (z4 : Int) (z5 : Int) (hQ : Nat) (hR : Nat) (hB : Nat) (hE : Nat) (Q1 : Int → Int) (R1 : Int → Int) (B1 : Int → Int) (E1 : Int → Int) (hf0 : f 20 = rv hQ) (hf1 : f 17 = rv hR) (hf2 : f 23 = rv hB) (hf3 : f 24 = rv hE) : AMi l yX12_takeTown cX12_takeTown 2 .int 0 0 0 [rv h0] [(h0, ob 11 (uF (uF (uF (uF (uF (uF (uF (uF (uF f 21 (iv p1)) 22 (iv m1)) 25 (iv z1)) 32 (iv z2)) 26 (iv z3)) 46 (iv z4)) 49 (iv z5)) 19 (iv mt)) 18 (iv pl))), (hQ, ar 30 Q1), (hR, ar 30 R1), (hB, ar 6 B1), (hE, ar 6 E1)] (fun z u => ∃ Q2 : Int → Int, ∃ B2 : Int → Int, ∃ E2 : Int → Int, z = pl ∧ u = [(h0, ob 11 (uF (uF (uF (uF (uF (uF (uF (uF (uF f 21 (iv pl)) 22 (iv mt)) 25 (iv 0)) 32 (iv 0)) 26 (iv 0)) 46 (iv 0)) 49 (iv 0)) 19 (iv mt)) 18 (iv pl))), (hQ, ar 30 Q2), (hR, ar 30 R1), (hB, ar 6 B2), (hE, ar 6 E2)] ∧ (∀ x, 0 ≤ x → x < 30 → Q2 x = R1 x) ∧ (∀ x, 0 ≤ x → x < 6 → B2 x = R1 (5 * x)) ∧ (∀ x, 0 ≤ x → x < 6 → E2 x = 0)) := by
  refine AMi.of2 rfl (nle rfl) ?_
  intro D G A p e s m args below meth c Po hPo X
  refine S_aload_n X dX12_takeTown_0 rfl rfl ?_
  refine S_aload_n X dX12_takeTown_1 rfl rfl ?_
  refine S_get (v := iv pl) X fgX12_220_11 0 rfl rfl dX12_takeTown_2 ?_
  refine S_put X fpX12_253_11 0 rfl FT_i dX12_takeTown_5 ?_
  refine S_w (ws' := [(h0, ob 11 (uF (uF (uF (uF (uF (uF (uF (uF (uF f 21 (iv pl)) 22 (iv m1)) 25 (iv z1)) 32 (iv z2)) 26 (iv z3)) 46 (iv z4)) 49 (iv z5)) 19 (iv mt)) 18 (iv pl))), (hQ, ar 30 Q1), (hR, ar 30 R1), (hB, ar 6 B1), (hE, ar 6 E1)]) (by simp only [List.set]; rw [uF_mv (j := 18) (k := 21) (by decide), uF_mv (j := 19) (k := 21) (by decide), uF_mv (j := 49) (k := 21) (by decide), uF_mv (j := 46) (k := 21) (by decide), uF_mv (j := 26) (k := 21) (by decide), uF_mv (j := 32) (k := 21) (by decide), uF_mv (j := 25) (k := 21) (by decide), uF_mv (j := 22) (k := 21) (by decide), uF_same (k := 21)]) ?_
  refine S_aload_n X dX12_takeTown_8 rfl rfl ?_
  refine S_aload_n X dX12_takeTown_9 rfl rfl ?_
  refine S_get (v := iv mt) X fgX12_237_11 0 rfl rfl dX12_takeTown_10 ?_
  refine S_put X fpX12_256_11 0 rfl FT_i dX12_takeTown_13 ?_
  refine S_w (ws' := [(h0, ob 11 (uF (uF (uF (uF (uF (uF (uF (uF (uF f 21 (iv pl)) 22 (iv mt)) 25 (iv z1)) 32 (iv z2)) 26 (iv z3)) 46 (iv z4)) 49 (iv z5)) 19 (iv mt)) 18 (iv pl))), (hQ, ar 30 Q1), (hR, ar 30 R1), (hB, ar 6 B1), (hE, ar 6 E1)]) (by simp only [List.set]; rw [uF_mv (j := 18) (k := 22) (by decide), uF_mv (j := 19) (k := 22) (by decide), uF_mv (j := 49) (k := 22) (by decide), uF_mv (j := 46) (k := 22) (by decide), uF_mv (j := 26) (k := 22) (by decide), uF_mv (j := 32) (k := 22) (by decide), uF_mv (j := 25) (k := 22) (by decide), uF_same (k := 22)]) ?_
  refine S_iconst X dX12_takeTown_16 ?_
  refine S_istore_n X dX12_takeTown_17 rfl (nle rfl) ?_
  have lp18_0 : ∀ (N : Nat) (i : Int) (Qv : Int → Int) (L : Nat → Option AV), 0 ≤ i ∧ i ≤ 30 → (∀ x, 0 ≤ x → x < i → Qv x = R1 x) → L 0 = some (rv h0) → L 1 = some (iv i) → 31 - i < (N : Int) → S_ p l e (rmD 0 0 0) s m args below meth c (MQ below (QcI D G A Po) args s 0 0 A) D G A 2 0 0 18 L [] [(h0, ob 11 (uF (uF (uF (uF (uF (uF (uF (uF (uF f 21 (iv pl)) 22 (iv mt)) 25 (iv z1)) 32 (iv z2)) 26 (iv z3)) 46 (iv z4)) 49 (iv z5)) 19 (iv mt)) 18 (iv pl))), (hQ, ar 30 Qv), (hR, ar 30 R1), (hB, ar 6 B1), (hE, ar 6 E1)] := by
    intro N
    induction N with
    | zero =>
      intro i Qv L18 hi hk hL18_0 hL18_1 hN18
      exfalso; omega
    | succ N ih18 =>
      intro i Qv L18 hi hk hL18_0 hL18_1 hN18
      refine S_iload_n X dX12_takeTown_18 rfl hL18_1 ?_
      refine S_bipush X dX12_takeTown_19 rfl ?_
      refine S_icmp_ge (tgt := 42) X dX12_takeTown_21 (by decide) (by omega) (by decide) (fun c_1 => ?_) (fun c_1 => ?_)
      ·
        refine S_iconst X dX12_takeTown_42 ?_
        refine S_istore_n X dX12_takeTown_43 rfl (nle rfl) ?_
        have lp44_3 : ∀ (N : Nat) (j : Int) (Bv : Int → Int) (Ev : Int → Int) (L : Nat → Option AV), 0 ≤ j ∧ j ≤ 6 → (∀ x, 0 ≤ x → x < j → Bv x = R1 (5 * x)) → (∀ x, 0 ≤ x → x < j → Ev x = 0) → L 0 = some (rv h0) → L 1 = some (iv j) → 7 - j < (N : Int) → S_ p l e (rmD 0 0 0) s m args below meth c (MQ below (QcI D G A Po) args s 0 0 A) D G A 2 0 0 44 L [] [(h0, ob 11 (uF (uF (uF (uF (uF (uF (uF (uF (uF f 21 (iv pl)) 22 (iv mt)) 25 (iv z1)) 32 (iv z2)) 26 (iv z3)) 46 (iv z4)) 49 (iv z5)) 19 (iv mt)) 18 (iv pl))), (hQ, ar 30 Qv), (hR, ar 30 R1), (hB, ar 6 Bv), (hE, ar 6 Ev)] := by
          intro N
          induction N with
          | zero =>
            intro j Bv Ev L44 hj hkb hke hL44_0 hL44_1 hN44
            exfalso; omega
          | succ N ih44 =>
            intro j Bv Ev L44 hj hkb hke hL44_0 hL44_1 hN44
            refine S_iload_n X dX12_takeTown_44 rfl hL44_1 ?_
            refine S_bipush X dX12_takeTown_45 rfl ?_
            refine S_icmp_ge (tgt := 79) X dX12_takeTown_47 (by decide) (by omega) (by decide) (fun c_2 => ?_) (fun c_2 => ?_)
            ·
              refine S_aload_n X dX12_takeTown_79 rfl hL44_0 ?_
              refine S_iconst X dX12_takeTown_80 ?_
              refine S_put X fpX12_259_11 0 rfl FT_i dX12_takeTown_81 ?_
              refine S_w (ws' := [(h0, ob 11 (uF (uF (uF (uF (uF (uF (uF (uF (uF f 21 (iv pl)) 22 (iv mt)) 25 (iv 0)) 32 (iv z2)) 26 (iv z3)) 46 (iv z4)) 49 (iv z5)) 19 (iv mt)) 18 (iv pl))), (hQ, ar 30 Qv), (hR, ar 30 R1), (hB, ar 6 Bv), (hE, ar 6 Ev)]) (by simp only [List.set]; rw [uF_mv (j := 18) (k := 25) (by decide), uF_mv (j := 19) (k := 25) (by decide), uF_mv (j := 49) (k := 25) (by decide), uF_mv (j := 46) (k := 25) (by decide), uF_mv (j := 26) (k := 25) (by decide), uF_mv (j := 32) (k := 25) (by decide), uF_same (k := 25)]) ?_
              refine S_aload_n X dX12_takeTown_84 rfl hL44_0 ?_
              refine S_iconst X dX12_takeTown_85 ?_
              refine S_put X fpX12_262_11 0 rfl FT_i dX12_takeTown_86 ?_
              refine S_w (ws' := [(h0, ob 11 (uF (uF (uF (uF (uF (uF (uF (uF (uF f 21 (iv pl)) 22 (iv mt)) 25 (iv 0)) 32 (iv 0)) 26 (iv z3)) 46 (iv z4)) 49 (iv z5)) 19 (iv mt)) 18 (iv pl))), (hQ, ar 30 Qv), (hR, ar 30 R1), (hB, ar 6 Bv), (hE, ar 6 Ev)]) (by simp only [List.set]; rw [uF_mv (j := 18) (k := 32) (by decide), uF_mv (j := 19) (k := 32) (by decide), uF_mv (j := 49) (k := 32) (by decide), uF_mv (j := 46) (k := 32) (by decide), uF_mv (j := 26) (k := 32) (by decide), uF_same (k := 32)]) ?_
              refine S_aload_n X dX12_takeTown_89 rfl hL44_0 ?_
              refine S_iconst X dX12_takeTown_90 ?_
              refine S_put X fpX12_265_11 0 rfl FT_i dX12_takeTown_91 ?_
              refine S_w (ws' := [(h0, ob 11 (uF (uF (uF (uF (uF (uF (uF (uF (uF f 21 (iv pl)) 22 (iv mt)) 25 (iv 0)) 32 (iv 0)) 26 (iv 0)) 46 (iv z4)) 49 (iv z5)) 19 (iv mt)) 18 (iv pl))), (hQ, ar 30 Qv), (hR, ar 30 R1), (hB, ar 6 Bv), (hE, ar 6 Ev)]) (by simp only [List.set]; rw [uF_mv (j := 18) (k := 26) (by decide), uF_mv (j := 19) (k := 26) (by decide), uF_mv (j := 49) (k := 26) (by decide), uF_mv (j := 46) (k := 26) (by decide), uF_same (k := 26)]) ?_
              refine S_aload_n X dX12_takeTown_94 rfl hL44_0 ?_
              refine S_iconst X dX12_takeTown_95 ?_
              refine S_put X fpX12_268_11 0 rfl FT_i dX12_takeTown_96 ?_
              refine S_w (ws' := [(h0, ob 11 (uF (uF (uF (uF (uF (uF (uF (uF (uF f 21 (iv pl)) 22 (iv mt)) 25 (iv 0)) 32 (iv 0)) 26 (iv 0)) 46 (iv 0)) 49 (iv z5)) 19 (iv mt)) 18 (iv pl))), (hQ, ar 30 Qv), (hR, ar 30 R1), (hB, ar 6 Bv), (hE, ar 6 Ev)]) (by simp only [List.set]; rw [uF_mv (j := 18) (k := 46) (by decide), uF_mv (j := 19) (k := 46) (by decide), uF_mv (j := 49) (k := 46) (by decide), uF_same (k := 46)]) ?_
              refine S_aload_n X dX12_takeTown_99 rfl hL44_0 ?_
              refine S_iconst X dX12_takeTown_100 ?_
              refine S_put X fpX12_271_11 0 rfl (FT_b (Or.inl rfl)) dX12_takeTown_101 ?_
              refine S_w (ws' := [(h0, ob 11 (uF (uF (uF (uF (uF (uF (uF (uF (uF f 21 (iv pl)) 22 (iv mt)) 25 (iv 0)) 32 (iv 0)) 26 (iv 0)) 46 (iv 0)) 49 (iv 0)) 19 (iv mt)) 18 (iv pl))), (hQ, ar 30 Qv), (hR, ar 30 R1), (hB, ar 6 Bv), (hE, ar 6 Ev)]) (by simp only [List.set]; rw [uF_mv (j := 18) (k := 49) (by decide), uF_mv (j := 19) (k := 49) (by decide), uF_same (k := 49)]) ?_
              refine S_aload_n X dX12_takeTown_104 rfl hL44_0 ?_
              refine S_get (v := iv pl) X fgX12_253_11 0 rfl rfl dX12_takeTown_105 ?_
              exact S_iret X (nle rfl) (nle rfl) dX12_takeTown_108 (hPo _ _ (⟨_, _, _, rfl, rfl, fun x h0 h1 => hk x h0 (by omega), fun x h0 h1 => hkb x h0 (by omega), fun x h0 h1 => hke x h0 (by omega)⟩))
            ·
              refine S_aload_n X dX12_takeTown_50 rfl hL44_0 ?_
              refine S_get X fgX12_46_11 0 rfl hf2 dX12_takeTown_51 ?_
              refine S_iload_n X dX12_takeTown_54 rfl hL44_1 ?_
              refine S_aload_n X dX12_takeTown_55 rfl hL44_0 ?_
              refine S_get X fgX12_43_11 0 rfl hf0 dX12_takeTown_56 ?_
              refine S_iconst X dX12_takeTown_59 ?_
              refine S_iload_n X dX12_takeTown_60 rfl hL44_1 ?_
              refine S_imul X dX12_takeTown_61 ?_
              refine S_iconst X dX12_takeTown_62 ?_
              refine S_iadd X dX12_takeTown_63 ?_
              refine S_iald X 1 rfl (by omega) (by omega) (nle rfl) dX12_takeTown_64 ?_
              refine S_iast X 3 rfl (by omega) (by omega) (nle rfl) dX12_takeTown_65 ?_
              refine S_w (ws' := [(h0, ob 11 (uF (uF (uF (uF (uF (uF (uF (uF (uF f 21 (iv pl)) 22 (iv mt)) 25 (iv z1)) 32 (iv z2)) 26 (iv z3)) 46 (iv z4)) 49 (iv z5)) 19 (iv mt)) 18 (iv pl))), (hQ, ar 30 Qv), (hR, ar 30 R1), (hB, ar 6 (uZ Bv j (Qv ((5 * j) + 0)))), (hE, ar 6 Ev)]) rfl ?_
              refine S_aload_n X dX12_takeTown_66 rfl hL44_0 ?_
              refine S_get X fgX12_49_11 0 rfl hf3 dX12_takeTown_67 ?_
              refine S_iload_n X dX12_takeTown_70 rfl hL44_1 ?_
              refine S_iconst X dX12_takeTown_71 ?_
              refine S_iast X 4 rfl (by omega) (by omega) (nle rfl) dX12_takeTown_72 ?_
              refine S_w (ws' := [(h0, ob 11 (uF (uF (uF (uF (uF (uF (uF (uF (uF f 21 (iv pl)) 22 (iv mt)) 25 (iv z1)) 32 (iv z2)) 26 (iv z3)) 46 (iv z4)) 49 (iv z5)) 19 (iv mt)) 18 (iv pl))), (hQ, ar 30 Qv), (hR, ar 30 R1), (hB, ar 6 (uZ Bv j (Qv ((5 * j) + 0)))), (hE, ar 6 (uZ Ev j 0))]) rfl ?_
              refine S_iinc X dX12_takeTown_73 (nle rfl) hL44_1 ?_
              refine S_goto (tgt := 44) X dX12_takeTown_76 (by decide) ?_
              exact ih44 (j + 1) (uZ Bv j (Qv ((5 * j) + 0))) (uZ Ev j 0) _ (by omega) (fun x h0 h1 => (by omega : x < j ∨ x = j).elim (fun q9 => by rw [uZ_ne (by omega)]; exact hkb x h0 q9) (fun q9 => by rw [q9]; exact uZ_at.trans ((hk _ (by omega) (by omega)).trans (by rw [Int.add_zero])))) (fun x h0 h1 => (by omega : x < j ∨ x = j).elim (fun q9 => by rw [uZ_ne (by omega)]; exact hke x h0 q9) (fun q9 => by rw [q9]; exact uZ_at)) hL44_0 rfl (by omega)
        exact lp44_3 (Int.toNat (7 - 0) + 1) 0 B1 E1 _ (by omega) (fun x h0 h1 => by omega) (fun x h0 h1 => by omega) hL18_0 rfl (by omega)
      ·
        refine S_aload_n X dX12_takeTown_24 rfl hL18_0 ?_
        refine S_get X fgX12_43_11 0 rfl hf0 dX12_takeTown_25 ?_
        refine S_iload_n X dX12_takeTown_28 rfl hL18_1 ?_
        refine S_aload_n X dX12_takeTown_29 rfl hL18_0 ?_
        refine S_get X fgX12_40_11 0 rfl hf1 dX12_takeTown_30 ?_
        refine S_iload_n X dX12_takeTown_33 rfl hL18_1 ?_
        refine S_iald X 2 rfl (by omega) (by omega) (nle rfl) dX12_takeTown_34 ?_
        refine S_iast X 1 rfl (by omega) (by omega) (nle rfl) dX12_takeTown_35 ?_
        refine S_w (ws' := [(h0, ob 11 (uF (uF (uF (uF (uF (uF (uF (uF (uF f 21 (iv pl)) 22 (iv mt)) 25 (iv z1)) 32 (iv z2)) 26 (iv z3)) 46 (iv z4)) 49 (iv z5)) 19 (iv mt)) 18 (iv pl))), (hQ, ar 30 (uZ Qv i (R1 i))), (hR, ar 30 R1), (hB, ar 6 B1), (hE, ar 6 E1)]) rfl ?_
        refine S_iinc X dX12_takeTown_36 (nle rfl) hL18_1 ?_
        refine S_goto (tgt := 18) X dX12_takeTown_39 (by decide) ?_
        exact ih18 (i + 1) (uZ Qv i (R1 i)) _ (by omega) (fun x h0 h1 => (by omega : x < i ∨ x = i).elim (fun q9 => by rw [uZ_ne (by omega)]; exact hk x h0 q9) (fun q9 => by rw [q9]; exact uZ_at)) hL18_0 rfl (by omega)
  exact lp18_0 (Int.toNat (31 - 0) + 1) 0 Q1 _ (by omega) (fun x h0 h1 => by omega) rfl rfl (by omega)
end pt_31ref11
/- 32.ref12.lean.txt -/
section pt_32ref12
set_option maxHeartbeats 4000000 in
set_option maxRecDepth 100000 in
theorem kX12_fault (l : Launch) (h0 : Nat) (hT : Nat) (f : Nat → AV) (T : Int → Int) (n : Int) (hC : Nat) (hV : Nat) (hN : Nat) (C : Int → Int) (V : Int → Int) (Nk : Int → Int) (hL : Nat) (hTf : Nat) (hSf : Nat) (hEf : Nat) (Lk : Int → Int) (Tf : Int → Int) (Sf : Int → Int) (Ef : Int → Int) (t0 : Int) (a : Int) (w : Int) (dp : Int) (m0 : Int) (p0 : Int) (hR : Nat) (R1 : Int → Int) (R0 : Int → Int → Int) (so : Int) (hf0 : f 1 = rv hT) (hf1 : f 2 = iv n) (hf2 : f 6 = rv hC) (hf3 : f 7 = rv hV) (hf4 : f 8 = rv hN) (hf5 : f 9 = rv hL) (hf6 : f 10 = rv hTf) (hf7 : f 11 = rv hSf) (hf8 : f 12 = rv hEf) (hf9 : f 17 = rv hR) (okT : okT T n) (hso : inR so) : AMi l yX12_fault cX12_fault 2 .int 41 0 0 [rv h0, iv so] [(h0, ob 11 (uF (uF (uF (uF (uF (uF f 19 (iv m0)) 18 (iv p0)) 14 (iv t0)) 3 (iv a)) 4 (iv w)) 5 (iv dp))), (hT, ar 160 T), (hR, ar 30 R1), (hC, ar 1700 C), (hV, ar 1700 V), (hN, ar 5 Nk), (hL, ar 5 Lk), (hTf, ar 450 Tf), (hSf, ar 450 Sf), (hEf, ar 450 Ef)] (fun z u => (∃ a2 : Int, ∃ fl : Int, ∃ p2 : Int, ∃ m2 : Int, ∃ R2 : Int → Int, z = fl ∧ u = [(h0, ob 11 (uF (uF (uF (uF (uF (uF f 19 (iv m2)) 18 (iv p2)) 14 (iv t0)) 3 (iv a2)) 4 (iv fl)) 5 (iv dp))), (hT, ar 160 T), (hR, ar 30 R2), (hC, ar 1700 C), (hV, ar 1700 V), (hN, ar 5 Nk), (hL, ar 5 Lk), (hTf, ar 450 Tf), (hSf, ar 450 Sf), (hEf, ar 450 Ef)] ∧ so = 0 ∧ tnRes T n R0 = .inl fl ∧ (0 ≤ fl ∧ fl ≤ n)) ∨ (∃ a2 : Int, ∃ p2 : Int, ∃ m2 : Int, ∃ x2 : Int, ∃ R2 : Int → Int, ∃ Rc : Int → Int → Int, z = -1 ∧ u = [(h0, ob 11 (uF (uF (uF (uF (uF (uF f 19 (iv m2)) 18 (iv p2)) 14 (iv t0)) 3 (iv a2)) 4 (iv (-1))) 5 (iv dp))), (hT, ar 160 T), (hR, ar 30 R2), (hC, ar 1700 C), (hV, ar 1700 V), (hN, ar 5 Nk), (hL, ar 5 Lk), (hTf, ar 450 Tf), (hSf, ar 450 Sf), (hEf, ar 450 Ef)] ∧ so = 0 ∧ tnRes T n R0 = .inr (p2, m2, x2, Rc) ∧ flat p2 R2 Rc ∧ okTS (p2, m2, x2, Rc)) ∨ (∃ a2 : Int, ∃ fl : Int, ∃ k2 : Int, ∃ dp2 : Int, ∃ j2 : Int, ∃ w2 : Int, ∃ C2 : Int → Int, ∃ V2 : Int → Int, ∃ Tf2 : Int → Int, ∃ Sf2 : Int → Int, ∃ Ef2 : Int → Int, z = fl ∧ u = [(h0, ob 11 (uF (uF (uF (uF (uF (uF f 19 (iv m0)) 18 (iv p0)) 14 (iv 4)) 3 (iv a2)) 4 (iv w2)) 5 (iv dp2))), (hT, ar 160 T), (hR, ar 30 R1), (hC, ar 1700 C2), (hV, ar 1700 V2), (hN, ar 5 (uZ Nk 4 k2)), (hL, ar 5 (uZ Lk 4 j2)), (hTf, ar 450 Tf2), (hSf, ar 450 Sf2), (hEf, ar 450 Ef2)] ∧ so = 1 ∧ pLawLS T n 161 0 [] = .inl fl ∧ (0 ≤ fl ∧ fl ≤ n) ∧ frm 4 C C2 ∧ frm 4 V V2 ∧ frp 4 Tf Tf2 ∧ frp 4 Sf Sf2 ∧ frp 4 Ef Ef2) ∨ (∃ a2 : Int, ∃ cs : List (List Int × List Int), z = -1 ∧ u = [(h0, ob 11 (uF (uF (uF (uF (uF (uF f 19 (iv m0)) 18 (iv p0)) 14 (iv 4)) 3 (iv a2)) 4 (iv (-1))) 5 (iv 0))), (hT, ar 160 T), (hR, ar 30 R1), (hC, ar 1700 (wrL C (340 * 4 + 0) (List.map kC (codesOf cs)))), (hV, ar 1700 (wrL V (340 * 4 + 0) (List.map kV (codesOf cs)))), (hN, ar 5 (uZ Nk 4 (0 + ((codesOf cs).length : Int)))), (hL, ar 5 (uZ Lk 4 (0 + ((cs).length : Int)))), (hTf, ar 450 (wrL Tf (90 * 4 + 0) (tfOf 0 cs))), (hSf, ar 450 (wrL Sf (90 * 4 + 0) (sfOf 0 cs))), (hEf, ar 450 (wrL Ef (90 * 4 + 0) (stOf 0 cs)))] ∧ so = 1 ∧ pLawLS T n 161 0 [] = .inr cs ∧ (((codesOf cs).length : Int) ≤ 160 ∧ 2 * (cs.length : Int) ≤ 160)) ∨ (z = -2 ∧ u = [(h0, ob 11 (uF (uF (uF (uF (uF (uF f 19 (iv m0)) 18 (iv p0)) 14 (iv t0)) 3 (iv a)) 4 (iv w)) 5 (iv dp))), (hT, ar 160 T), (hR, ar 30 R1), (hC, ar 1700 C), (hV, ar 1700 V), (hN, ar 5 Nk), (hL, ar 5 Lk), (hTf, ar 450 Tf), (hSf, ar 450 Sf), (hEf, ar 450 Ef)] ∧ (¬ so = 0 ∧ ¬ so = 1))) := by
  refine AMi.of2 rfl (nle rfl) ?_
  intro D G A p e s m args below meth c Po hPo X
  refine S_iload_n X dX12_fault_0 rfl rfl ?_
  refine S_if_ne (tgt := 11) X dX12_fault_1 (by decide) (by omega) (fun c_1 => ?_) (fun c_1 => ?_)
  ·
    refine S_iload_n X dX12_fault_11 rfl rfl ?_
    refine S_iconst X dX12_fault_12 ?_
    refine S_icmp_ne (tgt := 24) X dX12_fault_13 (by decide) (by omega) (by decide) (fun c_2 => ?_) (fun c_2 => ?_)
    ·
      refine S_bipush X dX12_fault_24 rfl ?_
      exact S_iret X (nle rfl) (nle rfl) dX12_fault_26 (hPo _ _ (Or.inr (Or.inr (Or.inr (Or.inr ⟨rfl, rfl, by omega⟩)))))
    ·
      refine S_aload_n X dX12_fault_16 rfl rfl ?_
      refine S_iconst X dX12_fault_17 ?_
      refine S_calli X (kX12_readLaw l h0 hT (uF (uF f 19 (iv m0)) 18 (iv p0)) T n hC hV hN C V Nk 4 hL hTf hSf hEf Lk Tf Sf Ef t0 a w dp hf0 hf1 hf2 hf3 hf4 hf5 hf6 hf7 hf8 (by omega) (by omega)) (is := [0, 1, 3, 4, 5, 6, 7, 8, 9]) rfl (run_V X lkX12_250 0 rfl rfl (is := [0, 1, 3, 4, 5, 6, 7, 8, 9]) (avs := [iv 4]) (rest := []) rfl rfl (nle rfl) ⟨nle rfl, nle rfl⟩ ⟨nle rfl, nle rfl⟩ dX12_fault_18 (by decide) rfl) (fun z_5 u_3 hp_4 => ?_)
      rcases hp_4 with ⟨a2_6, fl_7, k2_8, dp2_9, j2_10, w2_11, C2_12, V2_13, Tf2_14, Sf2_15, Ef2_16, hz_17, hu_18, hq_19, hfl_20, hfC_21, hfV_22, hfT_23, hfS_24, hfE_25⟩ | ⟨a2_26, cs_27, hz_28, hu_29, hq_30, hl_31⟩
      ·
        subst hz_17
        subst hu_18
        refine ⟨rfl, ?_⟩
        refine S_w (ws' := [(h0, ob 11 (uF (uF (uF (uF (uF (uF f 19 (iv m0)) 18 (iv p0)) 14 (iv 4)) 3 (iv a2_6)) 4 (iv w2_11)) 5 (iv dp2_9))), (hT, ar 160 T), (hR, ar 30 R1), (hC, ar 1700 C2_12), (hV, ar 1700 V2_13), (hN, ar 5 (uZ Nk 4 k2_8)), (hL, ar 5 (uZ Lk 4 j2_10)), (hTf, ar 450 Tf2_14), (hSf, ar 450 Sf2_15), (hEf, ar 450 Ef2_16)]) rfl ?_
        refine S_goto (tgt := 26) X dX12_fault_21 (by decide) ?_
        exact S_iret X (nle rfl) (nle rfl) dX12_fault_26 (hPo _ _ (Or.inr (Or.inr (Or.inl ⟨_, _, _, _, _, _, _, _, _, _, _, rfl, rfl, by omega, hq_19, hfl_20, hfC_21, hfV_22, hfT_23, hfS_24, hfE_25⟩))))
      ·
        subst hz_28
        subst hu_29
        refine ⟨rfl, ?_⟩
        refine S_w (ws' := [(h0, ob 11 (uF (uF (uF (uF (uF (uF f 19 (iv m0)) 18 (iv p0)) 14 (iv 4)) 3 (iv a2_26)) 4 (iv (-1))) 5 (iv 0))), (hT, ar 160 T), (hR, ar 30 R1), (hC, ar 1700 (wrL C (340 * 4 + 0) (List.map kC (codesOf cs_27)))), (hV, ar 1700 (wrL V (340 * 4 + 0) (List.map kV (codesOf cs_27)))), (hN, ar 5 (uZ Nk 4 (0 + ((codesOf cs_27).length : Int)))), (hL, ar 5 (uZ Lk 4 (0 + ((cs_27).length : Int)))), (hTf, ar 450 (wrL Tf (90 * 4 + 0) (tfOf 0 cs_27))), (hSf, ar 450 (wrL Sf (90 * 4 + 0) (sfOf 0 cs_27))), (hEf, ar 450 (wrL Ef (90 * 4 + 0) (stOf 0 cs_27)))]) rfl ?_
        refine S_goto (tgt := 26) X dX12_fault_21 (by decide) ?_
        exact S_iret X (nle rfl) (nle rfl) dX12_fault_26 (hPo _ _ (Or.inr (Or.inr (Or.inr (Or.inl ⟨_, _, rfl, rfl, by omega, hq_30, hl_31⟩)))))
  ·
    refine S_aload_n X dX12_fault_4 rfl rfl ?_
    refine S_calli X (kX12_readTown l h0 hT f T n a w dp t0 m0 p0 hR R1 R0 hf0 hf1 hf9 (by omega)) (is := [0, 1, 2]) rfl (run_V X lkX12_247 0 rfl rfl (is := [0, 1, 2]) (avs := []) (rest := []) rfl rfl (nle rfl) ⟨nle rfl, nle rfl⟩ ⟨nle rfl, nle rfl⟩ dX12_fault_5 (by decide) rfl) (fun z_34 u_32 hp_33 => ?_)
    rcases hp_33 with ⟨a2_35, fl_36, p2_37, m2_38, R2_39, hz_40, hu_41, hq_42, hr_43⟩ | ⟨a2_44, p2_45, m2_46, x2_47, R2_48, Rc_49, hz_50, hu_51, hq_52, hfl_53, hs_54⟩
    ·
      subst hz_40
      subst hu_41
      refine ⟨rfl, ?_⟩
      refine S_w (ws' := [(h0, ob 11 (uF (uF (uF (uF (uF (uF f 19 (iv m2_38)) 18 (iv p2_37)) 14 (iv t0)) 3 (iv a2_35)) 4 (iv z_34)) 5 (iv dp))), (hT, ar 160 T), (hR, ar 30 R2_39), (hC, ar 1700 C), (hV, ar 1700 V), (hN, ar 5 Nk), (hL, ar 5 Lk), (hTf, ar 450 Tf), (hSf, ar 450 Sf), (hEf, ar 450 Ef)]) rfl ?_
      refine S_goto (tgt := 26) X dX12_fault_8 (by decide) ?_
      exact S_iret X (nle rfl) (nle rfl) dX12_fault_26 (hPo _ _ (Or.inl ⟨_, _, _, _, _, rfl, rfl, by omega, hq_42, hr_43⟩))
    ·
      subst hz_50
      subst hu_51
      refine ⟨rfl, ?_⟩
      refine S_w (ws' := [(h0, ob 11 (uF (uF (uF (uF (uF (uF f 19 (iv m2_46)) 18 (iv p2_45)) 14 (iv t0)) 3 (iv a2_44)) 4 (iv (-1))) 5 (iv dp))), (hT, ar 160 T), (hR, ar 30 R2_48), (hC, ar 1700 C), (hV, ar 1700 V), (hN, ar 5 Nk), (hL, ar 5 Lk), (hTf, ar 450 Tf), (hSf, ar 450 Sf), (hEf, ar 450 Ef)]) rfl ?_
      refine S_goto (tgt := 26) X dX12_fault_8 (by decide) ?_
      exact S_iret X (nle rfl) (nle rfl) dX12_fault_26 (hPo _ _ (Or.inr (Or.inl ⟨_, _, _, _, _, _, rfl, rfl, by omega, hq_52, hfl_53, hs_54⟩)))
end pt_32ref12
/- 33.ref13.lean.txt -/
section pt_33ref13
set_option maxHeartbeats 4000000 in
set_option maxRecDepth 100000 in
theorem kX12_end (l : Launch) (h0 : Nat) (f : Nat → AV) (n : Int) (k : Int) (hn : 0 ≤ n ∧ n ≤ 160) (hk : inR k) : AMi l yX12_end cX12_end 2 .boolean 0 0 0 [rv h0, iv k] [(h0, ob 11 (uF f 2 (iv n)))] (fun z u => (z = 0 ∧ u = [(h0, ob 11 (uF f 2 (iv n)))] ∧ (¬ (0 ≤ k ∧ k ≤ n))) ∨ (z = 1 ∧ u = [(h0, ob 11 (uF f 2 (iv k)))] ∧ (0 ≤ k ∧ k ≤ n))) := by
  refine AMi.of2 rfl (nle rfl) ?_
  intro D G A p e s m args below meth c Po hPo X
  refine S_iload_n X dX12_end_0 rfl rfl ?_
  refine S_if_lt (tgt := 12) X dX12_end_1 (by decide) (by omega) (fun c_1 => ?_) (fun c_1 => ?_)
  ·
    refine S_iconst X dX12_end_12 ?_
    exact S_zret X (Or.inl rfl) (nle rfl) (nle rfl) dX12_end_13 (hPo _ _ (Or.inl (⟨by first | rfl | omega, rfl, by first | rfl | assumption | omega⟩)))
  ·
    refine S_iload_n X dX12_end_4 rfl rfl ?_
    refine S_aload_n X dX12_end_5 rfl rfl ?_
    refine S_get (v := iv n) X fgX12_108_11 0 rfl rfl dX12_end_6 ?_
    refine S_icmp_le (tgt := 14) X dX12_end_9 (by decide) (by omega) (by omega) (fun c_2 => ?_) (fun c_2 => ?_)
    ·
      refine S_aload_n X dX12_end_14 rfl rfl ?_
      refine S_iload_n X dX12_end_15 rfl rfl ?_
      refine S_put X fpX12_108_11 0 rfl FT_i dX12_end_16 ?_
      refine S_w (ws' := [(h0, ob 11 (uF f 2 (iv k)))]) (by simp only [List.set]; rw [uF_same (k := 2)]) ?_
      refine S_iconst X dX12_end_19 ?_
      exact S_zret X (Or.inr rfl) (nle rfl) (nle rfl) dX12_end_20 (hPo _ _ (Or.inr (⟨by first | rfl | omega, rfl, by first | rfl | assumption | omega⟩)))
    ·
      refine S_iconst X dX12_end_12 ?_
      exact S_zret X (Or.inl rfl) (nle rfl) (nle rfl) dX12_end_13 (hPo _ _ (Or.inl (⟨by first | rfl | omega, rfl, by first | rfl | assumption | omega⟩)))
end pt_33ref13
/- 34.spec.lean.txt -/
section pt_34spec
/-! THE PIECE: least, greatest, first greatest of a row; BEATS, TIMES, SPREADS, WORST as functions -/
def mxN (g : Int → Int) : Nat → Int
  | 0 => 0
  | n + 1 => max (mxN g n) (g n)
def mnN (g : Int → Int) : Nat → Int
  | 0 => 1000000000
  | n + 1 => min (mnN g n) (g n)
def amN (g : Int → Int) : Nat → Int
  | 0 => 0
  | n + 1 => if g (amN g n) < g n then (n : Int) else amN g n
def fsN (g : Int → Int) (lim : Int) : Nat → Int
  | 0 => -1
  | n + 1 => if fsN g lim n = -1 ∧ lim < g n then (n : Int) else fsN g lim n
def smN (g : Int → Int) : Nat → Int
  | 0 => 0
  | n + 1 => smN g n + g n
def mxI (g : Int → Int) (p : Int) : Int := mxN g p.toNat
def mnI (g : Int → Int) (p : Int) : Int := mnN g p.toNat
def amI (g : Int → Int) (p : Int) : Int := amN g p.toNat
def fsI (g : Int → Int) (lim p : Int) : Int := fsN g lim p.toNat
def smI (g : Int → Int) (p : Int) : Int := smN g p.toNat
theorem toNat_S {p : Int} (h : 0 ≤ p) : (p + 1).toNat = p.toNat + 1 := by omega
theorem toNat_c {p : Int} (h : 0 ≤ p) : ((p.toNat : Nat) : Int) = p := by omega
theorem mxI_0 {g : Int → Int} : mxI g 0 = 0 := rfl
theorem mnI_0 {g : Int → Int} : mnI g 0 = 1000000000 := rfl
theorem amI_0 {g : Int → Int} : amI g 0 = 0 := rfl
theorem fsI_0 {g : Int → Int} {lim : Int} : fsI g lim 0 = -1 := rfl
theorem smI_0 {g : Int → Int} : smI g 0 = 0 := rfl
theorem mxI_S {g : Int → Int} {p : Int} (h : 0 ≤ p) : mxI g (p + 1) = max (mxI g p) (g p) := by
  unfold mxI
  rw [toNat_S h, mxN, toNat_c h]
theorem mnI_S {g : Int → Int} {p : Int} (h : 0 ≤ p) : mnI g (p + 1) = min (mnI g p) (g p) := by
  unfold mnI
  rw [toNat_S h, mnN, toNat_c h]
theorem amI_S {g : Int → Int} {p : Int} (h : 0 ≤ p) : amI g (p + 1) = if g (amI g p) < g p then p else amI g p := by
  unfold amI
  rw [toNat_S h, amN, toNat_c h]
theorem fsI_S {g : Int → Int} {lim p : Int} (h : 0 ≤ p) : fsI g lim (p + 1) = if fsI g lim p = -1 ∧ lim < g p then p else fsI g lim p := by
  unfold fsI
  rw [toNat_S h, fsN, toNat_c h]
theorem smI_S {g : Int → Int} {p : Int} (h : 0 ≤ p) : smI g (p + 1) = smI g p + g p := by
  unfold smI
  rw [toNat_S h, smN, toNat_c h]
theorem amI_1 {g : Int → Int} : amI g 1 = 0 := by
  have h := amI_S (g := g) (p := 0) (Int.le_refl _)
  rw [amI_0] at h
  simpa using h
/-- induction over whole numbers from 0 -/
theorem upI {P : Int → Prop} (h0 : P 0) (hS : ∀ p, 0 ≤ p → P p → P (p + 1)) : ∀ p, 0 ≤ p → P p := by
  intro p hp
  have key : ∀ n : Nat, P (n : Int) := by
    intro n
    induction n with
    | zero => exact h0
    | succ n ih =>
      have := hS (n : Int) (by omega) ih
      rwa [show ((n + 1 : Nat) : Int) = (n : Int) + 1 by omega]
  have := key p.toNat
  rwa [toNat_c hp] at this
theorem mxI_c {g f : Int → Int} : ∀ p, 0 ≤ p → (∀ y, 0 ≤ y → y < p → g y = f y) → mxI g p = mxI f p := by
  refine upI (fun _ => rfl) (fun p hp ih h => ?_)
  rw [mxI_S hp, mxI_S hp, ih (fun y h0 h1 => h y h0 (by omega)), h p hp (by omega)]
theorem mnI_c {g f : Int → Int} : ∀ p, 0 ≤ p → (∀ y, 0 ≤ y → y < p → g y = f y) → mnI g p = mnI f p := by
  refine upI (fun _ => rfl) (fun p hp ih h => ?_)
  rw [mnI_S hp, mnI_S hp, ih (fun y h0 h1 => h y h0 (by omega)), h p hp (by omega)]
theorem smI_c {g f : Int → Int} : ∀ p, 0 ≤ p → (∀ y, 0 ≤ y → y < p → g y = f y) → smI g p = smI f p := by
  refine upI (fun _ => rfl) (fun p hp ih h => ?_)
  rw [smI_S hp, smI_S hp, ih (fun y h0 h1 => h y h0 (by omega)), h p hp (by omega)]
theorem fsI_c {g f : Int → Int} {lim : Int} : ∀ p, 0 ≤ p → (∀ y, 0 ≤ y → y < p → g y = f y) → fsI g lim p = fsI f lim p := by
  refine upI (fun _ => rfl) (fun p hp ih h => ?_)
  rw [fsI_S hp, fsI_S hp, ih (fun y h0 h1 => h y h0 (by omega)), h p hp (by omega)]
theorem amI_in {g : Int → Int} : ∀ p, 0 ≤ p → 0 ≤ amI g p ∧ (amI g p < p ∨ amI g p = 0) := by
  refine upI ⟨Int.le_refl _, Or.inr rfl⟩ (fun p hp ih => ?_)
  rw [amI_S hp]
  split <;> omega
theorem amI_lt {g : Int → Int} {p : Int} (h : 1 ≤ p) : 0 ≤ amI g p ∧ amI g p < p := by
  have := amI_in (g := g) p (by omega)
  omega
theorem amI_c {g f : Int → Int} : ∀ p, 0 ≤ p → (∀ y, 0 ≤ y → y < p → g y = f y) → amI g p = amI f p := by
  refine upI (fun _ => rfl) (fun p hp ih h => ?_)
  have e := ih (fun y h0 h1 => h y h0 (by omega))
  rw [amI_S hp, amI_S hp, e, h p hp (by omega)]
  have h2 := amI_in (g := f) p hp
  by_cases h3 : p = 0
  · subst h3
    rw [amI_0, h 0 (by omega) (by omega)]
  · rw [h (amI f p) h2.1 (by omega)]
theorem mxI_ge {g : Int → Int} : ∀ p, 0 ≤ p → 0 ≤ mxI g p ∧ ∀ y, 0 ≤ y → y < p → g y ≤ mxI g p := by
  refine upI ⟨Int.le_refl _, fun y h0 h1 => by omega⟩ (fun p hp ih => ?_)
  rw [mxI_S hp]
  refine ⟨by omega, fun y h0 h1 => ?_⟩
  by_cases h2 : y = p
  · rw [h2]; omega
  · have := ih.2 y h0 (by omega); omega
theorem mxI_le {g : Int → Int} {K : Int} (hK : 0 ≤ K) : ∀ p, 0 ≤ p → (∀ y, 0 ≤ y → y < p → g y ≤ K) → mxI g p ≤ K := by
  refine upI (fun _ => hK) (fun p hp ih h => ?_)
  rw [mxI_S hp]
  have h1 := ih (fun y h0 h1 => h y h0 (by omega))
  have h2 := h p hp (by omega)
  omega
theorem mnI_le {g : Int → Int} : ∀ p, 0 ≤ p → mnI g p ≤ 1000000000 ∧ ∀ y, 0 ≤ y → y < p → mnI g p ≤ g y := by
  refine upI ⟨Int.le_refl _, fun y h0 h1 => by omega⟩ (fun p hp ih => ?_)
  rw [mnI_S hp]
  refine ⟨by omega, fun y h0 h1 => ?_⟩
  by_cases h2 : y = p
  · rw [h2]; omega
  · have := ih.2 y h0 (by omega); omega
theorem mnI_ge {g : Int → Int} {K : Int} (hK : K ≤ 1000000000) : ∀ p, 0 ≤ p → (∀ y, 0 ≤ y → y < p → K ≤ g y) → K ≤ mnI g p := by
  refine upI (fun _ => hK) (fun p hp ih h => ?_)
  rw [mnI_S hp]
  have h1 := ih (fun y h0 h1 => h y h0 (by omega))
  have h2 := h p hp (by omega)
  omega
/-- the first greatest one is the greatest -/
theorem mxI_am {g : Int → Int} {p : Int} (h1 : 1 ≤ p) (hg : ∀ y, 0 ≤ y → y < p → 0 ≤ g y) : g (amI g p) = mxI g p := by
  have key : ∀ q, 0 ≤ q → q + 1 ≤ p → g (amI g (q + 1)) = mxI g (q + 1) := by
    refine upI (fun _ => ?_) (fun q hq ih h => ?_)
    · have e := mxI_S (g := g) (p := 0) (Int.le_refl _)
      rw [mxI_0] at e
      have h0 := hg 0 (by omega) (by omega)
      rw [e, show (0 : Int) + 1 = 1 from rfl, amI_1]
      omega
    · have ih2 := ih (by omega)
      rw [amI_S (by omega), mxI_S (by omega), ← ih2]
      split <;> omega
  have := key (p - 1) (by omega) (by omega)
  rwa [Int.sub_add_cancel] at this
theorem fsI_in {g : Int → Int} {lim : Int} : ∀ p, 0 ≤ p → -1 ≤ fsI g lim p ∧ fsI g lim p < max p 1 := by
  refine upI (by rw [fsI_0]; omega) (fun p hp ih => ?_)
  rw [fsI_S hp]
  split <;> omega
/-- the first one above: nothing ahead of it is -/
theorem fsI_is {g : Int → Int} {lim b : Int} (hb : 0 ≤ b) (h : lim < g b) (hlo : ∀ y, 0 ≤ y → y < b → g y ≤ lim) : ∀ p, 0 ≤ p → b < p → fsI g lim p = b := by
  have h0 : ∀ p, 0 ≤ p → p ≤ b → fsI g lim p = -1 := by
    refine upI (fun _ => rfl) (fun p hp ih h2 => ?_)
    rw [fsI_S hp, ih (by omega), if_neg (fun h3 => by have := hlo p hp (by omega); omega)]
  refine upI (fun h2 => by omega) (fun p hp ih h2 => ?_)
  rw [fsI_S hp]
  by_cases e : p = b
  · subst e
    rw [h0 p hp (Int.le_refl _), if_pos ⟨rfl, h⟩]
  · rw [ih (by omega), if_neg (by omega)]
theorem fsI_no {g : Int → Int} {lim : Int} : ∀ p, 0 ≤ p → (∀ y, 0 ≤ y → y < p → g y ≤ lim) → fsI g lim p = -1 := by
  refine upI (fun _ => rfl) (fun p hp ih h => ?_)
  rw [fsI_S hp, ih (fun y h0 h1 => h y h0 (by omega)), if_neg (fun h3 => by have := h p hp (by omega); omega)]
/-- the first greatest one is the first above the greatest less 1 -/
theorem amI_fs {g : Int → Int} {p : Int} (h1 : 1 ≤ p) (hg : ∀ y, 0 ≤ y → y < p → 0 ≤ g y) : fsI g (mxI g p - 1) p = amI g p := by
  have h2 := amI_lt (g := g) h1
  have h3 := mxI_am h1 hg
  have first : ∀ q, 0 ≤ q → ∀ y, 0 ≤ y → y < amI g q → g y < g (amI g q) := by
    refine upI (fun y h0 h4 => by rw [amI_0] at h4; omega) (fun q hq ih y h0 h4 => ?_)
    have h6 := mxI_ge (g := g) q hq
    have h7 := amI_in (g := g) q hq
    rw [amI_S hq] at h4 ⊢
    split at h4 <;> rename_i h5
    · rw [if_pos h5]
      by_cases h8 : y < amI g q
      · have := ih y h0 h8; omega
      · by_cases h9 : y = amI g q
        · rw [h9]; exact h5
        · have key : ∀ r, 0 ≤ r → ∀ w, 0 ≤ w → w < r → g w ≤ g (amI g r) := by
            refine upI (fun w a b => by omega) (fun r hr ih3 w a b => ?_)
            rw [amI_S hr]
            split
            · rename_i c
              by_cases d : w = r
              · rw [d]; omega
              · have := ih3 w a (by omega); omega
            · rename_i c
              by_cases d : w = r
              · rw [d]; omega
              · exact ih3 w a (by omega)
          have := key q hq y h0 h4
          omega
    · rw [if_neg h5]
      exact ih y h0 h4
  exact fsI_is h2.1 (by omega) (fun y h0 h4 => by have := first p (by omega) y h0 h4; omega) p (by omega) h2.2
/-! BEATS -/
def zMk (mk b : Int) : Bool := decide (zAnd (zShr mk b) 1 = 1)
def nxB (ec : Int) (Fo Ho : Int → Int) (g : Int → Int → Int) (b p : Int) : Int :=
  if Fo p = -1 then g b p else max 1 (min 199 (g b p + (Ho p * (g (max 0 (b - ec)) (Fo p) - g b p)).tdiv 10))
def bR (ec : Int) (Fo Ho B0 : Int → Int) : Nat → Int → Int → Int
  | 0 => fun _ p => B0 p
  | n + 1 => fun b p => if b = (n : Int) + 1 then nxB ec Fo Ho (bR ec Fo Ho B0 n) n p else bR ec Fo Ho B0 n b p
def bF (ec : Int) (Fo Ho B0 : Int → Int) (b p : Int) : Int := bR ec Fo Ho B0 b.toNat b p
theorem bR_S {ec : Int} {Fo Ho B0 : Int → Int} {n : Nat} {b p : Int} : bR ec Fo Ho B0 (n + 1) b p = if b = (n : Int) + 1 then nxB ec Fo Ho (bR ec Fo Ho B0 n) n p else bR ec Fo Ho B0 n b p := rfl
theorem bR_lo {ec : Int} {Fo Ho B0 : Int → Int} : ∀ (m : Nat) (b p : Int), 0 ≤ b → b ≤ m → bR ec Fo Ho B0 m b p = bF ec Fo Ho B0 b p := by
  intro m
  induction m with
  | zero =>
    intro b p h0 h1
    have : b = 0 := by omega
    subst this
    rfl
  | succ m ih =>
    intro b p h0 h1
    by_cases h : b = (m : Int) + 1
    · unfold bF
      rw [show b.toNat = m + 1 by omega]
    · rw [bR_S, if_neg h]
      exact ih b p h0 (by omega)
theorem bF_0 {ec : Int} {Fo Ho B0 : Int → Int} {p : Int} : bF ec Fo Ho B0 0 p = B0 p := rfl
theorem bF_S {ec : Int} {Fo Ho B0 : Int → Int} {b p : Int} (hec : 0 ≤ ec) (hb : 0 ≤ b) : bF ec Fo Ho B0 (b + 1) p = nxB ec Fo Ho (bF ec Fo Ho B0) b p := by
  have e : bF ec Fo Ho B0 (b + 1) p = bR ec Fo Ho B0 (b.toNat + 1) (b + 1) p := by unfold bF; rw [toNat_S hb]
  rw [e, bR_S, if_pos (by omega)]
  unfold nxB
  rw [bR_lo _ _ _ (by omega) (by omega), bR_lo _ _ _ (by omega) (by omega), toNat_c hb]
theorem bF_in {ec pl : Int} {Fo Ho B0 : Int → Int} (hec : 0 ≤ ec) (hB : ∀ p, 0 ≤ p → p < pl → 1 ≤ B0 p ∧ B0 p ≤ 199) : ∀ b, 0 ≤ b → ∀ p, 0 ≤ p → p < pl → 1 ≤ bF ec Fo Ho B0 b p ∧ bF ec Fo Ho B0 b p ≤ 199 := by
  refine upI (fun p h0 h1 => by rw [bF_0]; exact hB p h0 h1) (fun b hb ih p h0 h1 => ?_)
  rw [bF_S hec hb]
  unfold nxB
  split
  · exact ih p h0 h1
  · omega
/-- only the first pl places matter -/
theorem bF_c {ec pl : Int} {Fo Ho B0 Fo2 Ho2 B2 : Int → Int} (hec : 0 ≤ ec) (h1 : ∀ p, 0 ≤ p → p < pl → Fo p = Fo2 p ∧ Ho p = Ho2 p ∧ B0 p = B2 p) (hF : ∀ p, 0 ≤ p → p < pl → -1 ≤ Fo p ∧ Fo p < pl) : ∀ b, 0 ≤ b → ∀ a, 0 ≤ a → a ≤ b → ∀ p, 0 ≤ p → p < pl → bF ec Fo Ho B0 a p = bF ec Fo2 Ho2 B2 a p := by
  refine upI (fun a a0 a1 p p0 p1 => ?_) (fun b hb ih a a0 a1 p p0 p1 => ?_)
  · have : a = 0 := by omega
    subst this
    rw [bF_0, bF_0]
    exact (h1 p p0 p1).2.2
  · by_cases h : a = b + 1
    · subst h
      rw [bF_S hec hb, bF_S hec hb]
      unfold nxB
      have e := h1 p p0 p1
      have f := hF p p0 p1
      rw [← e.1, ← e.2.1, ih b hb (Int.le_refl _) p p0 p1]
      split
      · rfl
      · rw [ih (max 0 (b - ec)) (by omega) (by omega) (Fo p) (by omega) (by omega)]
    · exact ih a a0 (by omega) p p0 p1
/-! TIMES -/
def tN (pl mk : Int) (Lt : Int → Int) (g : Int → Int → Int) : Nat → Int → Int
  | 0 => fun p => 0 + g 0 p + Lt p
  | n + 1 => fun p => (if zMk mk n then mxI (tN pl mk Lt g n) pl else tN pl mk Lt g n p) + g ((n : Int) + 1) p + Lt p
def tF (pl mk : Int) (Lt : Int → Int) (g : Int → Int → Int) (b p : Int) : Int := tN pl mk Lt g b.toNat p
/-- TIME behind waiting -/
def wF (pl mk : Int) (Lt : Int → Int) (g : Int → Int → Int) (b p : Int) : Int := if zMk mk b then mxI (tF pl mk Lt g b) pl else tF pl mk Lt g b p
theorem tF_0 {pl mk : Int} {Lt : Int → Int} {g : Int → Int → Int} {p : Int} : tF pl mk Lt g 0 p = 0 + g 0 p + Lt p := rfl
theorem tF_S {pl mk b p : Int} {Lt : Int → Int} {g : Int → Int → Int} (hb : 0 ≤ b) : tF pl mk Lt g (b + 1) p = wF pl mk Lt g b p + g (b + 1) p + Lt p := by
  unfold wF tF
  rw [toNat_S hb, tN, toNat_c hb]
theorem tF_in {pl mk : Int} {Lt : Int → Int} {g : Int → Int → Int} (hp : 0 ≤ pl) (hg : ∀ b p, 0 ≤ b → 0 ≤ p → p < pl → 1 ≤ g b p ∧ g b p ≤ 199) (hL : ∀ p, 0 ≤ p → p < pl → 0 ≤ Lt p ∧ Lt p ≤ 50) : ∀ b, 0 ≤ b → ∀ p, 0 ≤ p → p < pl → 1 ≤ tF pl mk Lt g b p ∧ tF pl mk Lt g b p ≤ 249 * (b + 1) := by
  refine upI (fun p h0 h1 => ?_) (fun b hb ih p h0 h1 => ?_)
  · have a1 := hg 0 p (by omega) h0 h1
    have a2 := hL p h0 h1
    rw [tF_0]
    omega
  · have a1 := hg (b + 1) p (by omega) h0 h1
    have a2 := hL p h0 h1
    rw [tF_S hb]
    unfold wF
    split
    · have a3 := mxI_le (g := tF pl mk Lt g b) (K := 249 * (b + 1)) (by omega) pl hp (fun y y0 y1 => (ih y y0 y1).2)
      have a4 := mxI_ge (g := tF pl mk Lt g b) pl hp
      omega
    · have := ih p h0 h1
      omega
theorem wF_in {pl mk : Int} {Lt : Int → Int} {g : Int → Int → Int} (hp : 0 ≤ pl) (hg : ∀ b p, 0 ≤ b → 0 ≤ p → p < pl → 1 ≤ g b p ∧ g b p ≤ 199) (hL : ∀ p, 0 ≤ p → p < pl → 0 ≤ Lt p ∧ Lt p ≤ 50) (b : Int) (hb : 0 ≤ b) (p : Int) (h0 : 0 ≤ p) (h1 : p < pl) : 1 ≤ wF pl mk Lt g b p ∧ wF pl mk Lt g b p ≤ 249 * (b + 1) := by
  have ih := tF_in (mk := mk) hp hg hL b hb
  unfold wF
  split
  · have a3 := mxI_le (g := tF pl mk Lt g b) (K := 249 * (b + 1)) (by omega) pl hp (fun y y0 y1 => (ih y y0 y1).2)
    have a4 := (mxI_ge (g := tF pl mk Lt g b) pl hp).2 p h0 h1
    have := ih p h0 h1
    omega
  · exact ih p h0 h1
theorem tF_c {pl mk : Int} {Lt L2 : Int → Int} {g g2 : Int → Int → Int} (hp : 0 ≤ pl) (hg : ∀ b p, 0 ≤ b → 0 ≤ p → p < pl → g b p = g2 b p) (hL : ∀ p, 0 ≤ p → p < pl → Lt p = L2 p) : ∀ b, 0 ≤ b → ∀ p, 0 ≤ p → p < pl → tF pl mk Lt g b p = tF pl mk L2 g2 b p := by
  refine upI (fun p h0 h1 => ?_) (fun b hb ih p h0 h1 => ?_)
  · rw [tF_0, tF_0, hg 0 p (by omega) h0 h1, hL p h0 h1]
  · rw [tF_S hb, tF_S hb, hg (b + 1) p (by omega) h0 h1, hL p h0 h1]
    unfold wF
    rw [mxI_c pl hp (fun y y0 y1 => ih y y0 y1), ih p h0 h1]
/-! of a SCORE: players, ECHO, MARKS, FOLLOWS, HOW, BEATS, LATES -/
def tS (pl ec mk : Int) (Fo Ho B0 Lt : Int → Int) : Int → Int → Int := tF pl mk Lt (bF ec Fo Ho B0)
def wS (pl ec mk : Int) (Fo Ho B0 Lt : Int → Int) : Int → Int → Int := wF pl mk Lt (bF ec Fo Ho B0)
def sS (pl ec mk : Int) (Fo Ho B0 Lt : Int → Int) (b : Int) : Int := mxI (tS pl ec mk Fo Ho B0 Lt b) pl - mnI (tS pl ec mk Fo Ho B0 Lt b) pl
def WO (pl n ec mk : Int) (Fo Ho B0 Lt : Int → Int) : Int := mxI (sS pl ec mk Fo Ho B0 Lt) n
/-- what a SCORE may be -/
def okS (pl n ec : Int) (Fo Ho B0 Lt : Int → Int) : Prop := 1 ≤ pl ∧ pl ≤ 6 ∧ 1 ≤ n ∧ n ≤ 30 ∧ 0 ≤ ec ∧ ec ≤ 3 ∧ ∀ p, 0 ≤ p → p < pl → (-1 ≤ Fo p ∧ Fo p < pl) ∧ (0 ≤ Ho p ∧ Ho p ≤ 10) ∧ (1 ≤ B0 p ∧ B0 p ≤ 199) ∧ (0 ≤ Lt p ∧ Lt p ≤ 50)
theorem okS.beat {pl n ec : Int} {Fo Ho B0 Lt : Int → Int} (h : okS pl n ec Fo Ho B0 Lt) (b p : Int) (hb : 0 ≤ b) (h0 : 0 ≤ p) (h1 : p < pl) : 1 ≤ bF ec Fo Ho B0 b p ∧ bF ec Fo Ho B0 b p ≤ 199 :=
  bF_in h.2.2.2.2.1 (fun p h0 h1 => (h.2.2.2.2.2.2 p h0 h1).2.2.1) b hb p h0 h1
theorem okS.time {pl n ec mk : Int} {Fo Ho B0 Lt : Int → Int} (h : okS pl n ec Fo Ho B0 Lt) (b p : Int) (hb : 0 ≤ b) (h0 : 0 ≤ p) (h1 : p < pl) : 1 ≤ tS pl ec mk Fo Ho B0 Lt b p ∧ tS pl ec mk Fo Ho B0 Lt b p ≤ 249 * (b + 1) :=
  tF_in (by have := h.1; omega) (fun b p hb h0 h1 => h.beat b p hb h0 h1) (fun p h0 h1 => (h.2.2.2.2.2.2 p h0 h1).2.2.2) b hb p h0 h1
theorem okS.wait {pl n ec mk : Int} {Fo Ho B0 Lt : Int → Int} (h : okS pl n ec Fo Ho B0 Lt) (b p : Int) (hb : 0 ≤ b) (h0 : 0 ≤ p) (h1 : p < pl) : 1 ≤ wS pl ec mk Fo Ho B0 Lt b p ∧ wS pl ec mk Fo Ho B0 Lt b p ≤ 249 * (b + 1) :=
  wF_in (by have := h.1; omega) (fun b p hb h0 h1 => h.beat b p hb h0 h1) (fun p h0 h1 => (h.2.2.2.2.2.2 p h0 h1).2.2.2) b hb p h0 h1
theorem okS.spread {pl n ec mk : Int} {Fo Ho B0 Lt : Int → Int} (h : okS pl n ec Fo Ho B0 Lt) (b : Int) (hb : 0 ≤ b) (hb30 : b < 30) : 0 ≤ sS pl ec mk Fo Ho B0 Lt b ∧ sS pl ec mk Fo Ho B0 Lt b ≤ 249 * (b + 1) := by
  have hp := h.1
  have t := fun p h0 h1 => h.time (mk := mk) b p hb h0 h1
  have t0 := t 0 (by omega) (by omega)
  unfold sS
  have a1 := (mxI_ge (g := tS pl ec mk Fo Ho B0 Lt b) pl (by omega)).2 0 (by omega) (by omega)
  have a2 := (mnI_le (g := tS pl ec mk Fo Ho B0 Lt b) pl (by omega)).2 0 (by omega) (by omega)
  have a3 := mxI_le (g := tS pl ec mk Fo Ho B0 Lt b) (K := 249 * (b + 1)) (by omega) pl (by omega) (fun y y0 y1 => (t y y0 y1).2)
  have a4 := mnI_ge (g := tS pl ec mk Fo Ho B0 Lt b) (K := 1) (by omega) pl (by omega) (fun y y0 y1 => (t y y0 y1).1)
  omega
theorem okS.worst {pl n ec mk : Int} {Fo Ho B0 Lt : Int → Int} (h : okS pl n ec Fo Ho B0 Lt) : 0 ≤ WO pl n ec mk Fo Ho B0 Lt ∧ WO pl n ec mk Fo Ho B0 Lt ≤ 7470 := by
  have hn := h.2.2.1
  have hn2 := h.2.2.2.1
  unfold WO
  exact ⟨(mxI_ge n (by omega)).1, mxI_le (by omega) n (by omega) (fun y y0 y1 => by have := (h.spread (mk := mk) y y0 (by omega)).2; omega)⟩
theorem WO_am {pl n ec mk : Int} {Fo Ho B0 Lt : Int → Int} (h : okS pl n ec Fo Ho B0 Lt) : sS pl ec mk Fo Ho B0 Lt (amI (sS pl ec mk Fo Ho B0 Lt) n) = WO pl n ec mk Fo Ho B0 Lt :=
  mxI_am h.2.2.1 (fun y y0 y1 => (h.spread y y0 (by have := h.2.2.2.1; omega)).1)
/-- two scores that are alike where it matters -/
theorem tS_c {pl n ec mk : Int} {Fo Ho B0 Lt Fo2 Ho2 B2 L2 : Int → Int} (h : okS pl n ec Fo Ho B0 Lt) (e : ∀ p, 0 ≤ p → p < pl → Fo p = Fo2 p ∧ Ho p = Ho2 p ∧ B0 p = B2 p ∧ Lt p = L2 p) (b p : Int) (hb : 0 ≤ b) (h0 : 0 ≤ p) (h1 : p < pl) : tS pl ec mk Fo Ho B0 Lt b p = tS pl ec mk Fo2 Ho2 B2 L2 b p :=
  tF_c (by have := h.1; omega) (fun b p hb h0 h1 => bF_c h.2.2.2.2.1 (fun p h0 h1 => ⟨(e p h0 h1).1, (e p h0 h1).2.1, (e p h0 h1).2.2.1⟩) (fun p h0 h1 => (h.2.2.2.2.2.2 p h0 h1).1) b hb b hb (Int.le_refl _) p h0 h1) (fun p h0 h1 => (e p h0 h1).2.2.2) b hb p h0 h1
theorem sS_c {pl n ec mk : Int} {Fo Ho B0 Lt Fo2 Ho2 B2 L2 : Int → Int} (h : okS pl n ec Fo Ho B0 Lt) (e : ∀ p, 0 ≤ p → p < pl → Fo p = Fo2 p ∧ Ho p = Ho2 p ∧ B0 p = B2 p ∧ Lt p = L2 p) (b : Int) (hb : 0 ≤ b) : sS pl ec mk Fo Ho B0 Lt b = sS pl ec mk Fo2 Ho2 B2 L2 b := by
  unfold sS
  rw [mxI_c pl (by have := h.1; omega) (fun y y0 y1 => tS_c (mk := mk) h e b y hb y0 y1), mnI_c pl (by have := h.1; omega) (fun y y0 y1 => tS_c (mk := mk) h e b y hb y0 y1)]
theorem WO_c {pl n ec mk : Int} {Fo Ho B0 Lt Fo2 Ho2 B2 L2 : Int → Int} (h : okS pl n ec Fo Ho B0 Lt) (e : ∀ p, 0 ≤ p → p < pl → Fo p = Fo2 p ∧ Ho p = Ho2 p ∧ B0 p = B2 p ∧ Lt p = L2 p) : WO pl n ec mk Fo Ho B0 Lt = WO pl n ec mk Fo2 Ho2 B2 L2 :=
  mxI_c n (by have := h.2.2.1; omega) (fun y y0 y1 => sS_c h e y y0)
theorem okS.c {pl n ec : Int} {Fo Ho B0 Lt Fo2 Ho2 B2 L2 : Int → Int} (h : okS pl n ec Fo Ho B0 Lt) (e : ∀ p, 0 ≤ p → p < pl → Fo p = Fo2 p ∧ Ho p = Ho2 p ∧ B0 p = B2 p ∧ Lt p = L2 p) : okS pl n ec Fo2 Ho2 B2 L2 :=
  ⟨h.1, h.2.1, h.2.2.1, h.2.2.2.1, h.2.2.2.2.1, h.2.2.2.2.2.1, fun p h0 h1 => by
    obtain ⟨a, b, c, d⟩ := e p h0 h1
    rw [← a, ← b, ← c, ← d]
    exact h.2.2.2.2.2.2 p h0 h1⟩
/-! rows of six laid flat: g is there as far as bar b, player p -/
def reg (A : Int → Int) (g : Int → Int → Int) (pl b p : Int) : Prop := ∀ x y, 0 ≤ x → 0 ≤ y → y < pl → (x < b ∨ x = b ∧ y < p) → A (6 * x + y) = g x y
theorem reg.zero {A : Int → Int} {g : Int → Int → Int} {pl : Int} : reg A g pl 0 0 := fun x y h0 h1 _ h => by omega
theorem reg.put {A : Int → Int} {g : Int → Int → Int} {pl b p z v : Int} (h : reg A g pl b p) (hb : 0 ≤ b) (hp : 0 ≤ p) (hpl : p < pl) (h6 : pl ≤ 6) (hz : z = 6 * b + p) (hv : v = g b p) : reg (uZ A z v) g pl b (p + 1) := by
  intro x y h0 h1 h2 h3
  by_cases e : x = b ∧ y = p
  · rw [e.1, e.2, ← hz, uZ_at, hv]
  · rw [uZ_ne (by omega)]
    exact h x y h0 h1 h2 (by omega)
theorem reg.next {A : Int → Int} {g : Int → Int → Int} {pl b p : Int} (h : reg A g pl b p) (hp : pl ≤ p) : reg A g pl (b + 1) 0 := fun x y h0 h1 h2 h3 => h x y h0 h1 h2 (by omega)
theorem reg.at {A : Int → Int} {g : Int → Int → Int} {pl b p z x y : Int} (h : reg A g pl b p) (hz : z = 6 * x + y) (h0 : 0 ≤ x) (h1 : 0 ≤ y) (h2 : y < pl) (h3 : x < b ∨ x = b ∧ y < p) : A z = g x y := by rw [hz]; exact h x y h0 h1 h2 h3
theorem reg.lo {A : Int → Int} {g : Int → Int → Int} {pl b p c q : Int} (h : reg A g pl b p) (hc : c < b ∨ c = b ∧ q ≤ p) : reg A g pl c q := fun x y h0 h1 h2 h3 => h x y h0 h1 h2 (by omega)
/-- columns of the reference's table of players -/
def c5 (Q : Int → Int) (k : Int) : Int → Int := fun p => Q (5 * p + k)
end pt_34spec
/- 34.tmath.lean.txt -/
section pt_34tmath
/-! Math.max, min, abs; an array's places as numbers in their range -/
section TM
variable {p : Program} {l : Launch} {e : Env} {R : Room} {s : State} {m : MethodId} {args : Array Value} {below : List Frame} {meth : Method} {c : Code} {Q : State → Prop} {D : va_G} {G : GG} {A : Nat → Prop} {cc : ByteArray} {nL cells slots pc : Nat} {rt : Option FieldType} {own : String} {L : Nat → Option AV} {st : List AV} {ws : EW}
theorem catR {rest : List AV} : ((rest.map tV).map fun v => v.category).sum = rest.length := by
  induction rest with
  | nil => rfl
  | cons v t ih => simp only [List.map_cons, List.sum_cons, List.length_cons, ih, tV_cat]; omega
theorem S_mmax (X : Cx p s m args meth c D G A cc nL rt own) {idx k : Nat} {y : MethodName} {b : ByteArray} (K : LkS own idx y b 2 (some .int) k) (hy : y = Lib.Math.max.name) (hb : b = Lib.Math.max.code) {x z : Int} (hx : inR x) (hz : inR z) (h1 : 1 ≤ R.frames) (h2 : st.length + 13 ≤ R.locals) (h3 : cells ≤ R.cells) (h4 : slots ≤ R.slots) (hdg : decode cc pc = .ok (.invokestatic idx, 3)) (kk : S_ p l e R s m args below meth c Q D G A nL cells slots (pc + 3) L (iv (max x z) :: st) ws) : S_ p l e R s m args below meth c Q D G A nL cells slots pc L (iv z :: iv x :: st) ws := by
  intro H locs ls hP hD hS hl
  obtain ⟨⟨k1, k2, k3, k4⟩, -⟩ := K
  subst hy; subst hb
  have hts := X.2.2.2.2.1
  have h5 := kk H locs ls hP hD hS hl
  refine va_mmax X.1 X.2.1 (by rw [X.2.2.1]; exact hl.1.symm) X.2.2.2.1 (hts _ k1) (hts _ k2) (hts _ k3) (hts _ k4) h1 (by rw [catR]; exact h2) h3 h4 hdg ?_
  have e1 : (if i32 x < i32 z then i32 z else i32 x) = i32 (max x z) := by
    by_cases q : x < z
    · rw [if_pos ((i32_lt hx hz).mpr q), show max x z = z by omega]
    · rw [if_neg (fun h => q ((i32_lt hx hz).mp h)), show max x z = x by omega]
  rw [e1]
  exact h5
theorem S_mmin (X : Cx p s m args meth c D G A cc nL rt own) {idx k : Nat} {y : MethodName} {b : ByteArray} (K : LkS own idx y b 2 (some .int) k) (hy : y = Lib.Math.min.name) (hb : b = Lib.Math.min.code) {x z : Int} (hx : inR x) (hz : inR z) (h1 : 1 ≤ R.frames) (h2 : st.length + 13 ≤ R.locals) (h3 : cells ≤ R.cells) (h4 : slots ≤ R.slots) (hdg : decode cc pc = .ok (.invokestatic idx, 3)) (kk : S_ p l e R s m args below meth c Q D G A nL cells slots (pc + 3) L (iv (min x z) :: st) ws) : S_ p l e R s m args below meth c Q D G A nL cells slots pc L (iv z :: iv x :: st) ws := by
  intro H locs ls hP hD hS hl
  obtain ⟨⟨k1, k2, k3, k4⟩, -⟩ := K
  subst hy; subst hb
  have hts := X.2.2.2.2.1
  have h5 := kk H locs ls hP hD hS hl
  refine va_mmin X.1 X.2.1 (by rw [X.2.2.1]; exact hl.1.symm) X.2.2.2.1 (hts _ k1) (hts _ k2) (hts _ k3) (hts _ k4) h1 (by rw [catR]; exact h2) h3 h4 hdg ?_
  have e1 : (if i32 z < i32 x then i32 z else i32 x) = i32 (min x z) := by
    by_cases q : z < x
    · rw [if_pos ((i32_lt hz hx).mpr q), show min x z = z by omega]
    · rw [if_neg (fun h => q ((i32_lt hz hx).mp h)), show min x z = x by omega]
  rw [e1]
  exact h5
theorem S_mabs (X : Cx p s m args meth c D G A cc nL rt own) {idx k : Nat} {y : MethodName} {b : ByteArray} (K : LkS own idx y b 1 (some .int) k) (hy : y = Lib.Math.abs.name) (hb : b = Lib.Math.abs.code) {x : Int} (hx : inR x) (h1 : 1 ≤ R.frames) (h2 : st.length + 13 ≤ R.locals) (h3 : cells ≤ R.cells) (h4 : slots ≤ R.slots) (hdg : decode cc pc = .ok (.invokestatic idx, 3)) (kk : S_ p l e R s m args below meth c Q D G A nL cells slots (pc + 3) L (iv (x.natAbs : Int) :: st) ws) : S_ p l e R s m args below meth c Q D G A nL cells slots pc L (iv x :: st) ws := by
  intro H locs ls hP hD hS hl
  obtain ⟨⟨k1, k2, k3, k4⟩, -⟩ := K
  subst hy; subst hb
  have hts := X.2.2.2.2.1
  have h5 := kk H locs ls hP hD hS hl
  refine va_mabs X.1 X.2.1 (by rw [X.2.2.1]; exact hl.1.symm) X.2.2.2.1 (hts _ k1) (hts _ k2) (hts _ k3) (hts _ k4) h1 (by rw [catR]; exact h2) h3 h4 hdg ?_
  have e1 : (if 0 ≤ i32 x then i32 x else 0 - i32 x) = i32 (x.natAbs : Int) := by
    by_cases q : 0 ≤ x
    · rw [if_pos (by rw [i32_0]; exact (i32_le inR_0 hx).mpr q), show ((x.natAbs : Nat) : Int) = x by omega]
    · rw [if_neg (fun h => q (by rw [i32_0] at h; exact (i32_le inR_0 hx).mp h)), i32_0, i32_sub, show 0 - x = (x.natAbs : Int) by omega]
  rw [e1]
  exact h5
theorem S_ldcw (X : Cx p s m args meth c D G A cc nL rt own) {index : Nat} {n : Int} (hw : Cond.constant own index (i32 n) ∈ uw) (hdg : decode cc pc = .ok (.ldc_w index, 3)) (k : S_ p l e R s m args below meth c Q D G A nL cells slots (pc + 3) L (iv n :: st) ws) : S_ p l e R s m args below meth c Q D G A nL cells slots pc L st ws :=
  fun H locs ls hP hD hS hl => lv_ldcw X.1 X.2.1 X.2.2.2.1 (X.2.2.2.2.1 _ hw) hdg (k H locs ls hP hD hS hl)
/-- an array's places may be taken as numbers in their range -/
theorem S_nrm {q a n : Nat} {g : Int → Int} (hq : ws[q]? = some (a, ar n g)) (kk : ∀ g2 : Int → Int, (∀ j, inR (g2 j)) → (∀ j, inR (g j) → g2 j = g j) → S_ p l e R s m args below meth c Q D G A nL cells slots pc L st (ws.set q (a, ar n g2))) : S_ p l e R s m args below meth c Q D G A nL cells slots pc L st ws := by
  intro H locs ls hP hD hS hl
  have e1 : tE G (ar n (fun j => (i32 (g j)).toInt)) = tE G (ar n g) := by
    show (Sum.inl (G.1, n, Sum.inl (fun j : Nat => i32 ((i32 (g (j : Int))).toInt))) : va_E) = Sum.inl (G.1, n, Sum.inl (fun j : Nat => i32 (g (j : Int))))
    have e9 : (fun j : Nat => i32 ((i32 (g (j : Int))).toInt)) = (fun j : Nat => i32 (g (j : Int))) := funext (fun j => i32_of _)
    rw [e9]
  have e2 : tW G (ws.set q (a, ar n (fun j => (i32 (g j)).toInt))) = tW G ws := by
    rw [← tW_set (x := ar n (fun j => (i32 (g j)).toInt)), e1]
    apply List.ext_getElem?
    intro j
    rw [List.getElem?_set]
    by_cases h : q = j
    · subst h
      have h9 := tW_at (G := G) hq
      rw [if_pos rfl, if_pos (List.getElem?_eq_some_iff.mp h9).1, h9]
    · rw [if_neg h]
  refine kk (fun j => (i32 (g j)).toInt) (fun j => toInt_inR _) (fun j h => i32_toInt h) H locs ls ?_ ?_ hS hl
  · rw [e2]; exact hP
  · rw [e2]; exact hD
end TM
end pt_34tmath
/- 34.ylinks.lean.txt -/
section pt_34ylinks
set_option maxRecDepth 100000 in
theorem mn224 : Cond.arrayOver (ClassFile.FieldType.object "BorrowedBeat$Law") ∈ nw := mnw mT1 140 rfl rfl
set_option maxRecDepth 100000 in
theorem mn663 : Cond.castable "[I" "java/lang/Cloneable" ∈ nw := mnw mT3 99 rfl rfl
set_option maxRecDepth 100000 in
theorem m664 : Cond.classLink "java/util/Arrays" 317 "[I" ∈ uw := muw mT3 100 rfl rfl
set_option maxRecDepth 100000 in
theorem m754 : Cond.constantLong "BorrowedBeat$Law" 61 (-1000000) ∈ uw := muw mT3 190 rfl rfl
set_option maxRecDepth 100000 in
theorem m755 : Cond.constantLong "BorrowedBeat$Law" 63 1000000 ∈ uw := muw mT3 191 rfl rfl
set_option maxRecDepth 100000 in
theorem m1078 : Cond.classLink "BorrowedBeatLaw" 13 "java/util/NoSuchElementException" ∈ uw := muw mT5 34 rfl rfl
set_option maxRecDepth 100000 in
theorem m1489 : Cond.constantLong "BorrowedBeatModel" 191 (-1000000) ∈ uw := muw mT6 205 rfl rfl
set_option maxRecDepth 100000 in
theorem m1490 : Cond.constantLong "BorrowedBeatModel" 193 1000000 ∈ uw := muw mT6 206 rfl rfl
set_option maxRecDepth 100000 in
theorem m1595 : Cond.constant "BorrowedBeatModel" 345 (-1000000) ∈ uw := muw mT7 71 rfl rfl
end pt_34ylinks
/- 35.rplay.lean.txt -/
section pt_35rplay
theorem mulr {h d : Int} (h0 : 0 ≤ h ∧ h ≤ 10) (hd : -198 ≤ d ∧ d ≤ 198) : -1980 ≤ h * d ∧ h * d ≤ 1980 := by
  have a1 : h * d ≤ h * 198 := Int.mul_le_mul_of_nonneg_left hd.2 h0.1
  have a2 : h * (-198) ≤ h * d := Int.mul_le_mul_of_nonneg_left hd.1 h0.1
  omega
theorem tdiv10 {x : Int} (h : -1980 ≤ x ∧ x ≤ 1980) : -198 ≤ x.tdiv 10 ∧ x.tdiv 10 ≤ 198 := by
  have h1 := Int.tmod_add_mul_tdiv x 10
  have h2 := Int.tmod_lt_of_pos x (b := 10) (by decide)
  have h3 := Int.lt_tmod_of_pos x (b := 10) (by decide)
  omega
theorem mxI_1 {g : Int → Int} : mxI g 1 = max 0 (g 0) := rfl
theorem mnI_1 {g : Int → Int} : mnI g 1 = min 1000000000 (g 0) := rfl
theorem zMk_1 {mk b : Int} (h : zAnd (zShr mk b) 1 = 1) : zMk mk b = true := decide_eq_true h
theorem zMk_0 {mk b : Int} (h : ¬ zAnd (zShr mk b) 1 = 1) : zMk mk b = false := decide_eq_false h
theorem wF_1 {pl mk b p : Int} {Lt : Int → Int} {g : Int → Int → Int} (h : zMk mk b = true) : wF pl mk Lt g b p = mxI (tF pl mk Lt g b) pl := by unfold wF; rw [if_pos h]
theorem wF_0 {pl mk b p : Int} {Lt : Int → Int} {g : Int → Int → Int} (h : zMk mk b = false) : wF pl mk Lt g b p = tF pl mk Lt g b p := by unfold wF; rw [if_neg (by rw [h]; decide)]
theorem tF_P {pl mk b p : Int} {Lt : Int → Int} {g : Int → Int → Int} (hb : 0 < b) : tF pl mk Lt g b p = wF pl mk Lt g (b - 1) p + g b p + Lt p := by
  have h := tF_S (pl := pl) (mk := mk) (b := b - 1) (p := p) (Lt := Lt) (g := g) (by omega)
  rwa [Int.sub_add_cancel] at h
theorem bF_P {ec : Int} {Fo Ho B0 : Int → Int} {b p : Int} (hec : 0 ≤ ec) (hb : 0 < b) : bF ec Fo Ho B0 b p = nxB ec Fo Ho (bF ec Fo Ho B0) (b - 1) p := by
  have h := bF_S (ec := ec) (Fo := Fo) (Ho := Ho) (B0 := B0) (b := b - 1) (p := p) hec (by omega)
  rwa [Int.sub_add_cancel] at h
set_option maxHeartbeats 4000000 in
set_option maxRecDepth 100000 in
theorem kJ6_compare_7cf53 (l : Launch) (x : Int) (y : Int) (hx : inR x) (hy : inR y) : AMi l yJ6_compare_7cf53 cJ6_compare_7cf53 2 .int 0 0 0 [iv x, iv y] [] (fun z u => z = (if x < y then -1 else if x = y then 0 else 1) ∧ u = []) := by
  refine AMi.of2 rfl (nle rfl) ?_
  intro D G A p e s m args below meth c Po hPo X
  refine S_iload_n X dJ6_compare_7cf53_0 rfl rfl ?_
  refine S_iload_n X dJ6_compare_7cf53_1 rfl rfl ?_
  refine S_icmp_ge (tgt := 9) X dJ6_compare_7cf53_2 (by decide) (by omega) (by omega) (fun c_1 => ?_) (fun c_1 => ?_)
  ·
    refine S_iload_n X dJ6_compare_7cf53_9 rfl rfl ?_
    refine S_iload_n X dJ6_compare_7cf53_10 rfl rfl ?_
    refine S_icmp_ne (tgt := 18) X dJ6_compare_7cf53_11 (by decide) (by omega) (by omega) (fun c_2 => ?_) (fun c_2 => ?_)
    ·
      refine S_iconst X dJ6_compare_7cf53_18 ?_
      exact S_iret X (nle rfl) (nle rfl) dJ6_compare_7cf53_19 (hPo _ _ (⟨by (repeat' split) <;> omega, rfl⟩))
    ·
      refine S_iconst X dJ6_compare_7cf53_14 ?_
      refine S_goto (tgt := 19) X dJ6_compare_7cf53_15 (by decide) ?_
      exact S_iret X (nle rfl) (nle rfl) dJ6_compare_7cf53_19 (hPo _ _ (⟨by (repeat' split) <;> omega, rfl⟩))
  ·
    refine S_iconst X dJ6_compare_7cf53_5 ?_
    refine S_goto (tgt := 19) X dJ6_compare_7cf53_6 (by decide) ?_
    exact S_iret X (nle rfl) (nle rfl) dJ6_compare_7cf53_19 (hPo _ _ (⟨by (repeat' split) <;> omega, rfl⟩))
set_option maxHeartbeats 4000000 in
set_option maxRecDepth 100000 in
theorem kX12_isPlayer (l : Launch) (h0 : Nat) (f : Nat → AV) (pl : Int) (pp : Int) (hf0 : f 21 = iv pl) (hpl : 0 ≤ pl ∧ pl ≤ 6) (hp : inR pp) : AMi l yX12_isPlayer cX12_isPlayer 2 .boolean 1 0 0 [rv h0, iv pp] [(h0, ob 11 f)] (fun z u => (z = 0 ∧ u = [(h0, ob 11 f)] ∧ (pp < 0 ∨ pl ≤ pp)) ∨ (z = 1 ∧ u = [(h0, ob 11 f)] ∧ (0 ≤ pp ∧ pp < pl))) := by
  refine AMi.of2 rfl (nle rfl) ?_
  intro D G A p e s m args below meth c Po hPo X
  refine S_iload_n X dX12_isPlayer_0 rfl rfl ?_
  refine S_iconst X dX12_isPlayer_1 ?_
  refine S_aload_n X dX12_isPlayer_2 rfl rfl ?_
  refine S_get X fgX12_253_11 0 rfl hf0 dX12_isPlayer_3 ?_
  refine S_iconst X dX12_isPlayer_6 ?_
  refine S_isub X dX12_isPlayer_7 ?_
  refine S_calli X (kX12_in l pp 0 (pl - 1) (by omega) (by omega) (by omega)) (is := []) rfl (run_S X lkX12_216 (is := []) (avs := [iv pp, iv 0, iv (pl - 1)]) (rest := []) rfl rfl (nle rfl) ⟨nle rfl, nle rfl⟩ ⟨nle rfl, nle rfl⟩ dX12_isPlayer_8 (by decide) rfl) (fun z_3 u_1 hp_2 => ?_)
  rcases hp_2 with ⟨hz_4, hu_5, hq_6⟩ | ⟨hz_7, hu_8, hq_9⟩
  ·
    subst hz_4
    subst hu_5
    refine ⟨rfl, ?_⟩
    refine S_w (ws' := [(h0, ob 11 f)]) rfl ?_
    exact S_zret X (Or.inl rfl) (nle rfl) (nle rfl) dX12_isPlayer_11 (hPo _ _ (Or.inl (⟨by first | rfl | omega, rfl, by first | rfl | assumption | omega⟩)))
  ·
    subst hz_7
    subst hu_8
    refine ⟨rfl, ?_⟩
    refine S_w (ws' := [(h0, ob 11 f)]) rfl ?_
    exact S_zret X (Or.inr rfl) (nle rfl) (nle rfl) dX12_isPlayer_11 (hPo _ _ (Or.inr (⟨by first | rfl | omega, rfl, by first | rfl | assumption | omega⟩)))
set_option maxHeartbeats 4000000 in
set_option maxRecDepth 100000 in
theorem kX12_of (l : Launch) (h0 : Nat) (f : Nat → AV) (hQ : Nat) (Q : Int → Int) (pp : Int) (k : Int) (hf0 : f 20 = rv hQ) (hp : 0 ≤ pp ∧ pp ≤ 5) (hk : 0 ≤ k ∧ k ≤ 4) : AMi l yX12_of cX12_of 3 .int 0 0 0 [rv h0, iv pp, iv k] [(h0, ob 11 f), (hQ, ar 30 Q)] (fun z u => z = Q (5 * pp + k) ∧ u = [(h0, ob 11 f), (hQ, ar 30 Q)]) := by
  refine AMi.of2 rfl (nle rfl) ?_
  intro D G A p e s m args below meth c Po hPo X
  refine S_aload_n X dX12_of_0 rfl rfl ?_
  refine S_get X fgX12_43_11 0 rfl hf0 dX12_of_1 ?_
  refine S_iconst X dX12_of_4 ?_
  refine S_iload_n X dX12_of_5 rfl rfl ?_
  refine S_imul X dX12_of_6 ?_
  refine S_iload_n X dX12_of_7 rfl rfl ?_
  refine S_iadd X dX12_of_8 ?_
  refine S_iald X 1 rfl (by omega) (by omega) (nle rfl) dX12_of_9 ?_
  exact S_iret X (nle rfl) (nle rfl) dX12_of_10 (hPo _ _ (⟨by first | rfl | omega, rfl⟩))
set_option maxHeartbeats 4000000 in
set_option maxRecDepth 100000 in
theorem kX12_isBar (l : Launch) (h0 : Nat) (f : Nat → AV) (pl : Int) (n : Int) (b : Int) (hf0 : f 21 = iv pl) (hf1 : f 28 = iv n) (hpl : 0 ≤ pl ∧ pl ≤ 6) (hn : 1 ≤ n ∧ n ≤ 30) (hb : inR b) : AMi l yX12_isBar cX12_isBar 2 .boolean 1 0 0 [rv h0, iv b] [(h0, ob 11 f)] (fun z u => (z = 0 ∧ u = [(h0, ob 11 f)] ∧ (pl = 0 ∨ b < 0 ∨ n ≤ b)) ∨ (z = 1 ∧ u = [(h0, ob 11 f)] ∧ (0 < pl ∧ 0 ≤ b ∧ b < n))) := by
  refine AMi.of2 rfl (nle rfl) ?_
  intro D G A p e s m args below meth c Po hPo X
  refine S_aload_n X dX12_isBar_0 rfl rfl ?_
  refine S_get X fgX12_253_11 0 rfl hf0 dX12_isBar_1 ?_
  refine S_if_le (tgt := 25) X dX12_isBar_4 (by decide) (by omega) (fun c_1 => ?_) (fun c_1 => ?_)
  ·
    refine S_iconst X dX12_isBar_25 ?_
    exact S_zret X (Or.inl rfl) (nle rfl) (nle rfl) dX12_isBar_26 (hPo _ _ (Or.inl (⟨by first | rfl | omega, rfl, by first | rfl | assumption | omega⟩)))
  ·
    refine S_iload_n X dX12_isBar_7 rfl rfl ?_
    refine S_iconst X dX12_isBar_8 ?_
    refine S_aload_n X dX12_isBar_9 rfl rfl ?_
    refine S_get X fgX12_56_11 0 rfl hf1 dX12_isBar_10 ?_
    refine S_iconst X dX12_isBar_13 ?_
    refine S_isub X dX12_isBar_14 ?_
    refine S_calli X (kX12_in l b 0 (n - 1) (by omega) (by omega) (by omega)) (is := []) rfl (run_S X lkX12_216 (is := []) (avs := [iv b, iv 0, iv (n - 1)]) (rest := []) rfl rfl (nle rfl) ⟨nle rfl, nle rfl⟩ ⟨nle rfl, nle rfl⟩ dX12_isBar_15 (by decide) rfl) (fun z_4 u_2 hp_3 => ?_)
    rcases hp_3 with ⟨hz_5, hu_6, hq_7⟩ | ⟨hz_8, hu_9, hq_10⟩
    ·
      subst hz_5
      subst hu_6
      refine ⟨rfl, ?_⟩
      refine S_w (ws' := [(h0, ob 11 f)]) rfl ?_
      refine S_if_eq (tgt := 25) X dX12_isBar_18 (by decide) (by decide) (fun _ => ?_) (fun h9 => absurd h9 (by decide))
      refine S_iconst X dX12_isBar_25 ?_
      exact S_zret X (Or.inl rfl) (nle rfl) (nle rfl) dX12_isBar_26 (hPo _ _ (Or.inl (⟨by first | rfl | omega, rfl, by first | rfl | assumption | omega⟩)))
    ·
      subst hz_8
      subst hu_9
      refine ⟨rfl, ?_⟩
      refine S_w (ws' := [(h0, ob 11 f)]) rfl ?_
      refine S_if_eq (tgt := 25) X dX12_isBar_18 (by decide) (by decide) (fun h9 => absurd h9 (by decide)) (fun _ => ?_)
      refine S_iconst X dX12_isBar_21 ?_
      refine S_goto (tgt := 26) X dX12_isBar_22 (by decide) ?_
      exact S_zret X (Or.inr rfl) (nle rfl) (nle rfl) dX12_isBar_26 (hPo _ _ (Or.inr (⟨by first | rfl | omega, rfl, by first | rfl | assumption | omega⟩)))
set_option maxHeartbeats 4000000 in
set_option maxRecDepth 100000 in
theorem kX12_beatBehind (l : Launch) (h0 : Nat) (f : Nat → AV) (pl : Int) (n : Int) (ec : Int) (hQ : Nat) (hA : Nat) (Q : Int → Int) (B : Int → Int) (E : Int → Int) (Ab : Int → Int) (b : Int) (pp : Int) (k : Int) (hf0 : f 29 = iv ec) (hf1 : f 20 = rv hQ) (hf2 : f 33 = rv hA) (hok : okS pl n ec (c5 Q 3) (c5 Q 4) B E) (hb : 0 ≤ b ∧ b < 200) (hp : 0 ≤ pp ∧ pp < pl) (hr : reg Ab (bF ec (c5 Q 3) (c5 Q 4) B) pl (b + 1) k) : AMi l yX12_beatBehind cX12_beatBehind 6 .int 1 0 0 [rv h0, iv b, iv pp] [(h0, ob 11 f), (hQ, ar 30 Q), (hA, ar 1206 Ab)] (fun z u => z = nxB ec (c5 Q 3) (c5 Q 4) (bF ec (c5 Q 3) (c5 Q 4) B) b pp ∧ u = [(h0, ob 11 f), (hQ, ar 30 Q), (hA, ar 1206 Ab)]) := by
  refine AMi.of2 rfl (nle rfl) ?_
  intro D G A p e s m args below meth c Po hPo X
  have hec := hok.2.2.2.2
  have hpp := hok.2.2.2.2.2.2 pp hp.1 hp.2
  have hpl := hok.2.1
  unfold c5 at hpp
  have hA1 := hr.at (z := 6 * b + pp) (x := b) (y := pp) rfl (by omega) (by omega) (by omega) (by omega)
  have hB1 := hok.beat b pp (by omega) hp.1 hp.2
  refine S_aload_n X dX12_beatBehind_0 rfl rfl ?_
  refine S_get X fgX12_65_11 0 rfl hf2 dX12_beatBehind_1 ?_
  refine S_bipush X dX12_beatBehind_4 rfl ?_
  refine S_iload_n X dX12_beatBehind_6 rfl rfl ?_
  refine S_imul X dX12_beatBehind_7 ?_
  refine S_iload_n X dX12_beatBehind_8 rfl rfl ?_
  refine S_iadd X dX12_beatBehind_9 ?_
  refine S_iald X 2 rfl (by omega) (by omega) (nle rfl) dX12_beatBehind_10 ?_
  refine S_istore_n X dX12_beatBehind_11 rfl (nle rfl) ?_
  refine S_aload_n X dX12_beatBehind_12 rfl rfl ?_
  refine S_iload_n X dX12_beatBehind_13 rfl rfl ?_
  refine S_iconst X dX12_beatBehind_14 ?_
  refine S_calli X (kX12_of l h0 f hQ Q pp 3 hf1 (by omega) (by omega)) (is := [0, 1]) rfl (run_V X lkX12_284 0 rfl rfl (is := [0, 1]) (avs := [iv pp, iv 3]) (rest := []) rfl rfl (nle rfl) ⟨nle rfl, nle rfl⟩ ⟨nle rfl, nle rfl⟩ dX12_beatBehind_15 (by decide) rfl) (fun z_3 u_1 hp_2 => ?_)
  obtain ⟨hz_4, hu_5⟩ := hp_2
  subst hz_4
  subst hu_5
  refine ⟨rfl, ?_⟩
  refine S_w (ws' := [(h0, ob 11 f), (hQ, ar 30 Q), (hA, ar 1206 Ab)]) rfl ?_
  refine S_istore X dX12_beatBehind_18 (nle rfl) ?_
  refine S_iload X dX12_beatBehind_20 rfl ?_
  refine S_iconst X dX12_beatBehind_22 ?_
  refine S_icmp_ne (tgt := 28) X dX12_beatBehind_23 (by decide) (by omega) (by decide) (fun c_6 => ?_) (fun c_6 => ?_)
  ·
    refine S_aload_n X dX12_beatBehind_28 rfl rfl ?_
    refine S_get X fgX12_65_11 0 rfl hf2 dX12_beatBehind_29 ?_
    refine S_bipush X dX12_beatBehind_32 rfl ?_
    refine S_iconst X dX12_beatBehind_34 ?_
    refine S_iload_n X dX12_beatBehind_35 rfl rfl ?_
    refine S_aload_n X dX12_beatBehind_36 rfl rfl ?_
    refine S_get X fgX12_287_11 0 rfl hf0 dX12_beatBehind_37 ?_
    refine S_isub X dX12_beatBehind_40 ?_
    refine S_mmax X lkX12_295 rfl rfl (by decide) (by omega) (nle rfl) (nle rfl) (nle rfl) (nle rfl) dX12_beatBehind_41 ?_
    refine S_imul X dX12_beatBehind_44 ?_
    refine S_iload X dX12_beatBehind_45 rfl ?_
    refine S_iadd X dX12_beatBehind_47 ?_
    refine S_iald X 2 rfl (by omega) (by omega) (nle rfl) dX12_beatBehind_48 ?_
    have hA2 := hr.at (z := 6 * max 0 (b - ec) + Q (5 * pp + 3)) (x := max 0 (b - ec)) (y := Q (5 * pp + 3)) rfl (by omega) (by omega) (by omega) (by omega)
    have hB2 := hok.beat (max 0 (b - ec)) (Q (5 * pp + 3)) (by omega) (by omega) (by omega)
    refine S_istore X dX12_beatBehind_49 (nle rfl) ?_
    refine S_iconst X dX12_beatBehind_51 ?_
    refine S_sipush X dX12_beatBehind_52 rfl ?_
    refine S_iload_n X dX12_beatBehind_55 rfl rfl ?_
    refine S_aload_n X dX12_beatBehind_56 rfl rfl ?_
    refine S_iload_n X dX12_beatBehind_57 rfl rfl ?_
    refine S_iconst X dX12_beatBehind_58 ?_
    refine S_calli X (kX12_of l h0 f hQ Q pp 4 hf1 (by omega) (by omega)) (is := [0, 1]) rfl (run_V X lkX12_284 0 rfl rfl (is := [0, 1]) (avs := [iv pp, iv 4]) (rest := [iv (Ab ((6 * b) + pp)), iv 199, iv 1]) rfl rfl (nle rfl) ⟨nle rfl, nle rfl⟩ ⟨nle rfl, nle rfl⟩ dX12_beatBehind_59 (by decide) rfl) (fun z_9 u_7 hp_8 => ?_)
    obtain ⟨hz_10, hu_11⟩ := hp_8
    subst hz_10
    subst hu_11
    refine ⟨rfl, ?_⟩
    refine S_w (ws' := [(h0, ob 11 f), (hQ, ar 30 Q), (hA, ar 1206 Ab)]) rfl ?_
    refine S_iload X dX12_beatBehind_62 rfl ?_
    refine S_iload_n X dX12_beatBehind_64 rfl rfl ?_
    refine S_isub X dX12_beatBehind_65 ?_
    refine S_imul X dX12_beatBehind_66 ?_
    have hm := mulr (h := Q (5 * pp + 4)) (d := Ab (6 * max 0 (b - ec) + Q (5 * pp + 3)) - Ab (6 * b + pp)) (by omega) (by omega)
    have hm2 := tdiv10 hm
    refine S_bipush X dX12_beatBehind_67 rfl ?_
    refine S_idiv X (by omega) (by decide) (by decide) dX12_beatBehind_69 ?_
    refine S_iadd X dX12_beatBehind_70 ?_
    refine S_mmin X lkX12_293 rfl rfl (by decide) (by omega) (nle rfl) (nle rfl) (nle rfl) (nle rfl) dX12_beatBehind_71 ?_
    refine S_mmax X lkX12_295 rfl rfl (by decide) (by omega) (nle rfl) (nle rfl) (nle rfl) (nle rfl) dX12_beatBehind_74 ?_
    exact S_iret X (nle rfl) (nle rfl) dX12_beatBehind_77 (hPo _ _ (⟨by unfold nxB c5; rw [if_neg (by assumption), hA1, hA2]; rfl, rfl⟩))
  ·
    refine S_iload_n X dX12_beatBehind_26 rfl rfl ?_
    exact S_iret X (nle rfl) (nle rfl) dX12_beatBehind_27 (hPo _ _ (⟨by unfold nxB c5; rw [if_pos (by assumption)]; exact hA1, rfl⟩))
set_option maxHeartbeats 4000000 in
set_option maxRecDepth 100000 in
theorem kX12_layBeats (l : Launch) (h0 : Nat) (f : Nat → AV) (pl : Int) (n : Int) (ec : Int) (hQ : Nat) (hB : Nat) (hA : Nat) (Q : Int → Int) (B : Int → Int) (E : Int → Int) (Ab : Int → Int) (k : Int) (hf0 : f 21 = iv pl) (hf1 : f 29 = iv ec) (hf2 : f 20 = rv hQ) (hf3 : f 23 = rv hB) (hf4 : f 33 = rv hA) (hok : okS pl n ec (c5 Q 3) (c5 Q 4) B E) (hk : 0 ≤ k ∧ k ≤ 201) : AMv l yX12_layBeats cX12_layBeats 4 2 0 0 [rv h0, iv k] [(h0, ob 11 f), (hQ, ar 30 Q), (hB, ar 6 B), (hA, ar 1206 Ab)] (fun u => ∃ A2 : Int → Int, u = [(h0, ob 11 f), (hQ, ar 30 Q), (hB, ar 6 B), (hA, ar 1206 A2)] ∧ reg A2 (bF ec (c5 Q 3) (c5 Q 4) B) pl k 0) := by
  refine AMv.of2 rfl (nle rfl) ?_
  intro D G A p e s m args below meth c Po hPo hnm X
  have hpl := hok.2.1
  have hpl1 := hok.1
  have hec := hok.2.2.2.2
  refine S_iconst X dX12_layBeats_0 ?_
  refine S_istore_n X dX12_layBeats_1 rfl (nle rfl) ?_
  have lp2_0 : ∀ (N : Nat) (b : Int) (Av : Int → Int) (L : Nat → Option AV), 0 ≤ b ∧ b ≤ k → reg Av (bF ec (c5 Q 3) (c5 Q 4) B) pl b 0 → L 0 = some (rv h0) → L 1 = some (iv k) → L 2 = some (iv b) → k + 1 - b < (N : Int) → S_ p l e (rmD 2 0 0) s m args below meth c (MQ below (QcV D G A Po) args s 0 0 A) D G A 4 0 0 2 L [] [(h0, ob 11 f), (hQ, ar 30 Q), (hB, ar 6 B), (hA, ar 1206 Av)] := by
    intro N
    induction N with
    | zero =>
      intro b Av L2 hb hreg2 hL2_0 hL2_1 hL2_2 hN2
      exfalso; omega
    | succ N ih2 =>
      intro b Av L2 hb hreg2 hL2_0 hL2_1 hL2_2 hN2
      refine S_iload_n X dX12_layBeats_2 rfl hL2_2 ?_
      refine S_iload_n X dX12_layBeats_3 rfl hL2_1 ?_
      refine S_icmp_ge (tgt := 61) X dX12_layBeats_4 (by decide) (by omega) (by omega) (fun c_1 => ?_) (fun c_1 => ?_)
      ·
        exact S_vret X (nle rfl) (nle rfl) dX12_layBeats_61 (hPo _ (⟨_, rfl, hreg2.lo (by omega)⟩))
      ·
        refine S_iconst X dX12_layBeats_7 ?_
        refine S_istore_n X dX12_layBeats_8 rfl (nle rfl) ?_
        have lp9_3 : ∀ (N : Nat) (pp : Int) (Aw : Int → Int) (L : Nat → Option AV), 0 ≤ pp ∧ pp ≤ pl → reg Aw (bF ec (c5 Q 3) (c5 Q 4) B) pl b pp → L 0 = some (rv h0) → L 1 = some (iv k) → L 2 = some (iv b) → L 3 = some (iv pp) → pl + 1 - pp < (N : Int) → S_ p l e (rmD 2 0 0) s m args below meth c (MQ below (QcV D G A Po) args s 0 0 A) D G A 4 0 0 9 L [] [(h0, ob 11 f), (hQ, ar 30 Q), (hB, ar 6 B), (hA, ar 1206 Aw)] := by
          intro N
          induction N with
          | zero =>
            intro pp Aw L9 hp hreg9 hL9_0 hL9_1 hL9_2 hL9_3 hN9
            exfalso; omega
          | succ N ih9 =>
            intro pp Aw L9 hp hreg9 hL9_0 hL9_1 hL9_2 hL9_3 hN9
            refine S_iload_n X dX12_layBeats_9 rfl hL9_3 ?_
            refine S_aload_n X dX12_layBeats_10 rfl hL9_0 ?_
            refine S_get X fgX12_253_11 0 rfl hf0 dX12_layBeats_11 ?_
            refine S_icmp_ge (tgt := 55) X dX12_layBeats_14 (by decide) (by omega) (by omega) (fun c_2 => ?_) (fun c_2 => ?_)
            ·
              refine S_iinc X dX12_layBeats_55 (nle rfl) hL9_2 ?_
              refine S_goto (tgt := 2) X dX12_layBeats_58 (by decide) ?_
              exact ih2 (b + 1) Aw _ (by omega) (hreg9.next (by omega)) hL9_0 hL9_1 rfl (by omega)
            ·
              refine S_aload_n X dX12_layBeats_17 rfl hL9_0 ?_
              refine S_get X fgX12_65_11 0 rfl hf4 dX12_layBeats_18 ?_
              refine S_bipush X dX12_layBeats_21 rfl ?_
              refine S_iload_n X dX12_layBeats_23 rfl hL9_2 ?_
              refine S_imul X dX12_layBeats_24 ?_
              refine S_iload_n X dX12_layBeats_25 rfl hL9_3 ?_
              refine S_iadd X dX12_layBeats_26 ?_
              refine S_iload_n X dX12_layBeats_27 rfl hL9_2 ?_
              refine S_if_ne (tgt := 40) X dX12_layBeats_28 (by decide) (by omega) (fun c_3 => ?_) (fun c_3 => ?_)
              ·
                refine S_aload_n X dX12_layBeats_40 rfl hL9_0 ?_
                refine S_iload_n X dX12_layBeats_41 rfl hL9_2 ?_
                refine S_iconst X dX12_layBeats_42 ?_
                refine S_isub X dX12_layBeats_43 ?_
                refine S_iload_n X dX12_layBeats_44 rfl hL9_3 ?_
                refine S_calli X (kX12_beatBehind l h0 f pl n ec hQ hA Q B E Aw (b - 1) pp pp hf1 hf2 hf4 (by omega) (by omega) (by omega) (by rw [Int.sub_add_cancel]; exact hreg9)) (is := [0, 1, 3]) rfl (run_V X lkX12_303 0 rfl rfl (is := [0, 1, 3]) (avs := [iv (b - 1), iv pp]) (rest := [iv ((6 * b) + pp), rv hA]) rfl rfl (nle rfl) ⟨nle rfl, nle rfl⟩ ⟨nle rfl, nle rfl⟩ dX12_layBeats_45 (by decide) rfl) (fun z_6 u_4 hp_5 => ?_)
                obtain ⟨hz_7, hu_8⟩ := hp_5
                subst hz_7
                subst hu_8
                refine ⟨rfl, ?_⟩
                refine S_w (ws' := [(h0, ob 11 f), (hQ, ar 30 Q), (hB, ar 6 B), (hA, ar 1206 Aw)]) rfl ?_
                refine S_iast X 3 rfl (by omega) (by omega) (nle rfl) dX12_layBeats_48 ?_
                refine S_w (ws' := [(h0, ob 11 f), (hQ, ar 30 Q), (hB, ar 6 B), (hA, ar 1206 (uZ Aw ((6 * b) + pp) (nxB ec (c5 Q 3) (c5 Q 4) (bF ec (c5 Q 3) (c5 Q 4) B) (b - 1) pp)))]) rfl ?_
                refine S_iinc X dX12_layBeats_49 (nle rfl) hL9_3 ?_
                refine S_goto (tgt := 9) X dX12_layBeats_52 (by decide) ?_
                exact ih9 (pp + 1) (uZ Aw ((6 * b) + pp) (nxB ec (c5 Q 3) (c5 Q 4) (bF ec (c5 Q 3) (c5 Q 4) B) (b - 1) pp)) _ (by omega) (hreg9.put (by omega) (by omega) (by omega) (by omega) rfl (bF_P (by omega) (by omega)).symm) hL9_0 hL9_1 hL9_2 rfl (by omega)
              ·
                refine S_aload_n X dX12_layBeats_31 rfl hL9_0 ?_
                refine S_get X fgX12_46_11 0 rfl hf3 dX12_layBeats_32 ?_
                refine S_iload_n X dX12_layBeats_35 rfl hL9_3 ?_
                refine S_iald X 2 rfl (by omega) (by omega) (nle rfl) dX12_layBeats_36 ?_
                refine S_goto (tgt := 48) X dX12_layBeats_37 (by decide) ?_
                refine S_iast X 3 rfl (by omega) (by omega) (nle rfl) dX12_layBeats_48 ?_
                refine S_w (ws' := [(h0, ob 11 f), (hQ, ar 30 Q), (hB, ar 6 B), (hA, ar 1206 (uZ Aw ((6 * b) + pp) (B pp)))]) rfl ?_
                refine S_iinc X dX12_layBeats_49 (nle rfl) hL9_3 ?_
                refine S_goto (tgt := 9) X dX12_layBeats_52 (by decide) ?_
                exact ih9 (pp + 1) (uZ Aw ((6 * b) + pp) (B pp)) _ (by omega) (hreg9.put (by omega) (by omega) (by omega) (by omega) rfl (by rw [c_3]; exact bF_0.symm)) hL9_0 hL9_1 hL9_2 rfl (by omega)
        exact lp9_3 (Int.toNat (pl + 1 - 0) + 1) 0 Av _ (by omega) (hreg2) hL2_0 hL2_1 hL2_2 rfl (by omega)
  exact lp2_0 (Int.toNat (k + 1 - 0) + 1) 0 Ab _ (by omega) (reg.zero) rfl rfl rfl (by omega)
set_option maxHeartbeats 4000000 in
set_option maxRecDepth 100000 in
theorem kX12_play (l : Launch) (h0 : Nat) (f : Nat → AV) (pl : Int) (n : Int) (ec : Int) (mk : Int) (hQ : Nat) (hB : Nat) (hE : Nat) (hA : Nat) (hM : Nat) (hW : Nat) (Q : Int → Int) (B : Int → Int) (E : Int → Int) (Ab : Int → Int) (Mt : Int → Int) (Wt : Int → Int) (hf0 : f 21 = iv pl) (hf1 : f 28 = iv n) (hf2 : f 29 = iv ec) (hf3 : f 26 = iv mk) (hf4 : f 20 = rv hQ) (hf5 : f 23 = rv hB) (hf6 : f 24 = rv hE) (hf7 : f 33 = rv hA) (hf8 : f 34 = rv hM) (hf9 : f 35 = rv hW) (hok : okS pl n ec (c5 Q 3) (c5 Q 4) B E) : AMv l yX12_play cX12_play 5 3 0 0 [rv h0] [(h0, ob 11 f), (hQ, ar 30 Q), (hB, ar 6 B), (hE, ar 6 E), (hA, ar 1206 Ab), (hM, ar 180 Mt), (hW, ar 180 Wt)] (fun u => ∃ A2 : Int → Int, ∃ M2 : Int → Int, ∃ W2 : Int → Int, u = [(h0, ob 11 f), (hQ, ar 30 Q), (hB, ar 6 B), (hE, ar 6 E), (hA, ar 1206 A2), (hM, ar 180 M2), (hW, ar 180 W2)] ∧ reg A2 (bF ec (c5 Q 3) (c5 Q 4) B) pl n 0 ∧ reg M2 (tS pl ec mk (c5 Q 3) (c5 Q 4) B E) pl n 0 ∧ reg W2 (wS pl ec mk (c5 Q 3) (c5 Q 4) B E) pl n 0) := by
  refine AMv.of2 rfl (nle rfl) ?_
  intro D G A p e s m args below meth c Po hPo hnm X
  have hpl := hok.2.1
  have hpl1 := hok.1
  have hn1 := hok.2.2.1
  have hn2 := hok.2.2.2.1
  have hec := hok.2.2.2.2
  refine S_aload_n X dX12_play_0 rfl rfl ?_
  refine S_aload_n X dX12_play_1 rfl rfl ?_
  refine S_get X fgX12_56_11 0 rfl hf1 dX12_play_2 ?_
  refine S_callv X (kX12_layBeats l h0 f pl n ec hQ hB hA Q B E Ab n hf0 hf2 hf4 hf5 hf7 (by omega) (by omega)) (is := [0, 1, 2, 4]) rfl (run_V X lkX12_306 0 rfl rfl (is := [0, 1, 2, 4]) (avs := [iv n]) (rest := []) rfl rfl (nle rfl) ⟨nle rfl, nle rfl⟩ ⟨nle rfl, nle rfl⟩ dX12_play_5 (by decide) rfl) (fun u_1 hp_2 => ?_)
  obtain ⟨A2_4, hu_6, hreg_7⟩ := hp_2
  subst hu_6
  refine ⟨rfl, ?_⟩
  refine S_w (ws' := [(h0, ob 11 f), (hQ, ar 30 Q), (hB, ar 6 B), (hE, ar 6 E), (hA, ar 1206 A2_4), (hM, ar 180 Mt), (hW, ar 180 Wt)]) rfl ?_
  have hAL := hreg_7
  refine S_iconst X dX12_play_8 ?_
  refine S_istore_n X dX12_play_9 rfl (nle rfl) ?_
  have lp10_0 : ∀ (N : Nat) (b : Int) (Mv : Int → Int) (Wv : Int → Int) (L : Nat → Option AV), 0 ≤ b ∧ b ≤ n → reg Mv (tS pl ec mk (c5 Q 3) (c5 Q 4) B E) pl b 0 → reg Wv (wS pl ec mk (c5 Q 3) (c5 Q 4) B E) pl b 0 → L 0 = some (rv h0) → L 1 = some (iv b) → n + 1 - b < (N : Int) → S_ p l e (rmD 3 0 0) s m args below meth c (MQ below (QcV D G A Po) args s 0 0 A) D G A 5 0 0 10 L [] [(h0, ob 11 f), (hQ, ar 30 Q), (hB, ar 6 B), (hE, ar 6 E), (hA, ar 1206 A2_4), (hM, ar 180 Mv), (hW, ar 180 Wv)] := by
    intro N
    induction N with
    | zero =>
      intro b Mv Wv L10 hb hM10 hW10 hL10_0 hL10_1 hN10
      exfalso; omega
    | succ N ih10 =>
      intro b Mv Wv L10 hb hM10 hW10 hL10_0 hL10_1 hN10
      refine S_iload_n X dX12_play_10 rfl hL10_1 ?_
      refine S_aload_n X dX12_play_11 rfl hL10_0 ?_
      refine S_get X fgX12_56_11 0 rfl hf1 dX12_play_12 ?_
      refine S_icmp_ge (tgt := 166) X dX12_play_15 (by decide) (by omega) (by omega) (fun c_8 => ?_) (fun c_8 => ?_)
      ·
        exact S_vret X (nle rfl) (nle rfl) dX12_play_166 (hPo _ (⟨_, _, _, rfl, hAL, hM10.lo (by omega), hW10.lo (by omega)⟩))
      ·
        refine S_iconst X dX12_play_18 ?_
        refine S_istore_n X dX12_play_19 rfl (nle rfl) ?_
        refine S_iconst X dX12_play_20 ?_
        refine S_istore_n X dX12_play_21 rfl (nle rfl) ?_
        have lp22_3 : ∀ (N : Nat) (pp : Int) (mo : Int) (Mw : Int → Int) (L : Nat → Option AV), 0 ≤ pp ∧ pp ≤ pl → mo = mxI ((tS pl ec mk (c5 Q 3) (c5 Q 4) B E) b) pp → reg Mw (tS pl ec mk (c5 Q 3) (c5 Q 4) B E) pl b pp → L 0 = some (rv h0) → L 1 = some (iv b) → L 2 = some (iv mo) → L 3 = some (iv pp) → pl + 1 - pp < (N : Int) → S_ p l e (rmD 3 0 0) s m args below meth c (MQ below (QcV D G A Po) args s 0 0 A) D G A 5 0 0 22 L [] [(h0, ob 11 f), (hQ, ar 30 Q), (hB, ar 6 B), (hE, ar 6 E), (hA, ar 1206 A2_4), (hM, ar 180 Mw), (hW, ar 180 Wv)] := by
          intro N
          induction N with
          | zero =>
            intro pp mo Mw L22 hp hmo hM22 hL22_0 hL22_1 hL22_2 hL22_3 hN22
            exfalso; omega
          | succ N ih22 =>
            intro pp mo Mw L22 hp hmo hM22 hL22_0 hL22_1 hL22_2 hL22_3 hN22
            refine S_iload_n X dX12_play_22 rfl hL22_3 ?_
            refine S_aload_n X dX12_play_23 rfl hL22_0 ?_
            refine S_get X fgX12_253_11 0 rfl hf0 dX12_play_24 ?_
            refine S_icmp_ge (tgt := 107) X dX12_play_27 (by decide) (by omega) (by omega) (fun c_9 => ?_) (fun c_9 => ?_)
            ·
              have hmo2 : mo = mxI ((tS pl ec mk (c5 Q 3) (c5 Q 4) B E) b) pl := by rw [hmo]; congr 1; omega
              refine S_iconst X dX12_play_107 ?_
              refine S_istore_n X dX12_play_108 rfl (nle rfl) ?_
              have lp109_6 : ∀ (N : Nat) (q : Int) (Wx : Int → Int) (L : Nat → Option AV), 0 ≤ q ∧ q ≤ pl → reg Wx (wS pl ec mk (c5 Q 3) (c5 Q 4) B E) pl b q → L 0 = some (rv h0) → L 1 = some (iv b) → L 2 = some (iv mo) → L 3 = some (iv q) → pl + 1 - q < (N : Int) → S_ p l e (rmD 3 0 0) s m args below meth c (MQ below (QcV D G A Po) args s 0 0 A) D G A 5 0 0 109 L [] [(h0, ob 11 f), (hQ, ar 30 Q), (hB, ar 6 B), (hE, ar 6 E), (hA, ar 1206 A2_4), (hM, ar 180 Mw), (hW, ar 180 Wx)] := by
                intro N
                induction N with
                | zero =>
                  intro q Wx L109 hq hW109 hL109_0 hL109_1 hL109_2 hL109_3 hN109
                  exfalso; omega
                | succ N ih109 =>
                  intro q Wx L109 hq hW109 hL109_0 hL109_1 hL109_2 hL109_3 hN109
                  refine S_iload_n X dX12_play_109 rfl hL109_3 ?_
                  refine S_aload_n X dX12_play_110 rfl hL109_0 ?_
                  refine S_get X fgX12_253_11 0 rfl hf0 dX12_play_111 ?_
                  refine S_icmp_ge (tgt := 160) X dX12_play_114 (by decide) (by omega) (by omega) (fun c_10 => ?_) (fun c_10 => ?_)
                  ·
                    refine S_iinc X dX12_play_160 (nle rfl) hL109_1 ?_
                    refine S_goto (tgt := 10) X dX12_play_163 (by decide) ?_
                    exact ih10 (b + 1) Mw Wx _ (by omega) (hM22.next (by omega)) (hW109.next (by omega)) hL109_0 rfl (by omega)
                  ·
                    refine S_aload_n X dX12_play_117 rfl hL109_0 ?_
                    refine S_get X fgX12_71_11 0 rfl hf9 dX12_play_118 ?_
                    refine S_bipush X dX12_play_121 rfl ?_
                    refine S_iload_n X dX12_play_123 rfl hL109_1 ?_
                    refine S_imul X dX12_play_124 ?_
                    refine S_iload_n X dX12_play_125 rfl hL109_3 ?_
                    refine S_iadd X dX12_play_126 ?_
                    refine S_aload_n X dX12_play_127 rfl hL109_0 ?_
                    refine S_get X fgX12_265_11 0 rfl hf3 dX12_play_128 ?_
                    refine S_iload_n X dX12_play_131 rfl hL109_1 ?_
                    refine S_calli X (kX12_has l mk b ) (is := []) rfl (run_S X lkX12_226 (is := []) (avs := [iv mk, iv b]) (rest := [iv ((6 * b) + q), rv hW]) rfl rfl (nle rfl) ⟨nle rfl, nle rfl⟩ ⟨nle rfl, nle rfl⟩ dX12_play_132 (by decide) rfl) (fun z_13 u_11 hp_12 => ?_)
                    rcases hp_12 with ⟨hz_14, hu_15, hq_16⟩ | ⟨hz_17, hu_18, hq_19⟩
                    ·
                      subst hz_14
                      subst hu_15
                      refine ⟨rfl, ?_⟩
                      refine S_w (ws' := [(h0, ob 11 f), (hQ, ar 30 Q), (hB, ar 6 B), (hE, ar 6 E), (hA, ar 1206 A2_4), (hM, ar 180 Mw), (hW, ar 180 Wx)]) rfl ?_
                      have hv9 := zMk_0 (mk := mk) (b := b) (by have := zAnd1 (zShr mk b); omega)
                      refine S_if_eq (tgt := 142) X dX12_play_135 (by decide) (by decide) (fun _ => ?_) (fun h9 => absurd h9 (by decide))
                      refine S_aload_n X dX12_play_142 rfl hL109_0 ?_
                      refine S_get X fgX12_68_11 0 rfl hf8 dX12_play_143 ?_
                      refine S_bipush X dX12_play_146 rfl ?_
                      refine S_iload_n X dX12_play_148 rfl hL109_1 ?_
                      refine S_imul X dX12_play_149 ?_
                      refine S_iload_n X dX12_play_150 rfl hL109_3 ?_
                      refine S_iadd X dX12_play_151 ?_
                      refine S_iald X 5 rfl (by omega) (by omega) (nle rfl) dX12_play_152 ?_
                      refine S_iast X 6 rfl (by omega) (by omega) (nle rfl) dX12_play_153 ?_
                      refine S_w (ws' := [(h0, ob 11 f), (hQ, ar 30 Q), (hB, ar 6 B), (hE, ar 6 E), (hA, ar 1206 A2_4), (hM, ar 180 Mw), (hW, ar 180 (uZ Wx ((6 * b) + q) (Mw ((6 * b) + q))))]) rfl ?_
                      refine S_iinc X dX12_play_154 (nle rfl) hL109_3 ?_
                      refine S_goto (tgt := 109) X dX12_play_157 (by decide) ?_
                      exact ih109 (q + 1) (uZ Wx ((6 * b) + q) (Mw ((6 * b) + q))) _ (by omega) (hW109.put (by omega) (by omega) (by omega) (by omega) rfl (by rw [wS, wF_0 hv9]; exact hM22.at rfl (by omega) (by omega) (by omega) (by omega))) hL109_0 hL109_1 hL109_2 rfl (by omega)
                    ·
                      subst hz_17
                      subst hu_18
                      refine ⟨rfl, ?_⟩
                      refine S_w (ws' := [(h0, ob 11 f), (hQ, ar 30 Q), (hB, ar 6 B), (hE, ar 6 E), (hA, ar 1206 A2_4), (hM, ar 180 Mw), (hW, ar 180 Wx)]) rfl ?_
                      have hv9 := zMk_1 (mk := mk) (b := b) (by have := zAnd1 (zShr mk b); omega)
                      refine S_if_eq (tgt := 142) X dX12_play_135 (by decide) (by decide) (fun h9 => absurd h9 (by decide)) (fun _ => ?_)
                      refine S_iload_n X dX12_play_138 rfl hL109_2 ?_
                      refine S_goto (tgt := 153) X dX12_play_139 (by decide) ?_
                      refine S_iast X 6 rfl (by omega) (by omega) (nle rfl) dX12_play_153 ?_
                      refine S_w (ws' := [(h0, ob 11 f), (hQ, ar 30 Q), (hB, ar 6 B), (hE, ar 6 E), (hA, ar 1206 A2_4), (hM, ar 180 Mw), (hW, ar 180 (uZ Wx ((6 * b) + q) mo))]) rfl ?_
                      refine S_iinc X dX12_play_154 (nle rfl) hL109_3 ?_
                      refine S_goto (tgt := 109) X dX12_play_157 (by decide) ?_
                      exact ih109 (q + 1) (uZ Wx ((6 * b) + q) mo) _ (by omega) (hW109.put (by omega) (by omega) (by omega) (by omega) rfl (by rw [wS, wF_1 hv9, hmo2]; rfl)) hL109_0 hL109_1 hL109_2 rfl (by omega)
              exact lp109_6 (Int.toNat (pl + 1 - 0) + 1) 0 Wv _ (by omega) (hW10) hL22_0 hL22_1 hL22_2 rfl (by omega)
            ·
              refine S_iload_n X dX12_play_30 rfl hL22_1 ?_
              refine S_if_ne (tgt := 38) X dX12_play_31 (by decide) (by omega) (fun c_22 => ?_) (fun c_22 => ?_)
              ·
                refine S_aload_n X dX12_play_38 rfl hL22_0 ?_
                refine S_get X fgX12_71_11 0 rfl hf9 dX12_play_39 ?_
                refine S_bipush X dX12_play_42 rfl ?_
                refine S_iload_n X dX12_play_44 rfl hL22_1 ?_
                refine S_iconst X dX12_play_45 ?_
                refine S_isub X dX12_play_46 ?_
                refine S_imul X dX12_play_47 ?_
                refine S_iload_n X dX12_play_48 rfl hL22_3 ?_
                refine S_iadd X dX12_play_49 ?_
                refine S_iald X 6 rfl (by omega) (by omega) (nle rfl) dX12_play_50 ?_
                have hW9 := hW10.at (z := 6 * (b - 1) + pp) (x := b - 1) (y := pp) rfl (by omega) (by omega) (by omega) (by omega)
                have hWr := hok.wait (mk := mk) (b - 1) pp (by omega) (by omega) (by omega)
                have hA9 := hAL.at (z := 6 * b + pp) (x := b) (y := pp) rfl (by omega) (by omega) (by omega) (by omega)
                have hAr := hok.beat b pp (by omega) (by omega) (by omega)
                have hEr := (hok.2.2.2.2.2.2 pp (by omega) (by omega)).2.2.2
                have hmr := mxI_le (g := (tS pl ec mk (c5 Q 3) (c5 Q 4) B E) b) (K := 7470) (by omega) pp (by omega) (fun y y0 y1 => by have := (hok.time (mk := mk) b y (by omega) y0 (by omega)).2; omega)
                have hmr0 := (mxI_ge (g := (tS pl ec mk (c5 Q 3) (c5 Q 4) B E) b) pp (by omega)).1
                refine S_istore X dX12_play_51 (nle rfl) ?_
                refine S_aload_n X dX12_play_53 rfl hL22_0 ?_
                refine S_get X fgX12_68_11 0 rfl hf8 dX12_play_54 ?_
                refine S_bipush X dX12_play_57 rfl ?_
                refine S_iload_n X dX12_play_59 rfl hL22_1 ?_
                refine S_imul X dX12_play_60 ?_
                refine S_iload_n X dX12_play_61 rfl hL22_3 ?_
                refine S_iadd X dX12_play_62 ?_
                refine S_iload X dX12_play_63 rfl ?_
                refine S_aload_n X dX12_play_65 rfl hL22_0 ?_
                refine S_get X fgX12_65_11 0 rfl hf7 dX12_play_66 ?_
                refine S_bipush X dX12_play_69 rfl ?_
                refine S_iload_n X dX12_play_71 rfl hL22_1 ?_
                refine S_imul X dX12_play_72 ?_
                refine S_iload_n X dX12_play_73 rfl hL22_3 ?_
                refine S_iadd X dX12_play_74 ?_
                refine S_iald X 4 rfl (by omega) (by omega) (nle rfl) dX12_play_75 ?_
                refine S_iadd X dX12_play_76 ?_
                refine S_aload_n X dX12_play_77 rfl hL22_0 ?_
                refine S_get X fgX12_49_11 0 rfl hf6 dX12_play_78 ?_
                refine S_iload_n X dX12_play_81 rfl hL22_3 ?_
                refine S_iald X 3 rfl (by omega) (by omega) (nle rfl) dX12_play_82 ?_
                refine S_iadd X dX12_play_83 ?_
                refine S_iast X 5 rfl (by omega) (by omega) (nle rfl) dX12_play_84 ?_
                refine S_w (ws' := [(h0, ob 11 f), (hQ, ar 30 Q), (hB, ar 6 B), (hE, ar 6 E), (hA, ar 1206 A2_4), (hM, ar 180 (uZ Mw ((6 * b) + pp) (((Wv ((6 * (b - 1)) + pp)) + (A2_4 ((6 * b) + pp))) + (E pp)))), (hW, ar 180 Wv)]) rfl ?_
                refine S_iload_n X dX12_play_85 rfl hL22_2 ?_
                refine S_aload_n X dX12_play_86 rfl hL22_0 ?_
                refine S_get X fgX12_68_11 0 rfl hf8 dX12_play_87 ?_
                refine S_bipush X dX12_play_90 rfl ?_
                refine S_iload_n X dX12_play_92 rfl hL22_1 ?_
                refine S_imul X dX12_play_93 ?_
                refine S_iload_n X dX12_play_94 rfl hL22_3 ?_
                refine S_iadd X dX12_play_95 ?_
                refine S_iald X 5 rfl (by omega) (by omega) (nle rfl) dX12_play_96 ?_
                rw [uZ_at]
                refine S_mmax X lkX12_295 rfl rfl (by omega) (by omega) (nle rfl) (nle rfl) (nle rfl) (nle rfl) dX12_play_97 ?_
                refine S_istore_n X dX12_play_100 rfl (nle rfl) ?_
                refine S_iinc X dX12_play_101 (nle rfl) hL22_3 ?_
                refine S_goto (tgt := 22) X dX12_play_104 (by decide) ?_
                exact ih22 (pp + 1) (max mo (((Wv ((6 * (b - 1)) + pp)) + (A2_4 ((6 * b) + pp))) + (E pp))) (uZ Mw ((6 * b) + pp) (((Wv ((6 * (b - 1)) + pp)) + (A2_4 ((6 * b) + pp))) + (E pp))) _ (by omega) (by rw [mxI_S hp.1, hmo]; congr 1; rw [hA9, hW9]; exact (tF_P (by omega)).symm) (hM22.put (by omega) (by omega) (by omega) (by omega) rfl (by rw [hA9, hW9]; exact (tF_P (by omega)).symm)) hL22_0 hL22_1 rfl rfl (by omega)
              ·
                refine S_iconst X dX12_play_34 ?_
                refine S_goto (tgt := 51) X dX12_play_35 (by decide) ?_
                have hA9 := hAL.at (z := 6 * b + pp) (x := b) (y := pp) rfl (by omega) (by omega) (by omega) (by omega)
                have hAr := hok.beat b pp (by omega) (by omega) (by omega)
                have hEr := (hok.2.2.2.2.2.2 pp (by omega) (by omega)).2.2.2
                have hmr := mxI_le (g := (tS pl ec mk (c5 Q 3) (c5 Q 4) B E) b) (K := 7470) (by omega) pp (by omega) (fun y y0 y1 => by have := (hok.time (mk := mk) b y (by omega) y0 (by omega)).2; omega)
                have hmr0 := (mxI_ge (g := (tS pl ec mk (c5 Q 3) (c5 Q 4) B E) b) pp (by omega)).1
                refine S_istore X dX12_play_51 (nle rfl) ?_
                refine S_aload_n X dX12_play_53 rfl hL22_0 ?_
                refine S_get X fgX12_68_11 0 rfl hf8 dX12_play_54 ?_
                refine S_bipush X dX12_play_57 rfl ?_
                refine S_iload_n X dX12_play_59 rfl hL22_1 ?_
                refine S_imul X dX12_play_60 ?_
                refine S_iload_n X dX12_play_61 rfl hL22_3 ?_
                refine S_iadd X dX12_play_62 ?_
                refine S_iload X dX12_play_63 rfl ?_
                refine S_aload_n X dX12_play_65 rfl hL22_0 ?_
                refine S_get X fgX12_65_11 0 rfl hf7 dX12_play_66 ?_
                refine S_bipush X dX12_play_69 rfl ?_
                refine S_iload_n X dX12_play_71 rfl hL22_1 ?_
                refine S_imul X dX12_play_72 ?_
                refine S_iload_n X dX12_play_73 rfl hL22_3 ?_
                refine S_iadd X dX12_play_74 ?_
                refine S_iald X 4 rfl (by omega) (by omega) (nle rfl) dX12_play_75 ?_
                refine S_iadd X dX12_play_76 ?_
                refine S_aload_n X dX12_play_77 rfl hL22_0 ?_
                refine S_get X fgX12_49_11 0 rfl hf6 dX12_play_78 ?_
                refine S_iload_n X dX12_play_81 rfl hL22_3 ?_
                refine S_iald X 3 rfl (by omega) (by omega) (nle rfl) dX12_play_82 ?_
                refine S_iadd X dX12_play_83 ?_
                refine S_iast X 5 rfl (by omega) (by omega) (nle rfl) dX12_play_84 ?_
                refine S_w (ws' := [(h0, ob 11 f), (hQ, ar 30 Q), (hB, ar 6 B), (hE, ar 6 E), (hA, ar 1206 A2_4), (hM, ar 180 (uZ Mw ((6 * b) + pp) ((0 + (A2_4 ((6 * b) + pp))) + (E pp)))), (hW, ar 180 Wv)]) rfl ?_
                refine S_iload_n X dX12_play_85 rfl hL22_2 ?_
                refine S_aload_n X dX12_play_86 rfl hL22_0 ?_
                refine S_get X fgX12_68_11 0 rfl hf8 dX12_play_87 ?_
                refine S_bipush X dX12_play_90 rfl ?_
                refine S_iload_n X dX12_play_92 rfl hL22_1 ?_
                refine S_imul X dX12_play_93 ?_
                refine S_iload_n X dX12_play_94 rfl hL22_3 ?_
                refine S_iadd X dX12_play_95 ?_
                refine S_iald X 5 rfl (by omega) (by omega) (nle rfl) dX12_play_96 ?_
                rw [uZ_at]
                refine S_mmax X lkX12_295 rfl rfl (by omega) (by omega) (nle rfl) (nle rfl) (nle rfl) (nle rfl) dX12_play_97 ?_
                refine S_istore_n X dX12_play_100 rfl (nle rfl) ?_
                refine S_iinc X dX12_play_101 (nle rfl) hL22_3 ?_
                refine S_goto (tgt := 22) X dX12_play_104 (by decide) ?_
                exact ih22 (pp + 1) (max mo ((0 + (A2_4 ((6 * b) + pp))) + (E pp))) (uZ Mw ((6 * b) + pp) ((0 + (A2_4 ((6 * b) + pp))) + (E pp))) _ (by omega) (by rw [mxI_S hp.1, hmo]; congr 1; rw [hA9]; rw [show b = 0 from c_22]; exact tF_0.symm) (hM22.put (by omega) (by omega) (by omega) (by omega) rfl (by rw [hA9]; rw [show b = 0 from c_22]; exact tF_0.symm)) hL22_0 hL22_1 rfl rfl (by omega)
        exact lp22_3 (Int.toNat (pl + 1 - 0) + 1) 0 0 Mv _ (by omega) (rfl) (hM10) hL10_0 hL10_1 rfl rfl (by omega)
  exact lp10_0 (Int.toNat (n + 1 - 0) + 1) 0 Mt Wt _ (by omega) (reg.zero) (reg.zero) rfl rfl (by omega)
set_option maxHeartbeats 4000000 in
set_option maxRecDepth 100000 in
theorem kX12_spreadAt (l : Launch) (h0 : Nat) (f : Nat → AV) (pl : Int) (n : Int) (ec : Int) (mk : Int) (hM : Nat) (Q : Int → Int) (B : Int → Int) (E : Int → Int) (Mt : Int → Int) (b : Int) (hf0 : f 21 = iv pl) (hf1 : f 34 = rv hM) (hok : okS pl n ec (c5 Q 3) (c5 Q 4) B E) (hMr : reg Mt (tS pl ec mk (c5 Q 3) (c5 Q 4) B E) pl n 0) (hb : 0 ≤ b ∧ b < n) : AMi l yX12_spreadAt cX12_spreadAt 5 .int 1 0 0 [rv h0, iv b] [(h0, ob 11 f), (hM, ar 180 Mt)] (fun z u => z = sS pl ec mk (c5 Q 3) (c5 Q 4) B E b ∧ u = [(h0, ob 11 f), (hM, ar 180 Mt)]) := by
  refine AMi.of2 rfl (nle rfl) ?_
  intro D G A p e s m args below meth c Po hPo X
  have hpl := hok.2.1
  have hpl1 := hok.1
  have hn1 := hok.2.2.1
  have hn2 := hok.2.2.2.1
  have hec := hok.2.2.2.2
  have h00 := hMr.at (z := 6 * b) (x := b) (y := 0) (by omega) (by omega) (by omega) (by omega) (by omega)
  have h01 := hok.time (mk := mk) b 0 (by omega) (by omega) (by omega)
  have e0 := mxI_1 (g := (tS pl ec mk (c5 Q 3) (c5 Q 4) B E) b)
  have e1 := mnI_1 (g := (tS pl ec mk (c5 Q 3) (c5 Q 4) B E) b)
  refine S_aload_n X dX12_spreadAt_0 rfl rfl ?_
  refine S_get X fgX12_68_11 0 rfl hf1 dX12_spreadAt_1 ?_
  refine S_bipush X dX12_spreadAt_4 rfl ?_
  refine S_iload_n X dX12_spreadAt_6 rfl rfl ?_
  refine S_imul X dX12_spreadAt_7 ?_
  refine S_iald X 1 rfl (by omega) (by omega) (nle rfl) dX12_spreadAt_8 ?_
  refine S_istore_n X dX12_spreadAt_9 rfl (nle rfl) ?_
  refine S_iload_n X dX12_spreadAt_10 rfl rfl ?_
  refine S_istore_n X dX12_spreadAt_11 rfl (nle rfl) ?_
  refine S_iconst X dX12_spreadAt_12 ?_
  refine S_istore X dX12_spreadAt_13 (nle rfl) ?_
  have lp15_0 : ∀ (N : Nat) (pp : Int) (lo : Int) (hi : Int) (L : Nat → Option AV), 1 ≤ pp ∧ pp ≤ pl → lo = mnI ((tS pl ec mk (c5 Q 3) (c5 Q 4) B E) b) pp → hi = mxI ((tS pl ec mk (c5 Q 3) (c5 Q 4) B E) b) pp → L 0 = some (rv h0) → L 1 = some (iv b) → L 2 = some (iv lo) → L 3 = some (iv hi) → L 4 = some (iv pp) → pl + 1 - pp < (N : Int) → S_ p l e (rmD 1 0 0) s m args below meth c (MQ below (QcI D G A Po) args s 0 0 A) D G A 5 0 0 15 L [] [(h0, ob 11 f), (hM, ar 180 Mt)] := by
    intro N
    induction N with
    | zero =>
      intro pp lo hi L15 hp hlo hhi hL15_0 hL15_1 hL15_2 hL15_3 hL15_4 hN15
      exfalso; omega
    | succ N ih15 =>
      intro pp lo hi L15 hp hlo hhi hL15_0 hL15_1 hL15_2 hL15_3 hL15_4 hN15
      refine S_iload X dX12_spreadAt_15 hL15_4 ?_
      refine S_aload_n X dX12_spreadAt_17 rfl hL15_0 ?_
      refine S_get X fgX12_253_11 0 rfl hf0 dX12_spreadAt_18 ?_
      refine S_icmp_ge (tgt := 64) X dX12_spreadAt_21 (by decide) (by omega) (by omega) (fun c_1 => ?_) (fun c_1 => ?_)
      ·
        refine S_iload_n X dX12_spreadAt_64 rfl hL15_3 ?_
        refine S_iload_n X dX12_spreadAt_65 rfl hL15_2 ?_
        refine S_isub X dX12_spreadAt_66 ?_
        exact S_iret X (nle rfl) (nle rfl) dX12_spreadAt_67 (hPo _ _ (⟨by unfold sS; rw [hlo, hhi, show pp = pl by omega], rfl⟩))
      ·
        have h02 := hMr.at (z := 6 * b + pp) (x := b) (y := pp) rfl (by omega) (by omega) (by omega) (by omega)
        have h03 := hok.time (mk := mk) b pp (by omega) (by omega) (by omega)
        have h04 := mxI_le (g := (tS pl ec mk (c5 Q 3) (c5 Q 4) B E) b) (K := 7470) (by omega) pp (by omega) (fun y y0 y1 => by have := (hok.time (mk := mk) b y (by omega) y0 (by omega)).2; omega)
        have h05 := (mxI_ge (g := (tS pl ec mk (c5 Q 3) (c5 Q 4) B E) b) pp (by omega)).1
        have h06 := mnI_le (g := (tS pl ec mk (c5 Q 3) (c5 Q 4) B E) b) pp (by omega)
        have h07 := mnI_ge (g := (tS pl ec mk (c5 Q 3) (c5 Q 4) B E) b) (K := 1) (by omega) pp (by omega) (fun y y0 y1 => (hok.time (mk := mk) b y (by omega) y0 (by omega)).1)
        refine S_iload_n X dX12_spreadAt_24 rfl hL15_2 ?_
        refine S_aload_n X dX12_spreadAt_25 rfl hL15_0 ?_
        refine S_get X fgX12_68_11 0 rfl hf1 dX12_spreadAt_26 ?_
        refine S_bipush X dX12_spreadAt_29 rfl ?_
        refine S_iload_n X dX12_spreadAt_31 rfl hL15_1 ?_
        refine S_imul X dX12_spreadAt_32 ?_
        refine S_iload X dX12_spreadAt_33 hL15_4 ?_
        refine S_iadd X dX12_spreadAt_35 ?_
        refine S_iald X 1 rfl (by omega) (by omega) (nle rfl) dX12_spreadAt_36 ?_
        refine S_mmin X lkX12_293 rfl rfl (by omega) (by omega) (nle rfl) (nle rfl) (nle rfl) (nle rfl) dX12_spreadAt_37 ?_
        refine S_istore_n X dX12_spreadAt_40 rfl (nle rfl) ?_
        refine S_iload_n X dX12_spreadAt_41 rfl hL15_3 ?_
        refine S_aload_n X dX12_spreadAt_42 rfl hL15_0 ?_
        refine S_get X fgX12_68_11 0 rfl hf1 dX12_spreadAt_43 ?_
        refine S_bipush X dX12_spreadAt_46 rfl ?_
        refine S_iload_n X dX12_spreadAt_48 rfl hL15_1 ?_
        refine S_imul X dX12_spreadAt_49 ?_
        refine S_iload X dX12_spreadAt_50 hL15_4 ?_
        refine S_iadd X dX12_spreadAt_52 ?_
        refine S_iald X 1 rfl (by omega) (by omega) (nle rfl) dX12_spreadAt_53 ?_
        refine S_mmax X lkX12_295 rfl rfl (by omega) (by omega) (nle rfl) (nle rfl) (nle rfl) (nle rfl) dX12_spreadAt_54 ?_
        refine S_istore_n X dX12_spreadAt_57 rfl (nle rfl) ?_
        refine S_iinc X dX12_spreadAt_58 (nle rfl) hL15_4 ?_
        refine S_goto (tgt := 15) X dX12_spreadAt_61 (by decide) ?_
        exact ih15 (pp + 1) (min lo (Mt ((6 * b) + pp))) (max hi (Mt ((6 * b) + pp))) _ (by omega) (by rw [mnI_S (by omega), ← h02, ← hlo]) (by rw [mxI_S (by omega), ← h02, ← hhi]) hL15_0 hL15_1 rfl rfl rfl (by omega)
  exact lp15_0 (Int.toNat (pl + 1 - 1) + 1) 1 (Mt (6 * b)) (Mt (6 * b)) _ (by omega) (by omega) (by omega) rfl rfl rfl rfl rfl (by omega)
set_option maxHeartbeats 4000000 in
set_option maxRecDepth 100000 in
theorem kX12_worstBar (l : Launch) (h0 : Nat) (f : Nat → AV) (pl : Int) (n : Int) (ec : Int) (mk : Int) (hQ : Nat) (hB : Nat) (hE : Nat) (hA : Nat) (hM : Nat) (hW : Nat) (Q : Int → Int) (B : Int → Int) (E : Int → Int) (Ab : Int → Int) (Mt : Int → Int) (Wt : Int → Int) (hf0 : f 21 = iv pl) (hf1 : f 28 = iv n) (hf2 : f 29 = iv ec) (hf3 : f 26 = iv mk) (hf4 : f 20 = rv hQ) (hf5 : f 23 = rv hB) (hf6 : f 24 = rv hE) (hf7 : f 33 = rv hA) (hf8 : f 34 = rv hM) (hf9 : f 35 = rv hW) (hok : okS pl n ec (c5 Q 3) (c5 Q 4) B E) : AMi l yX12_worstBar cX12_worstBar 3 .int 4 0 0 [rv h0] [(h0, ob 11 f), (hQ, ar 30 Q), (hB, ar 6 B), (hE, ar 6 E), (hA, ar 1206 Ab), (hM, ar 180 Mt), (hW, ar 180 Wt)] (fun z u => ∃ A2 : Int → Int, ∃ M2 : Int → Int, ∃ W2 : Int → Int, z = amI (sS pl ec mk (c5 Q 3) (c5 Q 4) B E) n ∧ u = [(h0, ob 11 f), (hQ, ar 30 Q), (hB, ar 6 B), (hE, ar 6 E), (hA, ar 1206 A2), (hM, ar 180 M2), (hW, ar 180 W2)] ∧ reg A2 (bF ec (c5 Q 3) (c5 Q 4) B) pl n 0 ∧ reg M2 (tS pl ec mk (c5 Q 3) (c5 Q 4) B E) pl n 0 ∧ reg W2 (wS pl ec mk (c5 Q 3) (c5 Q 4) B E) pl n 0) := by
  refine AMi.of2 rfl (nle rfl) ?_
  intro D G A p e s m args below meth c Po hPo X
  have hpl := hok.2.1
  have hpl1 := hok.1
  have hn1 := hok.2.2.1
  have hn2 := hok.2.2.2.1
  have hec := hok.2.2.2.2
  refine S_aload_n X dX12_worstBar_0 rfl rfl ?_
  refine S_callv X (kX12_play l h0 f pl n ec mk hQ hB hE hA hM hW Q B E Ab Mt Wt hf0 hf1 hf2 hf3 hf4 hf5 hf6 hf7 hf8 hf9 (by omega)) (is := [0, 1, 2, 3, 4, 5, 6]) rfl (run_V X lkX12_312 0 rfl rfl (is := [0, 1, 2, 3, 4, 5, 6]) (avs := []) (rest := []) rfl rfl (nle rfl) ⟨nle rfl, nle rfl⟩ ⟨nle rfl, nle rfl⟩ dX12_worstBar_1 (by decide) rfl) (fun u_1 hp_2 => ?_)
  obtain ⟨A2_4, M2_5, W2_6, hu_8, hA2_9, hM2_10, hW2_11⟩ := hp_2
  subst hu_8
  refine ⟨rfl, ?_⟩
  refine S_w (ws' := [(h0, ob 11 f), (hQ, ar 30 Q), (hB, ar 6 B), (hE, ar 6 E), (hA, ar 1206 A2_4), (hM, ar 180 M2_5), (hW, ar 180 W2_6)]) rfl ?_
  have hAL := hA2_9
  have hML := hM2_10
  have hWL := hW2_11
  refine S_iconst X dX12_worstBar_4 ?_
  refine S_istore_n X dX12_worstBar_5 rfl (nle rfl) ?_
  refine S_iconst X dX12_worstBar_6 ?_
  refine S_istore_n X dX12_worstBar_7 rfl (nle rfl) ?_
  have lp8_0 : ∀ (N : Nat) (b : Int) (k : Int) (L : Nat → Option AV), 1 ≤ b ∧ b ≤ n → k = amI (sS pl ec mk (c5 Q 3) (c5 Q 4) B E) b → L 0 = some (rv h0) → L 1 = some (iv k) → L 2 = some (iv b) → n + 1 - b < (N : Int) → S_ p l e (rmD 4 0 0) s m args below meth c (MQ below (QcI D G A Po) args s 0 0 A) D G A 3 0 0 8 L [] [(h0, ob 11 f), (hQ, ar 30 Q), (hB, ar 6 B), (hE, ar 6 E), (hA, ar 1206 A2_4), (hM, ar 180 M2_5), (hW, ar 180 W2_6)] := by
    intro N
    induction N with
    | zero =>
      intro b k L8 hb hk hL8_0 hL8_1 hL8_2 hN8
      exfalso; omega
    | succ N ih8 =>
      intro b k L8 hb hk hL8_0 hL8_1 hL8_2 hN8
      refine S_iload_n X dX12_worstBar_8 rfl hL8_2 ?_
      refine S_aload_n X dX12_worstBar_9 rfl hL8_0 ?_
      refine S_get X fgX12_56_11 0 rfl hf1 dX12_worstBar_10 ?_
      refine S_icmp_ge (tgt := 41) X dX12_worstBar_13 (by decide) (by omega) (by omega) (fun c_12 => ?_) (fun c_12 => ?_)
      ·
        refine S_iload_n X dX12_worstBar_41 rfl hL8_1 ?_
        exact S_iret X (nle rfl) (nle rfl) dX12_worstBar_42 (hPo _ _ (⟨_, _, _, by rw [hk, show b = n by omega], rfl, hAL, hML, hWL⟩))
      ·
        have hk2 := amI_lt (g := (sS pl ec mk (c5 Q 3) (c5 Q 4) B E)) (p := b) (by omega)
        have hs1 := hok.spread (mk := mk) b (by omega) (by omega)
        have hs2 := hok.spread (mk := mk) k (by omega) (by omega)
        refine S_aload_n X dX12_worstBar_16 rfl hL8_0 ?_
        refine S_iload_n X dX12_worstBar_17 rfl hL8_2 ?_
        refine S_calli X (kX12_spreadAt l h0 f pl n ec mk hM Q B E M2_5 b hf0 hf8 (by omega) (by omega) (by omega)) (is := [0, 5]) rfl (run_V X lkX12_315 0 rfl rfl (is := [0, 5]) (avs := [iv b]) (rest := []) rfl rfl (nle rfl) ⟨nle rfl, nle rfl⟩ ⟨nle rfl, nle rfl⟩ dX12_worstBar_18 (by decide) rfl) (fun z_15 u_13 hp_14 => ?_)
        obtain ⟨hz_16, hu_17⟩ := hp_14
        subst hz_16
        subst hu_17
        refine ⟨rfl, ?_⟩
        refine S_w (ws' := [(h0, ob 11 f), (hQ, ar 30 Q), (hB, ar 6 B), (hE, ar 6 E), (hA, ar 1206 A2_4), (hM, ar 180 M2_5), (hW, ar 180 W2_6)]) rfl ?_
        refine S_aload_n X dX12_worstBar_21 rfl hL8_0 ?_
        refine S_iload_n X dX12_worstBar_22 rfl hL8_1 ?_
        refine S_calli X (kX12_spreadAt l h0 f pl n ec mk hM Q B E M2_5 k hf0 hf8 (by omega) (by omega) (by omega)) (is := [0, 5]) rfl (run_V X lkX12_315 0 rfl rfl (is := [0, 5]) (avs := [iv k]) (rest := [iv (sS pl ec mk (c5 Q 3) (c5 Q 4) B E b)]) rfl rfl (nle rfl) ⟨nle rfl, nle rfl⟩ ⟨nle rfl, nle rfl⟩ dX12_worstBar_23 (by decide) rfl) (fun z_20 u_18 hp_19 => ?_)
        obtain ⟨hz_21, hu_22⟩ := hp_19
        subst hz_21
        subst hu_22
        refine ⟨rfl, ?_⟩
        refine S_w (ws' := [(h0, ob 11 f), (hQ, ar 30 Q), (hB, ar 6 B), (hE, ar 6 E), (hA, ar 1206 A2_4), (hM, ar 180 M2_5), (hW, ar 180 W2_6)]) rfl ?_
        refine S_icmp_le (tgt := 33) X dX12_worstBar_26 (by decide) (by omega) (by omega) (fun c_23 => ?_) (fun c_23 => ?_)
        ·
          refine S_iload_n X dX12_worstBar_33 rfl hL8_1 ?_
          refine S_istore_n X dX12_worstBar_34 rfl (nle rfl) ?_
          refine S_iinc X dX12_worstBar_35 (nle rfl) hL8_2 ?_
          refine S_goto (tgt := 8) X dX12_worstBar_38 (by decide) ?_
          exact ih8 (b + 1) k _ (by omega) (by rw [amI_S (by omega), ← hk, if_neg (by omega)]) hL8_0 rfl rfl (by omega)
        ·
          refine S_iload_n X dX12_worstBar_29 rfl hL8_2 ?_
          refine S_goto (tgt := 34) X dX12_worstBar_30 (by decide) ?_
          refine S_istore_n X dX12_worstBar_34 rfl (nle rfl) ?_
          refine S_iinc X dX12_worstBar_35 (nle rfl) hL8_2 ?_
          refine S_goto (tgt := 8) X dX12_worstBar_38 (by decide) ?_
          exact ih8 (b + 1) b _ (by omega) (by rw [amI_S (by omega), ← hk, if_pos (by omega)]) hL8_0 rfl rfl (by omega)
  exact lp8_0 (Int.toNat (n + 1 - 1) + 1) 1 0 _ (by omega) (amI_1.symm) rfl rfl rfl (by omega)
set_option maxHeartbeats 4000000 in
set_option maxRecDepth 100000 in
theorem kX12_worstNow (l : Launch) (h0 : Nat) (f : Nat → AV) (pl : Int) (n : Int) (ec : Int) (mk : Int) (hQ : Nat) (hB : Nat) (hE : Nat) (hA : Nat) (hM : Nat) (hW : Nat) (Q : Int → Int) (B : Int → Int) (E : Int → Int) (Ab : Int → Int) (Mt : Int → Int) (Wt : Int → Int) (hf0 : f 21 = iv pl) (hf1 : f 28 = iv n) (hf2 : f 29 = iv ec) (hf3 : f 26 = iv mk) (hf4 : f 20 = rv hQ) (hf5 : f 23 = rv hB) (hf6 : f 24 = rv hE) (hf7 : f 33 = rv hA) (hf8 : f 34 = rv hM) (hf9 : f 35 = rv hW) (hok : okS pl n ec (c5 Q 3) (c5 Q 4) B E) : AMi l yX12_worstNow cX12_worstNow 1 .int 5 0 0 [rv h0] [(h0, ob 11 f), (hQ, ar 30 Q), (hB, ar 6 B), (hE, ar 6 E), (hA, ar 1206 Ab), (hM, ar 180 Mt), (hW, ar 180 Wt)] (fun z u => ∃ A2 : Int → Int, ∃ M2 : Int → Int, ∃ W2 : Int → Int, z = WO pl n ec mk (c5 Q 3) (c5 Q 4) B E ∧ u = [(h0, ob 11 f), (hQ, ar 30 Q), (hB, ar 6 B), (hE, ar 6 E), (hA, ar 1206 A2), (hM, ar 180 M2), (hW, ar 180 W2)]) := by
  refine AMi.of2 rfl (nle rfl) ?_
  intro D G A p e s m args below meth c Po hPo X
  have hpl := hok.2.1
  have hpl1 := hok.1
  have hn1 := hok.2.2.1
  have hn2 := hok.2.2.2.1
  have hec := hok.2.2.2.2
  have hk2 := amI_lt (g := (sS pl ec mk (c5 Q 3) (c5 Q 4) B E)) (p := n) (by omega)
  refine S_aload_n X dX12_worstNow_0 rfl rfl ?_
  refine S_aload_n X dX12_worstNow_1 rfl rfl ?_
  refine S_calli X (kX12_worstBar l h0 f pl n ec mk hQ hB hE hA hM hW Q B E Ab Mt Wt hf0 hf1 hf2 hf3 hf4 hf5 hf6 hf7 hf8 hf9 (by omega)) (is := [0, 1, 2, 3, 4, 5, 6]) rfl (run_V X lkX12_318 0 rfl rfl (is := [0, 1, 2, 3, 4, 5, 6]) (avs := []) (rest := [rv h0]) rfl rfl (nle rfl) ⟨nle rfl, nle rfl⟩ ⟨nle rfl, nle rfl⟩ dX12_worstNow_2 (by decide) rfl) (fun z_3 u_1 hp_2 => ?_)
  obtain ⟨A2_4, M2_5, W2_6, hz_7, hu_8, hA2_9, hM2_10, hW2_11⟩ := hp_2
  subst hz_7
  subst hu_8
  refine ⟨rfl, ?_⟩
  refine S_w (ws' := [(h0, ob 11 f), (hQ, ar 30 Q), (hB, ar 6 B), (hE, ar 6 E), (hA, ar 1206 A2_4), (hM, ar 180 M2_5), (hW, ar 180 W2_6)]) rfl ?_
  refine S_calli X (kX12_spreadAt l h0 f pl n ec mk hM Q B E M2_5 (amI (sS pl ec mk (c5 Q 3) (c5 Q 4) B E) n) hf0 hf8 (by omega) (by omega) (by omega)) (is := [0, 5]) rfl (run_V X lkX12_315 0 rfl rfl (is := [0, 5]) (avs := [iv (amI (sS pl ec mk (c5 Q 3) (c5 Q 4) B E) n)]) (rest := []) rfl rfl (nle rfl) ⟨nle rfl, nle rfl⟩ ⟨nle rfl, nle rfl⟩ dX12_worstNow_5 (by decide) rfl) (fun z_14 u_12 hp_13 => ?_)
  obtain ⟨hz_15, hu_16⟩ := hp_13
  subst hz_15
  subst hu_16
  refine ⟨rfl, ?_⟩
  refine S_w (ws' := [(h0, ob 11 f), (hQ, ar 30 Q), (hB, ar 6 B), (hE, ar 6 E), (hA, ar 1206 A2_4), (hM, ar 180 M2_5), (hW, ar 180 W2_6)]) rfl ?_
  exact S_iret X (nle rfl) (nle rfl) dX12_worstNow_8 (hPo _ _ (⟨_, _, _, WO_am hok, rfl⟩))
set_option maxHeartbeats 4000000 in
set_option maxRecDepth 100000 in
theorem kX12_lastAt (l : Launch) (h0 : Nat) (f : Nat → AV) (pl : Int) (n : Int) (ec : Int) (mk : Int) (hM : Nat) (Q : Int → Int) (B : Int → Int) (E : Int → Int) (Mt : Int → Int) (b : Int) (hf0 : f 21 = iv pl) (hf1 : f 34 = rv hM) (hok : okS pl n ec (c5 Q 3) (c5 Q 4) B E) (hMr : reg Mt (tS pl ec mk (c5 Q 3) (c5 Q 4) B E) pl n 0) (hb : 0 ≤ b ∧ b < n) : AMi l yX12_lastAt cX12_lastAt 4 .int 0 0 0 [rv h0, iv b] [(h0, ob 11 f), (hM, ar 180 Mt)] (fun z u => z = amI ((tS pl ec mk (c5 Q 3) (c5 Q 4) B E) b) pl ∧ u = [(h0, ob 11 f), (hM, ar 180 Mt)]) := by
  refine AMi.of2 rfl (nle rfl) ?_
  intro D G A p e s m args below meth c Po hPo X
  have hpl := hok.2.1
  have hpl1 := hok.1
  have hn1 := hok.2.2.1
  have hn2 := hok.2.2.2.1
  have hec := hok.2.2.2.2
  refine S_iconst X dX12_lastAt_0 ?_
  refine S_istore_n X dX12_lastAt_1 rfl (nle rfl) ?_
  refine S_iconst X dX12_lastAt_2 ?_
  refine S_istore_n X dX12_lastAt_3 rfl (nle rfl) ?_
  have lp4_0 : ∀ (N : Nat) (pp : Int) (k : Int) (L : Nat → Option AV), 1 ≤ pp ∧ pp ≤ pl → k = amI ((tS pl ec mk (c5 Q 3) (c5 Q 4) B E) b) pp → L 0 = some (rv h0) → L 1 = some (iv b) → L 2 = some (iv k) → L 3 = some (iv pp) → pl + 1 - pp < (N : Int) → S_ p l e (rmD 0 0 0) s m args below meth c (MQ below (QcI D G A Po) args s 0 0 A) D G A 4 0 0 4 L [] [(h0, ob 11 f), (hM, ar 180 Mt)] := by
    intro N
    induction N with
    | zero =>
      intro pp k L4 hp hk hL4_0 hL4_1 hL4_2 hL4_3 hN4
      exfalso; omega
    | succ N ih4 =>
      intro pp k L4 hp hk hL4_0 hL4_1 hL4_2 hL4_3 hN4
      refine S_iload_n X dX12_lastAt_4 rfl hL4_3 ?_
      refine S_aload_n X dX12_lastAt_5 rfl hL4_0 ?_
      refine S_get X fgX12_253_11 0 rfl hf0 dX12_lastAt_6 ?_
      refine S_icmp_ge (tgt := 49) X dX12_lastAt_9 (by decide) (by omega) (by omega) (fun c_1 => ?_) (fun c_1 => ?_)
      ·
        refine S_iload_n X dX12_lastAt_49 rfl hL4_2 ?_
        exact S_iret X (nle rfl) (nle rfl) dX12_lastAt_50 (hPo _ _ (⟨by rw [hk, show pp = pl by omega], rfl⟩))
      ·
        have hk2 := amI_lt (g := (tS pl ec mk (c5 Q 3) (c5 Q 4) B E) b) (p := pp) (by omega)
        have hm1 := hMr.at (z := 6 * b + pp) (x := b) (y := pp) rfl (by omega) (by omega) (by omega) (by omega)
        have hm2 := hMr.at (z := 6 * b + k) (x := b) (y := k) rfl (by omega) (by omega) (by omega) (by omega)
        have ht1 := hok.time (mk := mk) b pp (by omega) (by omega) (by omega)
        have ht2 := hok.time (mk := mk) b k (by omega) (by omega) (by omega)
        refine S_aload_n X dX12_lastAt_12 rfl hL4_0 ?_
        refine S_get X fgX12_68_11 0 rfl hf1 dX12_lastAt_13 ?_
        refine S_bipush X dX12_lastAt_16 rfl ?_
        refine S_iload_n X dX12_lastAt_18 rfl hL4_1 ?_
        refine S_imul X dX12_lastAt_19 ?_
        refine S_iload_n X dX12_lastAt_20 rfl hL4_3 ?_
        refine S_iadd X dX12_lastAt_21 ?_
        refine S_iald X 1 rfl (by omega) (by omega) (nle rfl) dX12_lastAt_22 ?_
        refine S_aload_n X dX12_lastAt_23 rfl hL4_0 ?_
        refine S_get X fgX12_68_11 0 rfl hf1 dX12_lastAt_24 ?_
        refine S_bipush X dX12_lastAt_27 rfl ?_
        refine S_iload_n X dX12_lastAt_29 rfl hL4_1 ?_
        refine S_imul X dX12_lastAt_30 ?_
        refine S_iload_n X dX12_lastAt_31 rfl hL4_2 ?_
        refine S_iadd X dX12_lastAt_32 ?_
        refine S_iald X 1 rfl (by omega) (by omega) (nle rfl) dX12_lastAt_33 ?_
        refine S_icmp_le (tgt := 41) X dX12_lastAt_34 (by decide) (by omega) (by omega) (fun c_2 => ?_) (fun c_2 => ?_)
        ·
          refine S_iload_n X dX12_lastAt_41 rfl hL4_2 ?_
          refine S_istore_n X dX12_lastAt_42 rfl (nle rfl) ?_
          refine S_iinc X dX12_lastAt_43 (nle rfl) hL4_3 ?_
          refine S_goto (tgt := 4) X dX12_lastAt_46 (by decide) ?_
          exact ih4 (pp + 1) k _ (by omega) (by rw [amI_S (by omega), ← hk, if_neg (by omega)]) hL4_0 hL4_1 rfl rfl (by omega)
        ·
          refine S_iload_n X dX12_lastAt_37 rfl hL4_3 ?_
          refine S_goto (tgt := 42) X dX12_lastAt_38 (by decide) ?_
          refine S_istore_n X dX12_lastAt_42 rfl (nle rfl) ?_
          refine S_iinc X dX12_lastAt_43 (nle rfl) hL4_3 ?_
          refine S_goto (tgt := 4) X dX12_lastAt_46 (by decide) ?_
          exact ih4 (pp + 1) pp _ (by omega) (by rw [amI_S (by omega), ← hk, if_pos (by omega)]) hL4_0 hL4_1 rfl rfl (by omega)
  exact lp4_0 (Int.toNat (pl + 1 - 1) + 1) 1 0 _ (by omega) (amI_1.symm) rfl rfl rfl rfl (by omega)
end pt_35rplay
/- 36.ans.lean.txt -/
section pt_36ans
/-! ANSWERS as functions of the state -/
def okZ (pl n ec : Int) (Fo Ho B0 Lt : Int → Int) : Prop := 0 ≤ pl ∧ pl ≤ 6 ∧ 1 ≤ n ∧ n ≤ 30 ∧ 0 ≤ ec ∧ ec ≤ 3 ∧ ∀ p, 0 ≤ p → p < pl → (-1 ≤ Fo p ∧ Fo p < pl) ∧ (0 ≤ Ho p ∧ Ho p ≤ 10) ∧ (1 ≤ B0 p ∧ B0 p ≤ 199) ∧ (0 ≤ Lt p ∧ Lt p ≤ 50)
theorem okZ.s {pl n ec : Int} {Fo Ho B0 Lt : Int → Int} (h : okZ pl n ec Fo Ho B0 Lt) (h1 : 1 ≤ pl) : okS pl n ec Fo Ho B0 Lt := ⟨h1, h.2⟩
theorem okS.z {pl n ec : Int} {Fo Ho B0 Lt : Int → Int} (h : okS pl n ec Fo Ho B0 Lt) : okZ pl n ec Fo Ho B0 Lt := ⟨by have := h.1; omega, h.2⟩
/-- the first place at which it is so; -1: nowhere -/
def fiN (P : Int → Bool) : Nat → Int
  | 0 => -1
  | n + 1 => if fiN P n = -1 ∧ P n = true then (n : Int) else fiN P n
def fiI (P : Int → Bool) (p : Int) : Int := fiN P p.toNat
theorem fiI_0 {P : Int → Bool} : fiI P 0 = -1 := rfl
theorem fiI_S {P : Int → Bool} {p : Int} (h : 0 ≤ p) : fiI P (p + 1) = if fiI P p = -1 ∧ P p = true then p else fiI P p := by
  unfold fiI
  rw [toNat_S h, fiN, toNat_c h]
theorem fiI_skip {P : Int → Bool} {p : Int} (h : 0 ≤ p) (h1 : fiI P p = -1) (h2 : P p = false) : fiI P (p + 1) = -1 := by
  rw [fiI_S h, h1, h2, if_neg (fun h => by cases h.2)]
theorem fiI_hit {P : Int → Bool} {b : Int} (hb : 0 ≤ b) (h1 : fiI P b = -1) (h2 : P b = true) : ∀ p, 0 ≤ p → b < p → fiI P p = b := by
  refine upI (fun h => by omega) (fun p hp ih h => ?_)
  rw [fiI_S hp]
  by_cases e : p = b
  · subst e
    rw [h1, h2, if_pos ⟨rfl, rfl⟩]
  · rw [ih (by omega), if_neg (by omega)]
theorem fiI_c {P R : Int → Bool} : ∀ p, 0 ≤ p → (∀ y, 0 ≤ y → y < p → P y = R y) → fiI P p = fiI R p := by
  refine upI (fun _ => rfl) (fun p hp ih h => ?_)
  rw [fiI_S hp, fiI_S hp, ih (fun y h0 h1 => h y h0 (by omega)), h p hp (by omega)]
theorem fsI_skip {g : Int → Int} {lim p : Int} (h : 0 ≤ p) (h1 : fsI g lim p = -1) (h2 : g p ≤ lim) : fsI g lim (p + 1) = -1 := by
  rw [fsI_S h, h1, if_neg (by omega)]
theorem fsI_hit {g : Int → Int} {lim b : Int} (hb : 0 ≤ b) (h1 : fsI g lim b = -1) (h2 : lim < g b) : ∀ p, 0 ≤ p → b < p → fsI g lim p = b := by
  refine upI (fun h => by omega) (fun p hp ih h => ?_)
  rw [fsI_S hp]
  by_cases e : p = b
  · subst e
    rw [h1, if_pos ⟨rfl, h2⟩]
  · rw [ih (by omega), if_neg (by omega)]
def cmI (x y : Int) : Int := if x < y then -1 else if x = y then 0 else 1
def rkI (g : Int → Int) (pl p : Int) : Int := smI (fun o => if g o < g p ∨ g p = g o ∧ o < p then 1 else 0) pl
def apI (g : Int → Int) (pl p : Int) : Int := smI (fun o => ((g o - g p).natAbs : Int)) pl
def ovI (g : Int → Int → Int) (i j n : Int) : Int := smI (fun b => if 1 ≤ b ∧ cmI (g b i) (g b j) ≠ 0 ∧ cmI (g b i) (g b j) ≠ cmI (g (b - 1) i) (g (b - 1) j) then 1 else 0) n
def srI (g : Int → Int → Int) (p q n : Int) : Int := fiI (fun b => decide (1 ≤ b ∧ q ≤ ((g b p - g (b - 1) p).natAbs : Int))) n
section AN
variable (pl n ec mk : Int) (Fo Ho B0 Lt : Int → Int)
def aTime (p b w : Int) : Int := if (0 ≤ p ∧ p < pl) ∧ (0 ≤ b ∧ b < n) ∧ (0 ≤ w ∧ w ≤ 2) then (if w = 0 then tS pl ec mk Fo Ho B0 Lt b p else if w = 1 then wS pl ec mk Fo Ho B0 Lt b p else bF ec Fo Ho B0 b p) else -1
def aSpread (b : Int) : Int := if 1 ≤ pl ∧ 0 ≤ b ∧ b < n then sS pl ec mk Fo Ho B0 Lt b else -1
def aWorst (w : Int) : Int := if 1 ≤ pl ∧ (w = 0 ∨ w = 1) then (if w = 0 then WO pl n ec mk Fo Ho B0 Lt else amI (sS pl ec mk Fo Ho B0 Lt) n) else -1
def aParts (lim : Int) : Int := if 1 ≤ pl then fsI (sS pl ec mk Fo Ho B0 Lt) lim n else -1
def aLast (b : Int) : Int := if 1 ≤ pl ∧ 0 ≤ b ∧ b < n then amI (tS pl ec mk Fo Ho B0 Lt b) pl else -1
def aPlace (b i : Int) : Int := if 1 ≤ pl ∧ 0 ≤ b ∧ b < n then fiI (fun p => decide (rkI (tS pl ec mk Fo Ho B0 Lt b) pl p = i)) pl else -1
def aOver (i j : Int) : Int := if (0 ≤ i ∧ i < pl) ∧ (0 ≤ j ∧ j < pl) ∧ i ≠ j then ovI (tS pl ec mk Fo Ho B0 Lt) i j n else -1
def aMiddle : Int := if 1 ≤ pl then amI (fun p => -apI (tS pl ec mk Fo Ho B0 Lt (n - 1)) pl p) pl else -1
def aEnds (w : Int) : Int := if 1 ≤ pl ∧ (w = 0 ∨ w = 1) then (if w = 0 then mxI (tS pl ec mk Fo Ho B0 Lt (n - 1)) pl else mxI (tS pl ec mk Fo Ho B0 Lt (n - 1)) pl - sS pl ec mk Fo Ho B0 Lt (n - 1)) else -1
def aStray (p q : Int) : Int := if (0 ≤ p ∧ p < pl) ∧ 1 ≤ q ∧ q ≤ 99 then srI (bF ec Fo Ho B0) p q n else -1
def aDeaf (p : Int) : Int := if 0 ≤ p ∧ p < pl then WO pl n ec mk (uZ Fo p (-1)) Ho B0 Lt else -1
/-- whom a player had best follow, among the first f: who, how much -/
def ldN (p : Int) : Nat → Int × Int
  | 0 => (-1, WO pl n ec mk (uZ Fo p (-1)) Ho B0 Lt)
  | f + 1 => if (f : Int) ≠ p ∧ WO pl n ec mk (uZ Fo p f) Ho B0 Lt < (ldN p f).2 then ((f : Int), WO pl n ec mk (uZ Fo p f) Ho B0 Lt) else ldN p f
def ldI (p f : Int) : Int × Int := ldN pl n ec mk Fo Ho B0 Lt p f.toNat
def aLeader (p w : Int) : Int := if (0 ≤ p ∧ p < pl) ∧ (w = 0 ∨ w = 1) then (if w = 0 then (ldI pl n ec mk Fo Ho B0 Lt p pl).1 else (ldI pl n ec mk Fo Ho B0 Lt p pl).2) else -1000000
/-- the best ECHO among the first e -/
def ehN : Nat → Int × Int
  | 0 => (0, WO pl n 0 mk Fo Ho B0 Lt)
  | e + 1 => if WO pl n ((e : Int) + 1) mk Fo Ho B0 Lt < (ehN e).2 then ((e : Int) + 1, WO pl n ((e : Int) + 1) mk Fo Ho B0 Lt) else ehN e
def aEchoes (w : Int) : Int := if 1 ≤ pl ∧ (w = 0 ∨ w = 1) then (if w = 0 then (ehN pl n mk Fo Ho B0 Lt 3).1 else (ehN pl n mk Fo Ho B0 Lt 3).2) else -1
/-- TUNE as a relation -/
def rTune (lim p w z : Int) : Prop := (¬ ((0 ≤ p ∧ p < pl) ∧ (w = 0 ∨ w = 1)) ∧ z = -1) ∨ ((0 ≤ p ∧ p < pl) ∧ (w = 0 ∨ w = 1) ∧ (((∀ h, 0 ≤ h → h ≤ 10 → lim < WO pl n ec mk Fo (uZ Ho p h) B0 Lt) ∧ z = -1) ∨ ∃ h, 0 ≤ h ∧ h ≤ 10 ∧ WO pl n ec mk Fo (uZ Ho p h) B0 Lt ≤ lim ∧ (∀ k, 0 ≤ k → k ≤ 10 → WO pl n ec mk Fo (uZ Ho p k) B0 Lt ≤ lim → (h - Ho p).natAbs < (k - Ho p).natAbs ∨ (h - Ho p).natAbs = (k - Ho p).natAbs ∧ h ≤ k) ∧ z = if w = 0 then h else WO pl n ec mk Fo (uZ Ho p h) B0 Lt))
/-- alone last at the end, late by v -/
def alL (p v : Int) : Prop := ∀ o, 0 ≤ o → o < pl → o ≠ p → tS pl ec mk Fo Ho B0 (uZ Lt p v) (n - 1) o < tS pl ec mk Fo Ho B0 (uZ Lt p v) (n - 1) p
def rPaid (p z : Int) : Prop := (¬ (0 ≤ p ∧ p < pl) ∧ z = -1) ∨ ((0 ≤ p ∧ p < pl) ∧ ((z = -1 ∧ ∀ v, 0 ≤ v → v ≤ 50 → ¬ alL pl n ec mk Fo Ho B0 Lt p v) ∨ (0 ≤ z ∧ z ≤ 50 ∧ alL pl n ec mk Fo Ho B0 Lt p z ∧ ∀ v, 0 ≤ v → v < z → ¬ alL pl n ec mk Fo Ho B0 Lt p v)))
/-- all of the roll is so -/
def agR (rl : Int) (P1 B1 T1 : Int → Int) (p f : Int) : Prop := ∀ k, 0 ≤ k → k < rl → B1 k < n ∧ wS pl ec mk (uZ Fo p f) Ho B0 Lt (B1 k) (P1 k) = T1 k
noncomputable def agB (rl : Int) (P1 B1 T1 : Int → Int) (p f : Int) : Bool := @decide (agR pl n ec mk Fo Ho B0 Lt rl P1 B1 T1 p f) (Classical.propDecidable _)
/-- whom it may have followed, among nobody and the first f -/
noncomputable def fiB (rl : Int) (P1 B1 T1 : Int → Int) (p : Int) : Nat → Int
  | 0 => if agB pl n ec mk Fo Ho B0 Lt rl P1 B1 T1 p (-1) = true then 64 else 0
  | f + 1 => if (f : Int) ≠ p ∧ agB pl n ec mk Fo Ho B0 Lt rl P1 B1 T1 p f = true then zOr (fiB rl P1 B1 T1 p f) (zShl 1 f) else fiB rl P1 B1 T1 p f
noncomputable def aFits (rl : Int) (P1 B1 T1 : Int → Int) (p : Int) : Int := if 0 ≤ p ∧ p < pl then fiB pl n ec mk Fo Ho B0 Lt rl P1 B1 T1 p pl.toNat else -1
end AN
/-- BEATS of two bars, and of the three bars ahead of each, are alike -/
def lkR (pl ec : Int) (Fo Ho B0 : Int → Int) (i j : Int) : Prop := ∀ k, 0 ≤ k → k < 4 → ∀ p, 0 ≤ p → p < pl → bF ec Fo Ho B0 (max 0 (i - k)) p = bF ec Fo Ho B0 (max 0 (j - k)) p
def rSettle (pl ec : Int) (Fo Ho B0 : Int → Int) (w z : Int) : Prop := (¬ (1 ≤ pl ∧ (w = 0 ∨ w = 1)) ∧ z = -1) ∨ (1 ≤ pl ∧ (w = 0 ∨ w = 1) ∧ (((∀ j, 1 ≤ j → j ≤ 200 → ∀ i, 0 ≤ i → i < j → ¬ lkR pl ec Fo Ho B0 i j) ∧ z = -1) ∨ ∃ j i, 1 ≤ j ∧ j ≤ 200 ∧ 0 ≤ i ∧ i < j ∧ lkR pl ec Fo Ho B0 i j ∧ (∀ j2, 1 ≤ j2 → j2 < j → ∀ i2, 0 ≤ i2 → i2 < j2 → ¬ lkR pl ec Fo Ho B0 i2 j2) ∧ (∀ i2, 0 ≤ i2 → i2 < i → ¬ lkR pl ec Fo Ho B0 i2 j) ∧ z = if w = 0 then i else j - i))
theorem rSettle_u {pl ec : Int} {Fo Ho B0 : Int → Int} {w z y : Int} (h : rSettle pl ec Fo Ho B0 w z) (g : rSettle pl ec Fo Ho B0 w y) : z = y := by
  rcases h with ⟨h1, h2⟩ | ⟨h1, h2, h3⟩ <;> rcases g with ⟨g1, g2⟩ | ⟨g1, g2, g3⟩
  · omega
  · exact absurd ⟨g1, g2⟩ h1
  · exact absurd ⟨h1, h2⟩ g1
  · rcases h3 with ⟨a1, a2⟩ | ⟨j, i, a1, a2, a3, a4, a5, a6, a7, a8⟩ <;> rcases g3 with ⟨b1, b2⟩ | ⟨j2, i2, b1, b2, b3, b4, b5, b6, b7, b8⟩
    · omega
    · exact absurd b5 (a1 j2 b1 b2 i2 b3 b4)
    · exact absurd a5 (b1 j a1 a2 i a3 a4)
    · have e1 : j = j2 := by
        rcases Int.lt_trichotomy j j2 with q | q | q
        · exact absurd a5 (b6 j a1 q i a3 a4)
        · exact q
        · exact absurd b5 (a6 j2 b1 q i2 b3 b4)
      subst e1
      have e2 : i = i2 := by
        rcases Int.lt_trichotomy i i2 with q | q | q
        · exact absurd a5 (b7 i a3 q)
        · exact q
        · exact absurd b5 (a7 i2 b3 q)
      rw [a8, b8, e2]
theorem rTune_u {pl n ec mk : Int} {Fo Ho B0 Lt : Int → Int} {lim p w z y : Int} (h : rTune pl n ec mk Fo Ho B0 Lt lim p w z) (g : rTune pl n ec mk Fo Ho B0 Lt lim p w y) : z = y := by
  rcases h with ⟨h1, h2⟩ | ⟨h1, h2, h3⟩ <;> rcases g with ⟨g1, g2⟩ | ⟨g1, g2, g3⟩
  · omega
  · exact absurd ⟨g1, g2⟩ h1
  · exact absurd ⟨h1, h2⟩ g1
  · rcases h3 with ⟨a1, a2⟩ | ⟨j, a1, a2, a3, a4, a5⟩ <;> rcases g3 with ⟨b1, b2⟩ | ⟨k, b1, b2, b3, b4, b5⟩
    · omega
    · have := a1 k b1 b2; omega
    · have := b1 j a1 a2; omega
    · have c1 := a4 k b1 b2 b3
      have c2 := b4 j a1 a2 a3
      have e : j = k := by omega
      subst e
      rw [a5, b5]
theorem rPaid_u {pl n ec mk : Int} {Fo Ho B0 Lt : Int → Int} {p z y : Int} (h : rPaid pl n ec mk Fo Ho B0 Lt p z) (g : rPaid pl n ec mk Fo Ho B0 Lt p y) : z = y := by
  rcases h with ⟨h1, h2⟩ | ⟨h1, h3⟩ <;> rcases g with ⟨g1, g2⟩ | ⟨g1, g3⟩
  · omega
  · exact absurd g1 h1
  · exact absurd h1 g1
  · rcases h3 with ⟨a1, a2⟩ | ⟨a1, a2, a3, a4⟩ <;> rcases g3 with ⟨b1, b2⟩ | ⟨b1, b2, b3, b4⟩
    · omega
    · exact absurd b3 (a2 y b1 b2)
    · exact absurd a3 (b2 z a1 a2)
    · rcases Int.lt_trichotomy z y with q | q | q
      · exact absurd a3 (b4 z a1 q)
      · exact q
      · exact absurd b3 (a4 y b1 q)
theorem ldI_0 {pl n ec mk p : Int} {Fo Ho B0 Lt : Int → Int} : ldI pl n ec mk Fo Ho B0 Lt p 0 = (-1, WO pl n ec mk (uZ Fo p (-1)) Ho B0 Lt) := rfl
theorem ldI_S {pl n ec mk p f : Int} {Fo Ho B0 Lt : Int → Int} (hf : 0 ≤ f) : ldI pl n ec mk Fo Ho B0 Lt p (f + 1) = if f ≠ p ∧ WO pl n ec mk (uZ Fo p f) Ho B0 Lt < (ldI pl n ec mk Fo Ho B0 Lt p f).2 then (f, WO pl n ec mk (uZ Fo p f) Ho B0 Lt) else ldI pl n ec mk Fo Ho B0 Lt p f := by
  unfold ldI
  rw [toNat_S hf, ldN, toNat_c hf]
/-- one column of the table of players changed -/
theorem c5_F {Q : Int → Int} {p v : Int} : c5 (uZ Q (5 * p + 3) v) 3 = uZ (c5 Q 3) p v := by
  funext x
  unfold c5 uZ
  by_cases h : x = p
  · rw [if_pos h, if_pos (by omega)]
  · rw [if_neg h, if_neg (by omega)]
theorem c5_H {Q : Int → Int} {p v : Int} : c5 (uZ Q (5 * p + 4) v) 4 = uZ (c5 Q 4) p v := by
  funext x
  unfold c5 uZ
  by_cases h : x = p
  · rw [if_pos h, if_pos (by omega)]
  · rw [if_neg h, if_neg (by omega)]
theorem c5_n {Q : Int → Int} {p v k j : Int} (h0 : 0 ≤ k ∧ k ≤ 4) (h1 : 0 ≤ j ∧ j ≤ 4) (h : k ≠ j) : c5 (uZ Q (5 * p + k) v) j = c5 Q j := by
  funext x
  unfold c5 uZ
  rw [if_neg (by omega)]
theorem uZ_back {α : Type} {f : Int → α} {k : Int} {v : α} : uZ (uZ f k v) k (f k) = f := by
  funext x
  unfold uZ
  by_cases h : x = k
  · rw [if_pos h, h]
  · rw [if_neg h, if_neg h]
theorem uZ_twice {α : Type} {f : Int → α} {k : Int} {v w : α} : uZ (uZ f k v) k w = uZ f k w := by
  funext x
  unfold uZ
  split <;> rfl
theorem okS.fo {pl n ec : Int} {Fo Ho B0 Lt : Int → Int} {p v : Int} (h : okS pl n ec Fo Ho B0 Lt) (hv : -1 ≤ v ∧ v < pl) : okS pl n ec (uZ Fo p v) Ho B0 Lt := by
  refine ⟨h.1, h.2.1, h.2.2.1, h.2.2.2.1, h.2.2.2.2.1, h.2.2.2.2.2.1, fun x h0 h1 => ?_⟩
  obtain ⟨a, b⟩ := h.2.2.2.2.2.2 x h0 h1
  refine ⟨?_, b⟩
  unfold uZ
  split <;> omega
theorem okS.ho {pl n ec : Int} {Fo Ho B0 Lt : Int → Int} {p v : Int} (h : okS pl n ec Fo Ho B0 Lt) (hv : 0 ≤ v ∧ v ≤ 10) : okS pl n ec Fo (uZ Ho p v) B0 Lt := by
  refine ⟨h.1, h.2.1, h.2.2.1, h.2.2.2.1, h.2.2.2.2.1, h.2.2.2.2.2.1, fun x h0 h1 => ?_⟩
  obtain ⟨a, b, c⟩ := h.2.2.2.2.2.2 x h0 h1
  refine ⟨a, ?_, c⟩
  unfold uZ
  split <;> omega
theorem okS.la {pl n ec : Int} {Fo Ho B0 Lt : Int → Int} {p v : Int} (h : okS pl n ec Fo Ho B0 Lt) (hv : 0 ≤ v ∧ v ≤ 50) : okS pl n ec Fo Ho B0 (uZ Lt p v) := by
  refine ⟨h.1, h.2.1, h.2.2.1, h.2.2.2.1, h.2.2.2.2.1, h.2.2.2.2.2.1, fun x h0 h1 => ?_⟩
  obtain ⟨a, b, c, d⟩ := h.2.2.2.2.2.2 x h0 h1
  refine ⟨a, b, c, ?_⟩
  unfold uZ
  split <;> omega
theorem okS.ec {pl n ec e2 : Int} {Fo Ho B0 Lt : Int → Int} (h : okS pl n ec Fo Ho B0 Lt) (hv : 0 ≤ e2 ∧ e2 ≤ 3) : okS pl n e2 Fo Ho B0 Lt := ⟨h.1, h.2.1, h.2.2.1, h.2.2.2.1, hv.1, hv.2, h.2.2.2.2.2.2⟩
theorem zOr_0 {x : Int} (h : inR x) : zOr x 0 = x := by
  unfold zOr
  have e : i32 0 = 0 := rfl
  rw [e, Int32.or_zero, i32_toInt h]
end pt_36ans
/- 37.rq1.lean.txt -/
section pt_37rq1
theorem sm01 {f : Int → Int} (h : ∀ y, f y = 0 ∨ f y = 1) : ∀ p, 0 ≤ p → 0 ≤ smI f p ∧ smI f p ≤ p := by
  refine upI ⟨Int.le_refl _, Int.le_refl _⟩ (fun p hp ih => ?_)
  rw [smI_S hp]
  have := h p
  omega
theorem sm_le {f : Int → Int} {K : Int} : ∀ p, 0 ≤ p → (∀ y, 0 ≤ y → y < p → 0 ≤ f y ∧ f y ≤ K) → 0 ≤ smI f p ∧ smI f p ≤ K * p := by
  refine upI (fun _ => by rw [smI_0]; omega) (fun p hp ih h => ?_)
  rw [smI_S hp]
  have h1 := ih (fun y h0 h1 => h y h0 (by omega))
  have h2 := h p hp (by omega)
  have e : K * (p + 1) = K * p + K := by rw [Int.mul_add, Int.mul_one]
  omega
theorem rk01 {g : Int → Int} {p : Int} : ∀ y, (fun o => if g o < g p ∨ g p = g o ∧ o < p then (1 : Int) else 0) y = 0 ∨ (fun o => if g o < g p ∨ g p = g o ∧ o < p then (1 : Int) else 0) y = 1 := by
  intro y
  dsimp only
  split
  · exact Or.inr rfl
  · exact Or.inl rfl
theorem ov01 {g : Int → Int → Int} {i j : Int} : ∀ y, (fun b => if 1 ≤ b ∧ cmI (g b i) (g b j) ≠ 0 ∧ cmI (g b i) (g b j) ≠ cmI (g (b - 1) i) (g (b - 1) j) then (1 : Int) else 0) y = 0 ∨ (fun b => if 1 ≤ b ∧ cmI (g b i) (g b j) ≠ 0 ∧ cmI (g b i) (g b j) ≠ cmI (g (b - 1) i) (g (b - 1) j) then (1 : Int) else 0) y = 1 := by
  intro y
  dsimp only
  split
  · exact Or.inr rfl
  · exact Or.inl rfl
theorem smI_1 {f : Int → Int} : smI f 1 = 0 + f 0 := rfl
theorem fiI_1 {P : Int → Bool} (h : P 0 = false) : fiI P 1 = -1 := by
  have e : fiI P 1 = if fiI P 0 = -1 ∧ P 0 = true then 0 else fiI P 0 := fiI_S (Int.le_refl 0)
  rw [e, h, fiI_0, if_neg (fun h => by cases h.2)]
theorem cmI_in (x y : Int) : -1 ≤ cmI x y ∧ cmI x y ≤ 1 := by unfold cmI; (repeat' split) <;> omega
theorem ld_in {pl n ec mk p : Int} {Fo Ho B0 Lt : Int → Int} (h : okS pl n ec Fo Ho B0 Lt) (hp : 0 ≤ p ∧ p < pl) : ∀ f, 0 ≤ f → f ≤ pl → (-1 ≤ (ldI pl n ec mk Fo Ho B0 Lt p f).1 ∧ (ldI pl n ec mk Fo Ho B0 Lt p f).1 < pl) ∧ 0 ≤ (ldI pl n ec mk Fo Ho B0 Lt p f).2 ∧ (ldI pl n ec mk Fo Ho B0 Lt p f).2 ≤ 7470 := by
  refine upI (fun h0 => ?_) (fun f hf ih h0 => ?_)
  · rw [ldI_0]
    have := (h.fo (p := p) (v := -1) (by omega)).worst (mk := mk)
    exact ⟨⟨by dsimp only; omega, by dsimp only; omega⟩, this⟩
  · rw [ldI_S hf]
    split
    · have := (h.fo (p := p) (v := f) (by omega)).worst (mk := mk)
      exact ⟨⟨by dsimp only; omega, by dsimp only; omega⟩, this⟩
    · exact ih (by omega)
def ehI (pl n mk : Int) (Fo Ho B0 Lt : Int → Int) (e : Int) : Int × Int := ehN pl n mk Fo Ho B0 Lt e.toNat
theorem ehI_0 {pl n mk : Int} {Fo Ho B0 Lt : Int → Int} : ehI pl n mk Fo Ho B0 Lt 0 = (0, WO pl n 0 mk Fo Ho B0 Lt) := rfl
theorem ehI_S {pl n mk e : Int} {Fo Ho B0 Lt : Int → Int} (he : 0 ≤ e) : ehI pl n mk Fo Ho B0 Lt (e + 1) = if WO pl n (e + 1) mk Fo Ho B0 Lt < (ehI pl n mk Fo Ho B0 Lt e).2 then (e + 1, WO pl n (e + 1) mk Fo Ho B0 Lt) else ehI pl n mk Fo Ho B0 Lt e := by
  unfold ehI
  rw [toNat_S he, ehN, toNat_c he]
theorem fiB_in {pl n ec mk rl p : Int} {Fo Ho B0 Lt P1 B1 T1 : Int → Int} : ∀ f : Nat, inR (fiB pl n ec mk Fo Ho B0 Lt rl P1 B1 T1 p f) := by
  intro f
  induction f with
  | zero => rw [fiB]; split <;> (constructor <;> decide)
  | succ f ih => rw [fiB]; split
                 · exact zOr_r _ _
                 · exact ih
theorem agB_1 {pl n ec mk rl p f : Int} {Fo Ho B0 Lt P1 B1 T1 : Int → Int} (h : agR pl n ec mk Fo Ho B0 Lt rl P1 B1 T1 p f) : agB pl n ec mk Fo Ho B0 Lt rl P1 B1 T1 p f = true := by
  unfold agB
  exact @decide_eq_true _ (Classical.propDecidable _) h
theorem agB_0 {pl n ec mk rl p f : Int} {Fo Ho B0 Lt P1 B1 T1 : Int → Int} (h : ¬ agR pl n ec mk Fo Ho B0 Lt rl P1 B1 T1 p f) : agB pl n ec mk Fo Ho B0 Lt rl P1 B1 T1 p f = false := by
  unfold agB
  exact @decide_eq_false _ (Classical.propDecidable _) h
theorem mid_step {g : Int → Int} {q pl be le be2 le2 cnt : Int} (hq : 0 ≤ q) (h : q = 0 ∧ be = -1 ∧ le = 0 ∨ 1 ≤ q ∧ be = amI (fun p => -apI g pl p) q ∧ le = apI g pl be ∧ 0 ≤ le ∧ le ≤ 44820 ∧ 0 ≤ be) (hc : cnt = apI g pl q) (hcr : 0 ≤ cnt ∧ cnt ≤ 44820)
    (h2 : be2 = q ∧ le2 = cnt ∧ (be = -1 ∨ cnt < le) ∨ be2 = be ∧ le2 = le ∧ ¬ (be = -1 ∨ cnt < le)) : q + 1 = 0 ∧ be2 = -1 ∧ le2 = 0 ∨ 1 ≤ q + 1 ∧ be2 = amI (fun p => -apI g pl p) (q + 1) ∧ le2 = apI g pl be2 ∧ 0 ≤ le2 ∧ le2 ≤ 44820 ∧ 0 ≤ be2 := by
  refine Or.inr ⟨by omega, ?_⟩
  rcases h with ⟨a1, a2, a3⟩ | ⟨a1, a2, a3, a4, a5, a6⟩
  · rcases h2 with ⟨b1, b2, b3⟩ | ⟨b1, b2, b3⟩
    · refine ⟨?_, by rw [b2, b1, hc], by omega, by omega, by omega⟩
      rw [b1, a1]
      exact amI_1.symm
    · exact absurd (Or.inl a2) b3
  · rw [amI_S hq, ← a2, ← a3, ← hc]
    rcases h2 with ⟨b1, b2, b3⟩ | ⟨b1, b2, b3⟩
    · rw [if_pos (by omega), b2, b1]
      exact ⟨rfl, hc, by omega, by omega, by omega⟩
    · rw [if_neg (by omega), b1, b2]
      exact ⟨rfl, a3, by omega, by omega, by omega⟩
set_option maxHeartbeats 4000000 in
set_option maxRecDepth 100000 in
theorem kX12_time (l : Launch) (h0 : Nat) (f : Nat → AV) (pl : Int) (n : Int) (ec : Int) (mk : Int) (hQ : Nat) (hB : Nat) (hE : Nat) (hA : Nat) (hM : Nat) (hW : Nat) (Q : Int → Int) (B : Int → Int) (E : Int → Int) (Ab : Int → Int) (Mt : Int → Int) (Wt : Int → Int) (pp : Int) (b : Int) (v : Int) (hf0 : f 21 = iv pl) (hf1 : f 28 = iv n) (hf2 : f 29 = iv ec) (hf3 : f 26 = iv mk) (hf4 : f 20 = rv hQ) (hf5 : f 23 = rv hB) (hf6 : f 24 = rv hE) (hf7 : f 33 = rv hA) (hf8 : f 34 = rv hM) (hf9 : f 35 = rv hW) (hz : okZ pl n ec (c5 Q 3) (c5 Q 4) B E) (hx_pp : inR pp) (hx_b : inR b) (hx_v : inR v) : AMi l yX12_time cX12_time 4 .int 4 0 0 [rv h0, iv pp, iv b, iv v] [(h0, ob 11 f), (hQ, ar 30 Q), (hB, ar 6 B), (hE, ar 6 E), (hA, ar 1206 Ab), (hM, ar 180 Mt), (hW, ar 180 Wt)] (fun z u => ∃ A2 : Int → Int, ∃ M2 : Int → Int, ∃ W2 : Int → Int, z = aTime pl n ec mk (c5 Q 3) (c5 Q 4) B E pp b v ∧ u = [(h0, ob 11 f), (hQ, ar 30 Q), (hB, ar 6 B), (hE, ar 6 E), (hA, ar 1206 A2), (hM, ar 180 M2), (hW, ar 180 W2)]) := by
  refine AMi.of2 rfl (nle rfl) ?_
  intro D G A p e s m args below meth c Po hPo X
  have hz6 := hz.2.1
  have hz0 := hz.1
  have hzn := hz.2.2.1
  have hzm := hz.2.2.2.1
  have hze := hz.2.2.2.2
  refine S_aload_n X dX12_time_0 rfl rfl ?_
  refine S_iload_n X dX12_time_1 rfl rfl ?_
  refine S_calli X (kX12_isPlayer l h0 f pl pp hf0 (by omega) (by omega)) (is := [0]) rfl (run_V X lkX12_281 0 rfl rfl (is := [0]) (avs := [iv pp]) (rest := []) rfl rfl (nle rfl) ⟨nle rfl, nle rfl⟩ ⟨nle rfl, nle rfl⟩ dX12_time_2 (by decide) rfl) (fun z_3 u_1 hp_2 => ?_)
  rcases hp_2 with ⟨hz_4, hu_5, hq_6⟩ | ⟨hz_7, hu_8, hq_9⟩
  ·
    subst hz_4
    subst hu_5
    refine ⟨rfl, ?_⟩
    refine S_w (ws' := [(h0, ob 11 f), (hQ, ar 30 Q), (hB, ar 6 B), (hE, ar 6 E), (hA, ar 1206 Ab), (hM, ar 180 Mt), (hW, ar 180 Wt)]) rfl ?_
    refine S_if_eq (tgt := 25) X dX12_time_5 (by decide) (by decide) (fun _ => ?_) (fun h9 => absurd h9 (by decide))
    refine S_iconst X dX12_time_25 ?_
    exact S_iret X (nle rfl) (nle rfl) dX12_time_26 (hPo _ _ (⟨_, _, _, by unfold aTime; rw [if_neg (by omega)], rfl⟩))
  ·
    subst hz_7
    subst hu_8
    refine ⟨rfl, ?_⟩
    refine S_w (ws' := [(h0, ob 11 f), (hQ, ar 30 Q), (hB, ar 6 B), (hE, ar 6 E), (hA, ar 1206 Ab), (hM, ar 180 Mt), (hW, ar 180 Wt)]) rfl ?_
    refine S_if_eq (tgt := 25) X dX12_time_5 (by decide) (by decide) (fun h9 => absurd h9 (by decide)) (fun _ => ?_)
    refine S_aload_n X dX12_time_8 rfl rfl ?_
    refine S_iload_n X dX12_time_9 rfl rfl ?_
    refine S_calli X (kX12_isBar l h0 f pl n b hf0 hf1 (by omega) (by omega) (by omega)) (is := [0]) rfl (run_V X lkX12_309 0 rfl rfl (is := [0]) (avs := [iv b]) (rest := []) rfl rfl (nle rfl) ⟨nle rfl, nle rfl⟩ ⟨nle rfl, nle rfl⟩ dX12_time_10 (by decide) rfl) (fun z_14 u_12 hp_13 => ?_)
    rcases hp_13 with ⟨hz_15, hu_16, hq_17⟩ | ⟨hz_18, hu_19, hq_20⟩
    ·
      subst hz_15
      subst hu_16
      refine ⟨rfl, ?_⟩
      refine S_w (ws' := [(h0, ob 11 f), (hQ, ar 30 Q), (hB, ar 6 B), (hE, ar 6 E), (hA, ar 1206 Ab), (hM, ar 180 Mt), (hW, ar 180 Wt)]) rfl ?_
      refine S_if_eq (tgt := 25) X dX12_time_13 (by decide) (by decide) (fun _ => ?_) (fun h9 => absurd h9 (by decide))
      refine S_iconst X dX12_time_25 ?_
      exact S_iret X (nle rfl) (nle rfl) dX12_time_26 (hPo _ _ (⟨_, _, _, by unfold aTime; rw [if_neg (by omega)], rfl⟩))
    ·
      subst hz_18
      subst hu_19
      refine ⟨rfl, ?_⟩
      refine S_w (ws' := [(h0, ob 11 f), (hQ, ar 30 Q), (hB, ar 6 B), (hE, ar 6 E), (hA, ar 1206 Ab), (hM, ar 180 Mt), (hW, ar 180 Wt)]) rfl ?_
      refine S_if_eq (tgt := 25) X dX12_time_13 (by decide) (by decide) (fun h9 => absurd h9 (by decide)) (fun _ => ?_)
      refine S_iload_n X dX12_time_16 rfl rfl ?_
      refine S_iconst X dX12_time_17 ?_
      refine S_iconst X dX12_time_18 ?_
      refine S_calli X (kX12_in l v 0 2 (by omega) (by omega) (by omega)) (is := []) rfl (run_S X lkX12_216 (is := []) (avs := [iv v, iv 0, iv 2]) (rest := []) rfl rfl (nle rfl) ⟨nle rfl, nle rfl⟩ ⟨nle rfl, nle rfl⟩ dX12_time_19 (by decide) rfl) (fun z_25 u_23 hp_24 => ?_)
      rcases hp_24 with ⟨hz_26, hu_27, hq_28⟩ | ⟨hz_29, hu_30, hq_31⟩
      ·
        subst hz_26
        subst hu_27
        refine ⟨rfl, ?_⟩
        refine S_w (ws' := [(h0, ob 11 f), (hQ, ar 30 Q), (hB, ar 6 B), (hE, ar 6 E), (hA, ar 1206 Ab), (hM, ar 180 Mt), (hW, ar 180 Wt)]) rfl ?_
        refine S_if_ne (tgt := 27) X dX12_time_22 (by decide) (by decide) (fun h9 => absurd h9 (by decide)) (fun _ => ?_)
        refine S_iconst X dX12_time_25 ?_
        exact S_iret X (nle rfl) (nle rfl) dX12_time_26 (hPo _ _ (⟨_, _, _, by unfold aTime; rw [if_neg (by omega)], rfl⟩))
      ·
        subst hz_29
        subst hu_30
        refine ⟨rfl, ?_⟩
        refine S_w (ws' := [(h0, ob 11 f), (hQ, ar 30 Q), (hB, ar 6 B), (hE, ar 6 E), (hA, ar 1206 Ab), (hM, ar 180 Mt), (hW, ar 180 Wt)]) rfl ?_
        refine S_if_ne (tgt := 27) X dX12_time_22 (by decide) (by decide) (fun _ => ?_) (fun h9 => absurd h9 (by decide))
        have hok := hz.s (by omega)
        have hpl := hok.2.1
        have hpl1 := hok.1
        have hn1 := hok.2.2.1
        have hn2 := hok.2.2.2.1
        have hec := hok.2.2.2.2
        refine S_aload_n X dX12_time_27 rfl rfl ?_
        refine S_callv X (kX12_play l h0 f pl n ec mk hQ hB hE hA hM hW Q B E Ab Mt Wt hf0 hf1 hf2 hf3 hf4 hf5 hf6 hf7 hf8 hf9 (by omega)) (is := [0, 1, 2, 3, 4, 5, 6]) rfl (run_V X lkX12_312 0 rfl rfl (is := [0, 1, 2, 3, 4, 5, 6]) (avs := []) (rest := []) rfl rfl (nle rfl) ⟨nle rfl, nle rfl⟩ ⟨nle rfl, nle rfl⟩ dX12_time_28 (by decide) rfl) (fun u_34 hp_35 => ?_)
        obtain ⟨A2_37, M2_38, W2_39, hu_41, hA2_42, hM2_43, hW2_44⟩ := hp_35
        subst hu_41
        refine ⟨rfl, ?_⟩
        refine S_w (ws' := [(h0, ob 11 f), (hQ, ar 30 Q), (hB, ar 6 B), (hE, ar 6 E), (hA, ar 1206 A2_37), (hM, ar 180 M2_38), (hW, ar 180 W2_39)]) rfl ?_
        have hAL := hA2_42
        have hML := hM2_43
        have hWL := hW2_44
        refine S_iload_n X dX12_time_31 rfl rfl ?_
        refine S_if_ne (tgt := 49) X dX12_time_32 (by decide) (by omega) (fun c_45 => ?_) (fun c_45 => ?_)
        ·
          refine S_iload_n X dX12_time_49 rfl rfl ?_
          refine S_iconst X dX12_time_50 ?_
          refine S_icmp_ne (tgt := 68) X dX12_time_51 (by decide) (by omega) (by decide) (fun c_46 => ?_) (fun c_46 => ?_)
          ·
            refine S_aload_n X dX12_time_68 rfl rfl ?_
            refine S_get X fgX12_65_11 0 rfl hf7 dX12_time_69 ?_
            refine S_bipush X dX12_time_72 rfl ?_
            refine S_iload_n X dX12_time_74 rfl rfl ?_
            refine S_imul X dX12_time_75 ?_
            refine S_iload_n X dX12_time_76 rfl rfl ?_
            refine S_iadd X dX12_time_77 ?_
            refine S_iald X 4 rfl (by omega) (by omega) (nle rfl) dX12_time_78 ?_
            exact S_iret X (nle rfl) (nle rfl) dX12_time_79 (hPo _ _ (⟨_, _, _, by unfold aTime; rw [if_pos (by omega)]; first | (rw [if_pos (by omega)]; exact hML.at rfl (by omega) (by omega) (by omega) (by omega)) | (rw [if_neg (by omega), if_pos (by omega)]; exact hWL.at rfl (by omega) (by omega) (by omega) (by omega)) | (rw [if_neg (by omega), if_neg (by omega)]; exact hAL.at rfl (by omega) (by omega) (by omega) (by omega)), rfl⟩))
          ·
            refine S_aload_n X dX12_time_54 rfl rfl ?_
            refine S_get X fgX12_71_11 0 rfl hf9 dX12_time_55 ?_
            refine S_bipush X dX12_time_58 rfl ?_
            refine S_iload_n X dX12_time_60 rfl rfl ?_
            refine S_imul X dX12_time_61 ?_
            refine S_iload_n X dX12_time_62 rfl rfl ?_
            refine S_iadd X dX12_time_63 ?_
            refine S_iald X 6 rfl (by omega) (by omega) (nle rfl) dX12_time_64 ?_
            refine S_goto (tgt := 79) X dX12_time_65 (by decide) ?_
            exact S_iret X (nle rfl) (nle rfl) dX12_time_79 (hPo _ _ (⟨_, _, _, by unfold aTime; rw [if_pos (by omega)]; first | (rw [if_pos (by omega)]; exact hML.at rfl (by omega) (by omega) (by omega) (by omega)) | (rw [if_neg (by omega), if_pos (by omega)]; exact hWL.at rfl (by omega) (by omega) (by omega) (by omega)) | (rw [if_neg (by omega), if_neg (by omega)]; exact hAL.at rfl (by omega) (by omega) (by omega) (by omega)), rfl⟩))
        ·
          refine S_aload_n X dX12_time_35 rfl rfl ?_
          refine S_get X fgX12_68_11 0 rfl hf8 dX12_time_36 ?_
          refine S_bipush X dX12_time_39 rfl ?_
          refine S_iload_n X dX12_time_41 rfl rfl ?_
          refine S_imul X dX12_time_42 ?_
          refine S_iload_n X dX12_time_43 rfl rfl ?_
          refine S_iadd X dX12_time_44 ?_
          refine S_iald X 5 rfl (by omega) (by omega) (nle rfl) dX12_time_45 ?_
          refine S_goto (tgt := 79) X dX12_time_46 (by decide) ?_
          exact S_iret X (nle rfl) (nle rfl) dX12_time_79 (hPo _ _ (⟨_, _, _, by unfold aTime; rw [if_pos (by omega)]; first | (rw [if_pos (by omega)]; exact hML.at rfl (by omega) (by omega) (by omega) (by omega)) | (rw [if_neg (by omega), if_pos (by omega)]; exact hWL.at rfl (by omega) (by omega) (by omega) (by omega)) | (rw [if_neg (by omega), if_neg (by omega)]; exact hAL.at rfl (by omega) (by omega) (by omega) (by omega)), rfl⟩))
set_option maxHeartbeats 4000000 in
set_option maxRecDepth 100000 in
theorem kX12_spread (l : Launch) (h0 : Nat) (f : Nat → AV) (pl : Int) (n : Int) (ec : Int) (mk : Int) (hQ : Nat) (hB : Nat) (hE : Nat) (hA : Nat) (hM : Nat) (hW : Nat) (Q : Int → Int) (B : Int → Int) (E : Int → Int) (Ab : Int → Int) (Mt : Int → Int) (Wt : Int → Int) (b : Int) (hf0 : f 21 = iv pl) (hf1 : f 28 = iv n) (hf2 : f 29 = iv ec) (hf3 : f 26 = iv mk) (hf4 : f 20 = rv hQ) (hf5 : f 23 = rv hB) (hf6 : f 24 = rv hE) (hf7 : f 33 = rv hA) (hf8 : f 34 = rv hM) (hf9 : f 35 = rv hW) (hz : okZ pl n ec (c5 Q 3) (c5 Q 4) B E) (hx_b : inR b) : AMi l yX12_spread cX12_spread 2 .int 4 0 0 [rv h0, iv b] [(h0, ob 11 f), (hQ, ar 30 Q), (hB, ar 6 B), (hE, ar 6 E), (hA, ar 1206 Ab), (hM, ar 180 Mt), (hW, ar 180 Wt)] (fun z u => ∃ A2 : Int → Int, ∃ M2 : Int → Int, ∃ W2 : Int → Int, z = aSpread pl n ec mk (c5 Q 3) (c5 Q 4) B E b ∧ u = [(h0, ob 11 f), (hQ, ar 30 Q), (hB, ar 6 B), (hE, ar 6 E), (hA, ar 1206 A2), (hM, ar 180 M2), (hW, ar 180 W2)]) := by
  refine AMi.of2 rfl (nle rfl) ?_
  intro D G A p e s m args below meth c Po hPo X
  have hz6 := hz.2.1
  have hz0 := hz.1
  have hzn := hz.2.2.1
  have hzm := hz.2.2.2.1
  have hze := hz.2.2.2.2
  refine S_aload_n X dX12_spread_0 rfl rfl ?_
  refine S_iload_n X dX12_spread_1 rfl rfl ?_
  refine S_calli X (kX12_isBar l h0 f pl n b hf0 hf1 (by omega) (by omega) (by omega)) (is := [0]) rfl (run_V X lkX12_309 0 rfl rfl (is := [0]) (avs := [iv b]) (rest := []) rfl rfl (nle rfl) ⟨nle rfl, nle rfl⟩ ⟨nle rfl, nle rfl⟩ dX12_spread_2 (by decide) rfl) (fun z_3 u_1 hp_2 => ?_)
  rcases hp_2 with ⟨hz_4, hu_5, hq_6⟩ | ⟨hz_7, hu_8, hq_9⟩
  ·
    subst hz_4
    subst hu_5
    refine ⟨rfl, ?_⟩
    refine S_w (ws' := [(h0, ob 11 f), (hQ, ar 30 Q), (hB, ar 6 B), (hE, ar 6 E), (hA, ar 1206 Ab), (hM, ar 180 Mt), (hW, ar 180 Wt)]) rfl ?_
    refine S_if_ne (tgt := 10) X dX12_spread_5 (by decide) (by decide) (fun h9 => absurd h9 (by decide)) (fun _ => ?_)
    refine S_iconst X dX12_spread_8 ?_
    exact S_iret X (nle rfl) (nle rfl) dX12_spread_9 (hPo _ _ (⟨_, _, _, by unfold aSpread; rw [if_neg (by omega)], rfl⟩))
  ·
    subst hz_7
    subst hu_8
    refine ⟨rfl, ?_⟩
    refine S_w (ws' := [(h0, ob 11 f), (hQ, ar 30 Q), (hB, ar 6 B), (hE, ar 6 E), (hA, ar 1206 Ab), (hM, ar 180 Mt), (hW, ar 180 Wt)]) rfl ?_
    refine S_if_ne (tgt := 10) X dX12_spread_5 (by decide) (by decide) (fun _ => ?_) (fun h9 => absurd h9 (by decide))
    have hok := hz.s (by omega)
    have hpl := hok.2.1
    have hpl1 := hok.1
    have hn1 := hok.2.2.1
    have hn2 := hok.2.2.2.1
    have hec := hok.2.2.2.2
    refine S_aload_n X dX12_spread_10 rfl rfl ?_
    refine S_callv X (kX12_play l h0 f pl n ec mk hQ hB hE hA hM hW Q B E Ab Mt Wt hf0 hf1 hf2 hf3 hf4 hf5 hf6 hf7 hf8 hf9 (by omega)) (is := [0, 1, 2, 3, 4, 5, 6]) rfl (run_V X lkX12_312 0 rfl rfl (is := [0, 1, 2, 3, 4, 5, 6]) (avs := []) (rest := []) rfl rfl (nle rfl) ⟨nle rfl, nle rfl⟩ ⟨nle rfl, nle rfl⟩ dX12_spread_11 (by decide) rfl) (fun u_12 hp_13 => ?_)
    obtain ⟨A2_15, M2_16, W2_17, hu_19, hA2_20, hM2_21, hW2_22⟩ := hp_13
    subst hu_19
    refine ⟨rfl, ?_⟩
    refine S_w (ws' := [(h0, ob 11 f), (hQ, ar 30 Q), (hB, ar 6 B), (hE, ar 6 E), (hA, ar 1206 A2_15), (hM, ar 180 M2_16), (hW, ar 180 W2_17)]) rfl ?_
    have hAL := hA2_20
    have hML := hM2_21
    have hWL := hW2_22
    refine S_aload_n X dX12_spread_14 rfl rfl ?_
    refine S_iload_n X dX12_spread_15 rfl rfl ?_
    refine S_calli X (kX12_spreadAt l h0 f pl n ec mk hM Q B E M2_16 b hf0 hf8 (by omega) hML (by omega)) (is := [0, 5]) rfl (run_V X lkX12_315 0 rfl rfl (is := [0, 5]) (avs := [iv b]) (rest := []) rfl rfl (nle rfl) ⟨nle rfl, nle rfl⟩ ⟨nle rfl, nle rfl⟩ dX12_spread_16 (by decide) rfl) (fun z_25 u_23 hp_24 => ?_)
    obtain ⟨hz_26, hu_27⟩ := hp_24
    subst hz_26
    subst hu_27
    refine ⟨rfl, ?_⟩
    refine S_w (ws' := [(h0, ob 11 f), (hQ, ar 30 Q), (hB, ar 6 B), (hE, ar 6 E), (hA, ar 1206 A2_15), (hM, ar 180 M2_16), (hW, ar 180 W2_17)]) rfl ?_
    exact S_iret X (nle rfl) (nle rfl) dX12_spread_19 (hPo _ _ (⟨_, _, _, by unfold aSpread; rw [if_pos (by omega)]; try rfl, rfl⟩))
set_option maxHeartbeats 4000000 in
set_option maxRecDepth 100000 in
theorem kX12_worst (l : Launch) (h0 : Nat) (f : Nat → AV) (pl : Int) (n : Int) (ec : Int) (mk : Int) (hQ : Nat) (hB : Nat) (hE : Nat) (hA : Nat) (hM : Nat) (hW : Nat) (Q : Int → Int) (B : Int → Int) (E : Int → Int) (Ab : Int → Int) (Mt : Int → Int) (Wt : Int → Int) (v : Int) (hf0 : f 21 = iv pl) (hf1 : f 28 = iv n) (hf2 : f 29 = iv ec) (hf3 : f 26 = iv mk) (hf4 : f 20 = rv hQ) (hf5 : f 23 = rv hB) (hf6 : f 24 = rv hE) (hf7 : f 33 = rv hA) (hf8 : f 34 = rv hM) (hf9 : f 35 = rv hW) (hz : okZ pl n ec (c5 Q 3) (c5 Q 4) B E) (hx_v : inR v) : AMi l yX12_worst cX12_worst 2 .int 6 0 0 [rv h0, iv v] [(h0, ob 11 f), (hQ, ar 30 Q), (hB, ar 6 B), (hE, ar 6 E), (hA, ar 1206 Ab), (hM, ar 180 Mt), (hW, ar 180 Wt)] (fun z u => ∃ A2 : Int → Int, ∃ M2 : Int → Int, ∃ W2 : Int → Int, z = aWorst pl n ec mk (c5 Q 3) (c5 Q 4) B E v ∧ u = [(h0, ob 11 f), (hQ, ar 30 Q), (hB, ar 6 B), (hE, ar 6 E), (hA, ar 1206 A2), (hM, ar 180 M2), (hW, ar 180 W2)]) := by
  refine AMi.of2 rfl (nle rfl) ?_
  intro D G A p e s m args below meth c Po hPo X
  have hz6 := hz.2.1
  have hz0 := hz.1
  have hzn := hz.2.2.1
  have hzm := hz.2.2.2.1
  have hze := hz.2.2.2.2
  refine S_aload_n X dX12_worst_0 rfl rfl ?_
  refine S_get X fgX12_253_11 0 rfl hf0 dX12_worst_1 ?_
  refine S_if_eq (tgt := 16) X dX12_worst_4 (by decide) (by omega) (fun c_1 => ?_) (fun c_1 => ?_)
  ·
    refine S_iconst X dX12_worst_16 ?_
    refine S_goto (tgt := 35) X dX12_worst_17 (by decide) ?_
    exact S_iret X (nle rfl) (nle rfl) dX12_worst_35 (hPo _ _ (⟨_, _, _, by unfold aWorst; rw [if_neg (by omega)], rfl⟩))
  ·
    refine S_iload_n X dX12_worst_7 rfl rfl ?_
    refine S_iconst X dX12_worst_8 ?_
    refine S_iconst X dX12_worst_9 ?_
    refine S_calli X (kX12_in l v 0 1 (by omega) (by omega) (by omega)) (is := []) rfl (run_S X lkX12_216 (is := []) (avs := [iv v, iv 0, iv 1]) (rest := []) rfl rfl (nle rfl) ⟨nle rfl, nle rfl⟩ ⟨nle rfl, nle rfl⟩ dX12_worst_10 (by decide) rfl) (fun z_4 u_2 hp_3 => ?_)
    rcases hp_3 with ⟨hz_5, hu_6, hq_7⟩ | ⟨hz_8, hu_9, hq_10⟩
    ·
      subst hz_5
      subst hu_6
      refine ⟨rfl, ?_⟩
      refine S_w (ws' := [(h0, ob 11 f), (hQ, ar 30 Q), (hB, ar 6 B), (hE, ar 6 E), (hA, ar 1206 Ab), (hM, ar 180 Mt), (hW, ar 180 Wt)]) rfl ?_
      refine S_if_ne (tgt := 20) X dX12_worst_13 (by decide) (by decide) (fun h9 => absurd h9 (by decide)) (fun _ => ?_)
      refine S_iconst X dX12_worst_16 ?_
      refine S_goto (tgt := 35) X dX12_worst_17 (by decide) ?_
      exact S_iret X (nle rfl) (nle rfl) dX12_worst_35 (hPo _ _ (⟨_, _, _, by unfold aWorst; rw [if_neg (by omega)], rfl⟩))
    ·
      subst hz_8
      subst hu_9
      refine ⟨rfl, ?_⟩
      refine S_w (ws' := [(h0, ob 11 f), (hQ, ar 30 Q), (hB, ar 6 B), (hE, ar 6 E), (hA, ar 1206 Ab), (hM, ar 180 Mt), (hW, ar 180 Wt)]) rfl ?_
      refine S_if_ne (tgt := 20) X dX12_worst_13 (by decide) (by decide) (fun _ => ?_) (fun h9 => absurd h9 (by decide))
      have hok := hz.s (by omega)
      have hpl := hok.2.1
      have hpl1 := hok.1
      have hn1 := hok.2.2.1
      have hn2 := hok.2.2.2.1
      have hec := hok.2.2.2.2
      refine S_iload_n X dX12_worst_20 rfl rfl ?_
      refine S_if_ne (tgt := 31) X dX12_worst_21 (by decide) (by omega) (fun c_13 => ?_) (fun c_13 => ?_)
      ·
        refine S_aload_n X dX12_worst_31 rfl rfl ?_
        refine S_calli X (kX12_worstBar l h0 f pl n ec mk hQ hB hE hA hM hW Q B E Ab Mt Wt hf0 hf1 hf2 hf3 hf4 hf5 hf6 hf7 hf8 hf9 (by omega)) (is := [0, 1, 2, 3, 4, 5, 6]) rfl (run_V X lkX12_318 0 rfl rfl (is := [0, 1, 2, 3, 4, 5, 6]) (avs := []) (rest := []) rfl rfl (nle rfl) ⟨nle rfl, nle rfl⟩ ⟨nle rfl, nle rfl⟩ dX12_worst_32 (by decide) rfl) (fun z_16 u_14 hp_15 => ?_)
        obtain ⟨A2_17, M2_18, W2_19, hz_20, hu_21, hA2_22, hM2_23, hW2_24⟩ := hp_15
        subst hz_20
        subst hu_21
        refine ⟨rfl, ?_⟩
        refine S_w (ws' := [(h0, ob 11 f), (hQ, ar 30 Q), (hB, ar 6 B), (hE, ar 6 E), (hA, ar 1206 A2_17), (hM, ar 180 M2_18), (hW, ar 180 W2_19)]) rfl ?_
        exact S_iret X (nle rfl) (nle rfl) dX12_worst_35 (hPo _ _ (⟨_, _, _, by unfold aWorst; rw [if_pos (by omega)]; rw [if_neg (by omega)], rfl⟩))
      ·
        refine S_aload_n X dX12_worst_24 rfl rfl ?_
        refine S_calli X (kX12_worstNow l h0 f pl n ec mk hQ hB hE hA hM hW Q B E Ab Mt Wt hf0 hf1 hf2 hf3 hf4 hf5 hf6 hf7 hf8 hf9 (by omega)) (is := [0, 1, 2, 3, 4, 5, 6]) rfl (run_V X lkX12_321 0 rfl rfl (is := [0, 1, 2, 3, 4, 5, 6]) (avs := []) (rest := []) rfl rfl (nle rfl) ⟨nle rfl, nle rfl⟩ ⟨nle rfl, nle rfl⟩ dX12_worst_25 (by decide) rfl) (fun z_27 u_25 hp_26 => ?_)
        obtain ⟨A2_28, M2_29, W2_30, hz_31, hu_32⟩ := hp_26
        subst hz_31
        subst hu_32
        refine ⟨rfl, ?_⟩
        refine S_w (ws' := [(h0, ob 11 f), (hQ, ar 30 Q), (hB, ar 6 B), (hE, ar 6 E), (hA, ar 1206 A2_28), (hM, ar 180 M2_29), (hW, ar 180 W2_30)]) rfl ?_
        refine S_goto (tgt := 35) X dX12_worst_28 (by decide) ?_
        exact S_iret X (nle rfl) (nle rfl) dX12_worst_35 (hPo _ _ (⟨_, _, _, by unfold aWorst; rw [if_pos (by omega)]; rw [if_pos (by omega)], rfl⟩))
set_option maxHeartbeats 4000000 in
set_option maxRecDepth 100000 in
theorem kX12_parts (l : Launch) (h0 : Nat) (f : Nat → AV) (pl : Int) (n : Int) (ec : Int) (mk : Int) (hQ : Nat) (hB : Nat) (hE : Nat) (hA : Nat) (hM : Nat) (hW : Nat) (Q : Int → Int) (B : Int → Int) (E : Int → Int) (Ab : Int → Int) (Mt : Int → Int) (Wt : Int → Int) (lim : Int) (hf0 : f 21 = iv pl) (hf1 : f 28 = iv n) (hf2 : f 29 = iv ec) (hf3 : f 26 = iv mk) (hf4 : f 20 = rv hQ) (hf5 : f 23 = rv hB) (hf6 : f 24 = rv hE) (hf7 : f 33 = rv hA) (hf8 : f 34 = rv hM) (hf9 : f 35 = rv hW) (hf10 : f 30 = iv lim) (hz : okZ pl n ec (c5 Q 3) (c5 Q 4) B E) (hlim : 0 ≤ lim ∧ lim ≤ 999) : AMi l yX12_parts cX12_parts 2 .int 4 0 0 [rv h0] [(h0, ob 11 f), (hQ, ar 30 Q), (hB, ar 6 B), (hE, ar 6 E), (hA, ar 1206 Ab), (hM, ar 180 Mt), (hW, ar 180 Wt)] (fun z u => ∃ A2 : Int → Int, ∃ M2 : Int → Int, ∃ W2 : Int → Int, z = aParts pl n ec mk (c5 Q 3) (c5 Q 4) B E lim ∧ u = [(h0, ob 11 f), (hQ, ar 30 Q), (hB, ar 6 B), (hE, ar 6 E), (hA, ar 1206 A2), (hM, ar 180 M2), (hW, ar 180 W2)]) := by
  refine AMi.of2 rfl (nle rfl) ?_
  intro D G A p e s m args below meth c Po hPo X
  have hz6 := hz.2.1
  have hz0 := hz.1
  have hzn := hz.2.2.1
  have hzm := hz.2.2.2.1
  have hze := hz.2.2.2.2
  refine S_aload_n X dX12_parts_0 rfl rfl ?_
  refine S_get X fgX12_253_11 0 rfl hf0 dX12_parts_1 ?_
  refine S_if_ne (tgt := 9) X dX12_parts_4 (by decide) (by omega) (fun c_1 => ?_) (fun c_1 => ?_)
  ·
    have hok := hz.s (by omega)
    have hpl := hok.2.1
    have hpl1 := hok.1
    have hn1 := hok.2.2.1
    have hn2 := hok.2.2.2.1
    have hec := hok.2.2.2.2
    refine S_aload_n X dX12_parts_9 rfl rfl ?_
    refine S_callv X (kX12_play l h0 f pl n ec mk hQ hB hE hA hM hW Q B E Ab Mt Wt hf0 hf1 hf2 hf3 hf4 hf5 hf6 hf7 hf8 hf9 (by omega)) (is := [0, 1, 2, 3, 4, 5, 6]) rfl (run_V X lkX12_312 0 rfl rfl (is := [0, 1, 2, 3, 4, 5, 6]) (avs := []) (rest := []) rfl rfl (nle rfl) ⟨nle rfl, nle rfl⟩ ⟨nle rfl, nle rfl⟩ dX12_parts_10 (by decide) rfl) (fun u_2 hp_3 => ?_)
    obtain ⟨A2_5, M2_6, W2_7, hu_9, hA2_10, hM2_11, hW2_12⟩ := hp_3
    subst hu_9
    refine ⟨rfl, ?_⟩
    refine S_w (ws' := [(h0, ob 11 f), (hQ, ar 30 Q), (hB, ar 6 B), (hE, ar 6 E), (hA, ar 1206 A2_5), (hM, ar 180 M2_6), (hW, ar 180 W2_7)]) rfl ?_
    have hAL := hA2_10
    have hML := hM2_11
    have hWL := hW2_12
    refine S_iconst X dX12_parts_13 ?_
    refine S_istore_n X dX12_parts_14 rfl (nle rfl) ?_
    have lp15_1 : ∀ (N : Nat) (b : Int) (L : Nat → Option AV), 0 ≤ b ∧ b ≤ n → fsI (sS pl ec mk (c5 Q 3) (c5 Q 4) B E) lim b = -1 → L 0 = some (rv h0) → L 1 = some (iv b) → n + 1 - b < (N : Int) → S_ p l e (rmD 4 0 0) s m args below meth c (MQ below (QcI D G A Po) args s 0 0 A) D G A 2 0 0 15 L [] [(h0, ob 11 f), (hQ, ar 30 Q), (hB, ar 6 B), (hE, ar 6 E), (hA, ar 1206 A2_5), (hM, ar 180 M2_6), (hW, ar 180 W2_7)] := by
      intro N
      induction N with
      | zero =>
        intro b L15 hb hfs hL15_0 hL15_1 hN15
        exfalso; omega
      | succ N ih15 =>
        intro b L15 hb hfs hL15_0 hL15_1 hN15
        refine S_iload_n X dX12_parts_15 rfl hL15_1 ?_
        refine S_aload_n X dX12_parts_16 rfl hL15_0 ?_
        refine S_get X fgX12_56_11 0 rfl hf1 dX12_parts_17 ?_
        refine S_icmp_ge (tgt := 43) X dX12_parts_20 (by decide) (by omega) (by omega) (fun c_13 => ?_) (fun c_13 => ?_)
        ·
          refine S_iconst X dX12_parts_43 ?_
          exact S_iret X (nle rfl) (nle rfl) dX12_parts_44 (hPo _ _ (⟨_, _, _, by unfold aParts; rw [if_pos (by omega)]; rw [show n = b by omega]; exact hfs.symm, rfl⟩))
        ·
          refine S_aload_n X dX12_parts_23 rfl hL15_0 ?_
          refine S_iload_n X dX12_parts_24 rfl hL15_1 ?_
          refine S_calli X (kX12_spreadAt l h0 f pl n ec mk hM Q B E M2_6 b hf0 hf8 (by omega) hML (by omega)) (is := [0, 5]) rfl (run_V X lkX12_315 0 rfl rfl (is := [0, 5]) (avs := [iv b]) (rest := []) rfl rfl (nle rfl) ⟨nle rfl, nle rfl⟩ ⟨nle rfl, nle rfl⟩ dX12_parts_25 (by decide) rfl) (fun z_16 u_14 hp_15 => ?_)
          obtain ⟨hz_17, hu_18⟩ := hp_15
          subst hz_17
          subst hu_18
          refine ⟨rfl, ?_⟩
          refine S_w (ws' := [(h0, ob 11 f), (hQ, ar 30 Q), (hB, ar 6 B), (hE, ar 6 E), (hA, ar 1206 A2_5), (hM, ar 180 M2_6), (hW, ar 180 W2_7)]) rfl ?_
          have hsr := hok.spread (mk := mk) b (by omega) (by omega)
          refine S_aload_n X dX12_parts_28 rfl hL15_0 ?_
          refine S_get X fgX12_59_11 0 rfl hf10 dX12_parts_29 ?_
          refine S_icmp_le (tgt := 37) X dX12_parts_32 (by decide) (by omega) (by omega) (fun c_19 => ?_) (fun c_19 => ?_)
          ·
            refine S_iinc X dX12_parts_37 (nle rfl) hL15_1 ?_
            refine S_goto (tgt := 15) X dX12_parts_40 (by decide) ?_
            exact ih15 (b + 1) _ (by omega) (fsI_skip (by omega) hfs (by omega)) hL15_0 rfl (by omega)
          ·
            refine S_iload_n X dX12_parts_35 rfl hL15_1 ?_
            exact S_iret X (nle rfl) (nle rfl) dX12_parts_36 (hPo _ _ (⟨_, _, _, by unfold aParts; rw [if_pos (by omega)]; exact (fsI_hit (by omega) hfs (by omega) n (by omega) (by omega)).symm, rfl⟩))
    exact lp15_1 (Int.toNat (n + 1 - 0) + 1) 0 _ (by omega) (fsI_0) rfl rfl (by omega)
  ·
    refine S_iconst X dX12_parts_7 ?_
    exact S_iret X (nle rfl) (nle rfl) dX12_parts_8 (hPo _ _ (⟨_, _, _, by unfold aParts; rw [if_neg (by omega)], rfl⟩))
set_option maxHeartbeats 4000000 in
set_option maxRecDepth 100000 in
theorem kX12_last (l : Launch) (h0 : Nat) (f : Nat → AV) (pl : Int) (n : Int) (ec : Int) (mk : Int) (hQ : Nat) (hB : Nat) (hE : Nat) (hA : Nat) (hM : Nat) (hW : Nat) (Q : Int → Int) (B : Int → Int) (E : Int → Int) (Ab : Int → Int) (Mt : Int → Int) (Wt : Int → Int) (b : Int) (hf0 : f 21 = iv pl) (hf1 : f 28 = iv n) (hf2 : f 29 = iv ec) (hf3 : f 26 = iv mk) (hf4 : f 20 = rv hQ) (hf5 : f 23 = rv hB) (hf6 : f 24 = rv hE) (hf7 : f 33 = rv hA) (hf8 : f 34 = rv hM) (hf9 : f 35 = rv hW) (hz : okZ pl n ec (c5 Q 3) (c5 Q 4) B E) (hx_b : inR b) : AMi l yX12_last cX12_last 2 .int 4 0 0 [rv h0, iv b] [(h0, ob 11 f), (hQ, ar 30 Q), (hB, ar 6 B), (hE, ar 6 E), (hA, ar 1206 Ab), (hM, ar 180 Mt), (hW, ar 180 Wt)] (fun z u => ∃ A2 : Int → Int, ∃ M2 : Int → Int, ∃ W2 : Int → Int, z = aLast pl n ec mk (c5 Q 3) (c5 Q 4) B E b ∧ u = [(h0, ob 11 f), (hQ, ar 30 Q), (hB, ar 6 B), (hE, ar 6 E), (hA, ar 1206 A2), (hM, ar 180 M2), (hW, ar 180 W2)]) := by
  refine AMi.of2 rfl (nle rfl) ?_
  intro D G A p e s m args below meth c Po hPo X
  have hz6 := hz.2.1
  have hz0 := hz.1
  have hzn := hz.2.2.1
  have hzm := hz.2.2.2.1
  have hze := hz.2.2.2.2
  refine S_aload_n X dX12_last_0 rfl rfl ?_
  refine S_iload_n X dX12_last_1 rfl rfl ?_
  refine S_calli X (kX12_isBar l h0 f pl n b hf0 hf1 (by omega) (by omega) (by omega)) (is := [0]) rfl (run_V X lkX12_309 0 rfl rfl (is := [0]) (avs := [iv b]) (rest := []) rfl rfl (nle rfl) ⟨nle rfl, nle rfl⟩ ⟨nle rfl, nle rfl⟩ dX12_last_2 (by decide) rfl) (fun z_3 u_1 hp_2 => ?_)
  rcases hp_2 with ⟨hz_4, hu_5, hq_6⟩ | ⟨hz_7, hu_8, hq_9⟩
  ·
    subst hz_4
    subst hu_5
    refine ⟨rfl, ?_⟩
    refine S_w (ws' := [(h0, ob 11 f), (hQ, ar 30 Q), (hB, ar 6 B), (hE, ar 6 E), (hA, ar 1206 Ab), (hM, ar 180 Mt), (hW, ar 180 Wt)]) rfl ?_
    refine S_if_ne (tgt := 10) X dX12_last_5 (by decide) (by decide) (fun h9 => absurd h9 (by decide)) (fun _ => ?_)
    refine S_iconst X dX12_last_8 ?_
    exact S_iret X (nle rfl) (nle rfl) dX12_last_9 (hPo _ _ (⟨_, _, _, by unfold aLast; rw [if_neg (by omega)], rfl⟩))
  ·
    subst hz_7
    subst hu_8
    refine ⟨rfl, ?_⟩
    refine S_w (ws' := [(h0, ob 11 f), (hQ, ar 30 Q), (hB, ar 6 B), (hE, ar 6 E), (hA, ar 1206 Ab), (hM, ar 180 Mt), (hW, ar 180 Wt)]) rfl ?_
    refine S_if_ne (tgt := 10) X dX12_last_5 (by decide) (by decide) (fun _ => ?_) (fun h9 => absurd h9 (by decide))
    have hok := hz.s (by omega)
    have hpl := hok.2.1
    have hpl1 := hok.1
    have hn1 := hok.2.2.1
    have hn2 := hok.2.2.2.1
    have hec := hok.2.2.2.2
    refine S_aload_n X dX12_last_10 rfl rfl ?_
    refine S_callv X (kX12_play l h0 f pl n ec mk hQ hB hE hA hM hW Q B E Ab Mt Wt hf0 hf1 hf2 hf3 hf4 hf5 hf6 hf7 hf8 hf9 (by omega)) (is := [0, 1, 2, 3, 4, 5, 6]) rfl (run_V X lkX12_312 0 rfl rfl (is := [0, 1, 2, 3, 4, 5, 6]) (avs := []) (rest := []) rfl rfl (nle rfl) ⟨nle rfl, nle rfl⟩ ⟨nle rfl, nle rfl⟩ dX12_last_11 (by decide) rfl) (fun u_12 hp_13 => ?_)
    obtain ⟨A2_15, M2_16, W2_17, hu_19, hA2_20, hM2_21, hW2_22⟩ := hp_13
    subst hu_19
    refine ⟨rfl, ?_⟩
    refine S_w (ws' := [(h0, ob 11 f), (hQ, ar 30 Q), (hB, ar 6 B), (hE, ar 6 E), (hA, ar 1206 A2_15), (hM, ar 180 M2_16), (hW, ar 180 W2_17)]) rfl ?_
    have hAL := hA2_20
    have hML := hM2_21
    have hWL := hW2_22
    refine S_aload_n X dX12_last_14 rfl rfl ?_
    refine S_iload_n X dX12_last_15 rfl rfl ?_
    refine S_calli X (kX12_lastAt l h0 f pl n ec mk hM Q B E M2_16 b hf0 hf8 (by omega) hML (by omega)) (is := [0, 5]) rfl (run_V X lkX12_324 0 rfl rfl (is := [0, 5]) (avs := [iv b]) (rest := []) rfl rfl (nle rfl) ⟨nle rfl, nle rfl⟩ ⟨nle rfl, nle rfl⟩ dX12_last_16 (by decide) rfl) (fun z_25 u_23 hp_24 => ?_)
    obtain ⟨hz_26, hu_27⟩ := hp_24
    subst hz_26
    subst hu_27
    refine ⟨rfl, ?_⟩
    refine S_w (ws' := [(h0, ob 11 f), (hQ, ar 30 Q), (hB, ar 6 B), (hE, ar 6 E), (hA, ar 1206 A2_15), (hM, ar 180 M2_16), (hW, ar 180 W2_17)]) rfl ?_
    exact S_iret X (nle rfl) (nle rfl) dX12_last_19 (hPo _ _ (⟨_, _, _, by unfold aLast; rw [if_pos (by omega)]; try rfl, rfl⟩))
set_option maxHeartbeats 4000000 in
set_option maxRecDepth 100000 in
theorem kX12_areLike (l : Launch) (h0 : Nat) (f : Nat → AV) (pl : Int) (n : Int) (ec : Int) (hA : Nat) (Q : Int → Int) (B : Int → Int) (E : Int → Int) (Ab : Int → Int) (i : Int) (j : Int) (hf0 : f 21 = iv pl) (hf1 : f 33 = rv hA) (hok : okS pl n ec (c5 Q 3) (c5 Q 4) B E) (hr : reg Ab (bF ec (c5 Q 3) (c5 Q 4) B) pl 201 0) (hi : 0 ≤ i ∧ i ≤ 200) (hj : 0 ≤ j ∧ j ≤ 200) : AMi l yX12_areLike cX12_areLike 5 .boolean 1 0 0 [rv h0, iv i, iv j] [(h0, ob 11 f), (hA, ar 1206 Ab)] (fun z u => (z = 0 ∧ u = [(h0, ob 11 f), (hA, ar 1206 Ab)] ∧ ¬ lkR pl ec (c5 Q 3) (c5 Q 4) B i j) ∨ (z = 1 ∧ u = [(h0, ob 11 f), (hA, ar 1206 Ab)] ∧ lkR pl ec (c5 Q 3) (c5 Q 4) B i j)) := by
  refine AMi.of2 rfl (nle rfl) ?_
  intro D G A p e s m args below meth c Po hPo X
  have hpl := hok.2.1
  have hpl1 := hok.1
  have hn1 := hok.2.2.1
  have hn2 := hok.2.2.2.1
  have hec := hok.2.2.2.2
  refine S_iconst X dX12_areLike_0 ?_
  refine S_istore_n X dX12_areLike_1 rfl (nle rfl) ?_
  have lp2_0 : ∀ (N : Nat) (k : Int) (L : Nat → Option AV), 0 ≤ k ∧ k ≤ 4 → (∀ x, 0 ≤ x → x < k → ∀ y, 0 ≤ y → y < pl → bF ec (c5 Q 3) (c5 Q 4) B (max 0 (i - x)) y = bF ec (c5 Q 3) (c5 Q 4) B (max 0 (j - x)) y) → L 0 = some (rv h0) → L 1 = some (iv i) → L 2 = some (iv j) → L 3 = some (iv k) → 5 - k < (N : Int) → S_ p l e (rmD 1 0 0) s m args below meth c (MQ below (QcI D G A Po) args s 0 0 A) D G A 5 0 0 2 L [] [(h0, ob 11 f), (hA, ar 1206 Ab)] := by
    intro N
    induction N with
    | zero =>
      intro k L2 hk hlk hL2_0 hL2_1 hL2_2 hL2_3 hN2
      exfalso; omega
    | succ N ih2 =>
      intro k L2 hk hlk hL2_0 hL2_1 hL2_2 hL2_3 hN2
      refine S_iload_n X dX12_areLike_2 rfl hL2_3 ?_
      refine S_iconst X dX12_areLike_3 ?_
      refine S_icmp_ge (tgt := 72) X dX12_areLike_4 (by decide) (by omega) (by decide) (fun c_1 => ?_) (fun c_1 => ?_)
      ·
        refine S_iconst X dX12_areLike_72 ?_
        exact S_zret X (Or.inr rfl) (nle rfl) (nle rfl) dX12_areLike_73 (hPo _ _ (Or.inr ⟨rfl, rfl, fun x h0 h1 y h2 h3 => hlk x h0 (by omega) y h2 h3⟩))
      ·
        refine S_iconst X dX12_areLike_7 ?_
        refine S_istore X dX12_areLike_8 (nle rfl) ?_
        have lp10_3 : ∀ (N : Nat) (q : Int) (L : Nat → Option AV), 0 ≤ q ∧ q ≤ pl → (∀ y, 0 ≤ y → y < q → bF ec (c5 Q 3) (c5 Q 4) B (max 0 (i - k)) y = bF ec (c5 Q 3) (c5 Q 4) B (max 0 (j - k)) y) → L 0 = some (rv h0) → L 1 = some (iv i) → L 2 = some (iv j) → L 3 = some (iv k) → L 4 = some (iv q) → pl + 1 - q < (N : Int) → S_ p l e (rmD 1 0 0) s m args below meth c (MQ below (QcI D G A Po) args s 0 0 A) D G A 5 0 0 10 L [] [(h0, ob 11 f), (hA, ar 1206 Ab)] := by
          intro N
          induction N with
          | zero =>
            intro q L10 hq hlq hL10_0 hL10_1 hL10_2 hL10_3 hL10_4 hN10
            exfalso; omega
          | succ N ih10 =>
            intro q L10 hq hlq hL10_0 hL10_1 hL10_2 hL10_3 hL10_4 hN10
            refine S_iload X dX12_areLike_10 hL10_4 ?_
            refine S_aload_n X dX12_areLike_12 rfl hL10_0 ?_
            refine S_get X fgX12_253_11 0 rfl hf0 dX12_areLike_13 ?_
            refine S_icmp_ge (tgt := 66) X dX12_areLike_16 (by decide) (by omega) (by omega) (fun c_2 => ?_) (fun c_2 => ?_)
            ·
              refine S_iinc X dX12_areLike_66 (nle rfl) hL10_3 ?_
              refine S_goto (tgt := 2) X dX12_areLike_69 (by decide) ?_
              exact ih2 (k + 1) _ (by omega) (fun x h0 h1 y h2 h3 => (by omega : x < k ∨ x = k).elim (fun q9 => hlk x h0 q9 y h2 h3) (fun q9 => by rw [q9]; exact hlq y h2 (by omega))) hL10_0 hL10_1 hL10_2 rfl (by omega)
            ·
              have h1 := hr.at (z := 6 * max 0 (i - k) + q) (x := max 0 (i - k)) (y := q) rfl (by omega) (by omega) (by omega) (by omega)
              have h2 := hr.at (z := 6 * max 0 (j - k) + q) (x := max 0 (j - k)) (y := q) rfl (by omega) (by omega) (by omega) (by omega)
              have h3 := hok.beat (max 0 (i - k)) q (by omega) (by omega) (by omega)
              have h4 := hok.beat (max 0 (j - k)) q (by omega) (by omega) (by omega)
              refine S_aload_n X dX12_areLike_19 rfl hL10_0 ?_
              refine S_get X fgX12_65_11 0 rfl hf1 dX12_areLike_20 ?_
              refine S_bipush X dX12_areLike_23 rfl ?_
              refine S_iconst X dX12_areLike_25 ?_
              refine S_iload_n X dX12_areLike_26 rfl hL10_1 ?_
              refine S_iload_n X dX12_areLike_27 rfl hL10_3 ?_
              refine S_isub X dX12_areLike_28 ?_
              refine S_mmax X lkX12_295 rfl rfl (by decide) (by omega) (nle rfl) (nle rfl) (nle rfl) (nle rfl) dX12_areLike_29 ?_
              refine S_imul X dX12_areLike_32 ?_
              refine S_iload X dX12_areLike_33 hL10_4 ?_
              refine S_iadd X dX12_areLike_35 ?_
              refine S_iald X 1 rfl (by omega) (by omega) (nle rfl) dX12_areLike_36 ?_
              refine S_aload_n X dX12_areLike_37 rfl hL10_0 ?_
              refine S_get X fgX12_65_11 0 rfl hf1 dX12_areLike_38 ?_
              refine S_bipush X dX12_areLike_41 rfl ?_
              refine S_iconst X dX12_areLike_43 ?_
              refine S_iload_n X dX12_areLike_44 rfl hL10_2 ?_
              refine S_iload_n X dX12_areLike_45 rfl hL10_3 ?_
              refine S_isub X dX12_areLike_46 ?_
              refine S_mmax X lkX12_295 rfl rfl (by decide) (by omega) (nle rfl) (nle rfl) (nle rfl) (nle rfl) dX12_areLike_47 ?_
              refine S_imul X dX12_areLike_50 ?_
              refine S_iload X dX12_areLike_51 hL10_4 ?_
              refine S_iadd X dX12_areLike_53 ?_
              refine S_iald X 1 rfl (by omega) (by omega) (nle rfl) dX12_areLike_54 ?_
              refine S_icmp_eq (tgt := 60) X dX12_areLike_55 (by decide) (by omega) (by omega) (fun c_3 => ?_) (fun c_3 => ?_)
              ·
                refine S_iinc X dX12_areLike_60 (nle rfl) hL10_4 ?_
                refine S_goto (tgt := 10) X dX12_areLike_63 (by decide) ?_
                exact ih10 (q + 1) _ (by omega) (fun y h0 h1 => (by omega : y < q ∨ y = q).elim (fun q9 => hlq y h0 q9) (fun q9 => by rw [q9]; omega)) hL10_0 hL10_1 hL10_2 hL10_3 rfl (by omega)
              ·
                refine S_iconst X dX12_areLike_58 ?_
                exact S_zret X (Or.inl rfl) (nle rfl) (nle rfl) dX12_areLike_59 (hPo _ _ (Or.inl ⟨rfl, rfl, fun h9 => by have := h9 k (by omega) (by omega) q (by omega) (by omega); omega⟩))
        exact lp10_3 (Int.toNat (pl + 1 - 0) + 1) 0 _ (by omega) (fun y h0 h1 => by omega) hL2_0 hL2_1 hL2_2 hL2_3 rfl (by omega)
  exact lp2_0 (Int.toNat (5 - 0) + 1) 0 _ (by omega) (fun x h0 h1 => by omega) rfl rfl rfl rfl (by omega)
set_option maxHeartbeats 4000000 in
set_option maxRecDepth 100000 in
theorem kX12_settle (l : Launch) (h0 : Nat) (f : Nat → AV) (pl : Int) (n : Int) (ec : Int) (hQ : Nat) (hB : Nat) (hA : Nat) (Q : Int → Int) (B : Int → Int) (E : Int → Int) (Ab : Int → Int) (v : Int) (hf0 : f 21 = iv pl) (hf1 : f 29 = iv ec) (hf2 : f 20 = rv hQ) (hf3 : f 23 = rv hB) (hf4 : f 33 = rv hA) (hz : okZ pl n ec (c5 Q 3) (c5 Q 4) B E) (hv : inR v) : AMi l yX12_settle cX12_settle 4 .int 3 0 0 [rv h0, iv v] [(h0, ob 11 f), (hQ, ar 30 Q), (hB, ar 6 B), (hA, ar 1206 Ab)] (fun z u => ∃ z9 : Int, ∃ A2 : Int → Int, z = z9 ∧ u = [(h0, ob 11 f), (hQ, ar 30 Q), (hB, ar 6 B), (hA, ar 1206 A2)] ∧ rSettle pl ec (c5 Q 3) (c5 Q 4) B v z9) := by
  refine AMi.of2 rfl (nle rfl) ?_
  intro D G A p e s m args below meth c Po hPo X
  have hz6 := hz.2.1
  have hz0 := hz.1
  refine S_aload_n X dX12_settle_0 rfl rfl ?_
  refine S_get X fgX12_253_11 0 rfl hf0 dX12_settle_1 ?_
  refine S_if_eq (tgt := 16) X dX12_settle_4 (by decide) (by omega) (fun c_1 => ?_) (fun c_1 => ?_)
  ·
    refine S_iconst X dX12_settle_16 ?_
    exact S_iret X (nle rfl) (nle rfl) dX12_settle_17 (hPo _ _ (⟨_, _, rfl, rfl, Or.inl ⟨by omega, rfl⟩⟩))
  ·
    refine S_iload_n X dX12_settle_7 rfl rfl ?_
    refine S_iconst X dX12_settle_8 ?_
    refine S_iconst X dX12_settle_9 ?_
    refine S_calli X (kX12_in l v 0 1 (by omega) (by omega) (by omega)) (is := []) rfl (run_S X lkX12_216 (is := []) (avs := [iv v, iv 0, iv 1]) (rest := []) rfl rfl (nle rfl) ⟨nle rfl, nle rfl⟩ ⟨nle rfl, nle rfl⟩ dX12_settle_10 (by decide) rfl) (fun z_4 u_2 hp_3 => ?_)
    rcases hp_3 with ⟨hz_5, hu_6, hq_7⟩ | ⟨hz_8, hu_9, hq_10⟩
    ·
      subst hz_5
      subst hu_6
      refine ⟨rfl, ?_⟩
      refine S_w (ws' := [(h0, ob 11 f), (hQ, ar 30 Q), (hB, ar 6 B), (hA, ar 1206 Ab)]) rfl ?_
      refine S_if_ne (tgt := 18) X dX12_settle_13 (by decide) (by decide) (fun h9 => absurd h9 (by decide)) (fun _ => ?_)
      refine S_iconst X dX12_settle_16 ?_
      exact S_iret X (nle rfl) (nle rfl) dX12_settle_17 (hPo _ _ (⟨_, _, rfl, rfl, Or.inl ⟨by omega, rfl⟩⟩))
    ·
      subst hz_8
      subst hu_9
      refine ⟨rfl, ?_⟩
      refine S_w (ws' := [(h0, ob 11 f), (hQ, ar 30 Q), (hB, ar 6 B), (hA, ar 1206 Ab)]) rfl ?_
      refine S_if_ne (tgt := 18) X dX12_settle_13 (by decide) (by decide) (fun _ => ?_) (fun h9 => absurd h9 (by decide))
      have hok := hz.s (by omega)
      have hpl := hok.2.1
      have hpl1 := hok.1
      have hn1 := hok.2.2.1
      have hn2 := hok.2.2.2.1
      have hec := hok.2.2.2.2
      refine S_aload_n X dX12_settle_18 rfl rfl ?_
      refine S_sipush X dX12_settle_19 rfl ?_
      refine S_callv X (kX12_layBeats l h0 f pl n ec hQ hB hA Q B E Ab 201 hf0 hf1 hf2 hf3 hf4 (by omega) (by omega)) (is := [0, 1, 2, 3]) rfl (run_V X lkX12_306 0 rfl rfl (is := [0, 1, 2, 3]) (avs := [iv 201]) (rest := []) rfl rfl (nle rfl) ⟨nle rfl, nle rfl⟩ ⟨nle rfl, nle rfl⟩ dX12_settle_22 (by decide) rfl) (fun u_13 hp_14 => ?_)
      obtain ⟨A2_16, hu_18, hreg_19⟩ := hp_14
      subst hu_18
      refine ⟨rfl, ?_⟩
      refine S_w (ws' := [(h0, ob 11 f), (hQ, ar 30 Q), (hB, ar 6 B), (hA, ar 1206 A2_16)]) rfl ?_
      have hAL := hreg_19
      refine S_iconst X dX12_settle_25 ?_
      refine S_istore_n X dX12_settle_26 rfl (nle rfl) ?_
      have lp27_2 : ∀ (N : Nat) (j : Int) (L : Nat → Option AV), 1 ≤ j ∧ j ≤ 201 → (∀ x, 1 ≤ x → x < j → ∀ y, 0 ≤ y → y < x → ¬ lkR pl ec (c5 Q 3) (c5 Q 4) B y x) → L 0 = some (rv h0) → L 1 = some (iv v) → L 2 = some (iv j) → 202 - j < (N : Int) → S_ p l e (rmD 3 0 0) s m args below meth c (MQ below (QcI D G A Po) args s 0 0 A) D G A 4 0 0 27 L [] [(h0, ob 11 f), (hQ, ar 30 Q), (hB, ar 6 B), (hA, ar 1206 A2_16)] := by
        intro N
        induction N with
        | zero =>
          intro j L27 hj hnj hL27_0 hL27_1 hL27_2 hN27
          exfalso; omega
        | succ N ih27 =>
          intro j L27 hj hnj hL27_0 hL27_1 hL27_2 hN27
          refine S_iload_n X dX12_settle_27 rfl hL27_2 ?_
          refine S_sipush X dX12_settle_28 rfl ?_
          refine S_icmp_ge (tgt := 74) X dX12_settle_31 (by decide) (by omega) (by decide) (fun c_20 => ?_) (fun c_20 => ?_)
          ·
            refine S_iconst X dX12_settle_74 ?_
            exact S_iret X (nle rfl) (nle rfl) dX12_settle_75 (hPo _ _ (⟨_, _, rfl, rfl, Or.inr ⟨by omega, by omega, Or.inl ⟨fun x h0 h1 y h2 h3 => hnj x h0 (by omega) y h2 h3, rfl⟩⟩⟩))
          ·
            refine S_iconst X dX12_settle_34 ?_
            refine S_istore_n X dX12_settle_35 rfl (nle rfl) ?_
            have lp36_5 : ∀ (N : Nat) (i : Int) (L : Nat → Option AV), 0 ≤ i ∧ i ≤ j → (∀ y, 0 ≤ y → y < i → ¬ lkR pl ec (c5 Q 3) (c5 Q 4) B y j) → L 0 = some (rv h0) → L 1 = some (iv v) → L 2 = some (iv j) → L 3 = some (iv i) → j + 1 - i < (N : Int) → S_ p l e (rmD 3 0 0) s m args below meth c (MQ below (QcI D G A Po) args s 0 0 A) D G A 4 0 0 36 L [] [(h0, ob 11 f), (hQ, ar 30 Q), (hB, ar 6 B), (hA, ar 1206 A2_16)] := by
              intro N
              induction N with
              | zero =>
                intro i L36 hi hni hL36_0 hL36_1 hL36_2 hL36_3 hN36
                exfalso; omega
              | succ N ih36 =>
                intro i L36 hi hni hL36_0 hL36_1 hL36_2 hL36_3 hN36
                refine S_iload_n X dX12_settle_36 rfl hL36_3 ?_
                refine S_iload_n X dX12_settle_37 rfl hL36_2 ?_
                refine S_icmp_ge (tgt := 68) X dX12_settle_38 (by decide) (by omega) (by omega) (fun c_21 => ?_) (fun c_21 => ?_)
                ·
                  refine S_iinc X dX12_settle_68 (nle rfl) hL36_2 ?_
                  refine S_goto (tgt := 27) X dX12_settle_71 (by decide) ?_
                  exact ih27 (j + 1) _ (by omega) (fun x h0 h1 y h2 h3 => (by omega : x < j ∨ x = j).elim (fun q9 => hnj x h0 q9 y h2 h3) (fun q9 => by rw [q9]; exact hni y h2 (by omega))) hL36_0 hL36_1 rfl (by omega)
                ·
                  refine S_aload_n X dX12_settle_41 rfl hL36_0 ?_
                  refine S_iload_n X dX12_settle_42 rfl hL36_3 ?_
                  refine S_iload_n X dX12_settle_43 rfl hL36_2 ?_
                  refine S_calli X (kX12_areLike l h0 f pl n ec hA Q B E A2_16 i j hf0 hf4 (by omega) hAL (by omega) (by omega)) (is := [0, 3]) rfl (run_V X lkX12_327 0 rfl rfl (is := [0, 3]) (avs := [iv i, iv j]) (rest := []) rfl rfl (nle rfl) ⟨nle rfl, nle rfl⟩ ⟨nle rfl, nle rfl⟩ dX12_settle_44 (by decide) rfl) (fun z_24 u_22 hp_23 => ?_)
                  rcases hp_23 with ⟨hz_25, hu_26, hq_27⟩ | ⟨hz_28, hu_29, hq_30⟩
                  ·
                    subst hz_25
                    subst hu_26
                    refine ⟨rfl, ?_⟩
                    refine S_w (ws' := [(h0, ob 11 f), (hQ, ar 30 Q), (hB, ar 6 B), (hA, ar 1206 A2_16)]) rfl ?_
                    have hlk9 := hq_27
                    refine S_if_eq (tgt := 62) X dX12_settle_47 (by decide) (by decide) (fun _ => ?_) (fun h9 => absurd h9 (by decide))
                    refine S_iinc X dX12_settle_62 (nle rfl) hL36_3 ?_
                    refine S_goto (tgt := 36) X dX12_settle_65 (by decide) ?_
                    exact ih36 (i + 1) _ (by omega) (fun y h0 h1 => (by omega : y < i ∨ y = i).elim (fun q9 => hni y h0 q9) (fun q9 => by rw [q9]; exact hlk9)) hL36_0 hL36_1 hL36_2 rfl (by omega)
                  ·
                    subst hz_28
                    subst hu_29
                    refine ⟨rfl, ?_⟩
                    refine S_w (ws' := [(h0, ob 11 f), (hQ, ar 30 Q), (hB, ar 6 B), (hA, ar 1206 A2_16)]) rfl ?_
                    have hlk9 := hq_30
                    refine S_if_eq (tgt := 62) X dX12_settle_47 (by decide) (by decide) (fun h9 => absurd h9 (by decide)) (fun _ => ?_)
                    refine S_iload_n X dX12_settle_50 rfl hL36_1 ?_
                    refine S_if_ne (tgt := 58) X dX12_settle_51 (by decide) (by omega) (fun c_33 => ?_) (fun c_33 => ?_)
                    ·
                      refine S_iload_n X dX12_settle_58 rfl hL36_2 ?_
                      refine S_iload_n X dX12_settle_59 rfl hL36_3 ?_
                      refine S_isub X dX12_settle_60 ?_
                      exact S_iret X (nle rfl) (nle rfl) dX12_settle_61 (hPo _ _ (⟨_, _, rfl, rfl, Or.inr ⟨by omega, by omega, Or.inr ⟨j, i, by omega, by omega, by omega, by omega, hlk9, hnj, hni, by rw [if_neg (by omega)]⟩⟩⟩))
                    ·
                      refine S_iload_n X dX12_settle_54 rfl hL36_3 ?_
                      refine S_goto (tgt := 61) X dX12_settle_55 (by decide) ?_
                      exact S_iret X (nle rfl) (nle rfl) dX12_settle_61 (hPo _ _ (⟨_, _, rfl, rfl, Or.inr ⟨by omega, by omega, Or.inr ⟨j, i, by omega, by omega, by omega, by omega, hlk9, hnj, hni, by rw [if_pos (by omega)]⟩⟩⟩))
            exact lp36_5 (Int.toNat (j + 1 - 0) + 1) 0 _ (by omega) (fun y h0 h1 => by omega) hL27_0 hL27_1 hL27_2 rfl (by omega)
      exact lp27_2 (Int.toNat (202 - 1) + 1) 1 _ (by omega) (fun x h0 h1 => by omega) rfl rfl rfl (by omega)
set_option maxHeartbeats 4000000 in
set_option maxRecDepth 100000 in
theorem kX12_place (l : Launch) (h0 : Nat) (f : Nat → AV) (pl : Int) (n : Int) (ec : Int) (mk : Int) (hQ : Nat) (hB : Nat) (hE : Nat) (hA : Nat) (hM : Nat) (hW : Nat) (Q : Int → Int) (B : Int → Int) (E : Int → Int) (Ab : Int → Int) (Mt : Int → Int) (Wt : Int → Int) (b : Int) (i : Int) (hf0 : f 21 = iv pl) (hf1 : f 28 = iv n) (hf2 : f 29 = iv ec) (hf3 : f 26 = iv mk) (hf4 : f 20 = rv hQ) (hf5 : f 23 = rv hB) (hf6 : f 24 = rv hE) (hf7 : f 33 = rv hA) (hf8 : f 34 = rv hM) (hf9 : f 35 = rv hW) (hz : okZ pl n ec (c5 Q 3) (c5 Q 4) B E) (hx_b : inR b) (hx_i : inR i) : AMi l yX12_place cX12_place 7 .int 4 0 0 [rv h0, iv b, iv i] [(h0, ob 11 f), (hQ, ar 30 Q), (hB, ar 6 B), (hE, ar 6 E), (hA, ar 1206 Ab), (hM, ar 180 Mt), (hW, ar 180 Wt)] (fun z u => ∃ A2 : Int → Int, ∃ M2 : Int → Int, ∃ W2 : Int → Int, z = aPlace pl n ec mk (c5 Q 3) (c5 Q 4) B E b i ∧ u = [(h0, ob 11 f), (hQ, ar 30 Q), (hB, ar 6 B), (hE, ar 6 E), (hA, ar 1206 A2), (hM, ar 180 M2), (hW, ar 180 W2)]) := by
  refine AMi.of2 rfl (nle rfl) ?_
  intro D G A p e s m args below meth c Po hPo X
  have hz6 := hz.2.1
  have hz0 := hz.1
  have hzn := hz.2.2.1
  have hzm := hz.2.2.2.1
  have hze := hz.2.2.2.2
  refine S_aload_n X dX12_place_0 rfl rfl ?_
  refine S_iload_n X dX12_place_1 rfl rfl ?_
  refine S_calli X (kX12_isBar l h0 f pl n b hf0 hf1 (by omega) (by omega) (by omega)) (is := [0]) rfl (run_V X lkX12_309 0 rfl rfl (is := [0]) (avs := [iv b]) (rest := []) rfl rfl (nle rfl) ⟨nle rfl, nle rfl⟩ ⟨nle rfl, nle rfl⟩ dX12_place_2 (by decide) rfl) (fun z_3 u_1 hp_2 => ?_)
  rcases hp_2 with ⟨hz_4, hu_5, hq_6⟩ | ⟨hz_7, hu_8, hq_9⟩
  ·
    subst hz_4
    subst hu_5
    refine ⟨rfl, ?_⟩
    refine S_w (ws' := [(h0, ob 11 f), (hQ, ar 30 Q), (hB, ar 6 B), (hE, ar 6 E), (hA, ar 1206 Ab), (hM, ar 180 Mt), (hW, ar 180 Wt)]) rfl ?_
    refine S_if_ne (tgt := 10) X dX12_place_5 (by decide) (by decide) (fun h9 => absurd h9 (by decide)) (fun _ => ?_)
    refine S_iconst X dX12_place_8 ?_
    exact S_iret X (nle rfl) (nle rfl) dX12_place_9 (hPo _ _ (⟨_, _, _, by unfold aPlace; rw [if_neg (by omega)], rfl⟩))
  ·
    subst hz_7
    subst hu_8
    refine ⟨rfl, ?_⟩
    refine S_w (ws' := [(h0, ob 11 f), (hQ, ar 30 Q), (hB, ar 6 B), (hE, ar 6 E), (hA, ar 1206 Ab), (hM, ar 180 Mt), (hW, ar 180 Wt)]) rfl ?_
    refine S_if_ne (tgt := 10) X dX12_place_5 (by decide) (by decide) (fun _ => ?_) (fun h9 => absurd h9 (by decide))
    have hok := hz.s (by omega)
    have hpl := hok.2.1
    have hpl1 := hok.1
    have hn1 := hok.2.2.1
    have hn2 := hok.2.2.2.1
    have hec := hok.2.2.2.2
    refine S_aload_n X dX12_place_10 rfl rfl ?_
    refine S_callv X (kX12_play l h0 f pl n ec mk hQ hB hE hA hM hW Q B E Ab Mt Wt hf0 hf1 hf2 hf3 hf4 hf5 hf6 hf7 hf8 hf9 (by omega)) (is := [0, 1, 2, 3, 4, 5, 6]) rfl (run_V X lkX12_312 0 rfl rfl (is := [0, 1, 2, 3, 4, 5, 6]) (avs := []) (rest := []) rfl rfl (nle rfl) ⟨nle rfl, nle rfl⟩ ⟨nle rfl, nle rfl⟩ dX12_place_11 (by decide) rfl) (fun u_12 hp_13 => ?_)
    obtain ⟨A2_15, M2_16, W2_17, hu_19, hA2_20, hM2_21, hW2_22⟩ := hp_13
    subst hu_19
    refine ⟨rfl, ?_⟩
    refine S_w (ws' := [(h0, ob 11 f), (hQ, ar 30 Q), (hB, ar 6 B), (hE, ar 6 E), (hA, ar 1206 A2_15), (hM, ar 180 M2_16), (hW, ar 180 W2_17)]) rfl ?_
    have hAL := hA2_20
    have hML := hM2_21
    have hWL := hW2_22
    refine S_iconst X dX12_place_14 ?_
    refine S_istore_n X dX12_place_15 rfl (nle rfl) ?_
    have lp16_1 : ∀ (N : Nat) (q : Int) (L : Nat → Option AV), 0 ≤ q ∧ q ≤ pl → fiI (fun p => decide (rkI ((tS pl ec mk (c5 Q 3) (c5 Q 4) B E) b) pl p = i)) q = -1 → L 0 = some (rv h0) → L 1 = some (iv b) → L 2 = some (iv i) → L 3 = some (iv q) → pl + 1 - q < (N : Int) → S_ p l e (rmD 4 0 0) s m args below meth c (MQ below (QcI D G A Po) args s 0 0 A) D G A 7 0 0 16 L [] [(h0, ob 11 f), (hQ, ar 30 Q), (hB, ar 6 B), (hE, ar 6 E), (hA, ar 1206 A2_15), (hM, ar 180 M2_16), (hW, ar 180 W2_17)] := by
      intro N
      induction N with
      | zero =>
        intro q L16 hq hfi hL16_0 hL16_1 hL16_2 hL16_3 hN16
        exfalso; omega
      | succ N ih16 =>
        intro q L16 hq hfi hL16_0 hL16_1 hL16_2 hL16_3 hN16
        refine S_iload_n X dX12_place_16 rfl hL16_3 ?_
        refine S_aload_n X dX12_place_17 rfl hL16_0 ?_
        refine S_get X fgX12_253_11 0 rfl hf0 dX12_place_18 ?_
        refine S_icmp_ge (tgt := 111) X dX12_place_21 (by decide) (by omega) (by omega) (fun c_23 => ?_) (fun c_23 => ?_)
        ·
          refine S_iconst X dX12_place_111 ?_
          exact S_iret X (nle rfl) (nle rfl) dX12_place_112 (hPo _ _ (⟨_, _, _, by unfold aPlace; rw [if_pos (by omega)]; have h9 := hfi; rw [show q = pl by omega] at h9; exact h9.symm, rfl⟩))
        ·
          refine S_iconst X dX12_place_24 ?_
          refine S_istore X dX12_place_25 (nle rfl) ?_
          refine S_iconst X dX12_place_27 ?_
          refine S_istore X dX12_place_28 (nle rfl) ?_
          have lp30_4 : ∀ (N : Nat) (o : Int) (cnt : Int) (L : Nat → Option AV), 0 ≤ o ∧ o ≤ pl → cnt = smI (fun o => if ((tS pl ec mk (c5 Q 3) (c5 Q 4) B E) b) o < ((tS pl ec mk (c5 Q 3) (c5 Q 4) B E) b) q ∨ ((tS pl ec mk (c5 Q 3) (c5 Q 4) B E) b) q = ((tS pl ec mk (c5 Q 3) (c5 Q 4) B E) b) o ∧ o < q then 1 else 0) o → L 0 = some (rv h0) → L 1 = some (iv b) → L 2 = some (iv i) → L 3 = some (iv q) → L 4 = some (iv cnt) → L 5 = some (iv o) → pl + 1 - o < (N : Int) → S_ p l e (rmD 4 0 0) s m args below meth c (MQ below (QcI D G A Po) args s 0 0 A) D G A 7 0 0 30 L [] [(h0, ob 11 f), (hQ, ar 30 Q), (hB, ar 6 B), (hE, ar 6 E), (hA, ar 1206 A2_15), (hM, ar 180 M2_16), (hW, ar 180 W2_17)] := by
            intro N
            induction N with
            | zero =>
              intro o cnt L30 ho hcnt hL30_0 hL30_1 hL30_2 hL30_3 hL30_4 hL30_5 hN30
              exfalso; omega
            | succ N ih30 =>
              intro o cnt L30 ho hcnt hL30_0 hL30_1 hL30_2 hL30_3 hL30_4 hL30_5 hN30
              refine S_iload X dX12_place_30 hL30_5 ?_
              refine S_aload_n X dX12_place_32 rfl hL30_0 ?_
              refine S_get X fgX12_253_11 0 rfl hf0 dX12_place_33 ?_
              refine S_icmp_ge (tgt := 97) X dX12_place_36 (by decide) (by omega) (by omega) (fun c_24 => ?_) (fun c_24 => ?_)
              ·
                have hc9 := sm01 (rk01 (g := ((tS pl ec mk (c5 Q 3) (c5 Q 4) B E) b)) (p := q)) o (by omega)
                have hrk : cnt = rkI ((tS pl ec mk (c5 Q 3) (c5 Q 4) B E) b) pl q := by rw [hcnt]; unfold rkI; rw [show o = pl by omega]
                refine S_iload X dX12_place_97 hL30_4 ?_
                refine S_iload_n X dX12_place_99 rfl hL30_2 ?_
                refine S_icmp_ne (tgt := 105) X dX12_place_100 (by decide) (by omega) (by omega) (fun c_25 => ?_) (fun c_25 => ?_)
                ·
                  refine S_iinc X dX12_place_105 (nle rfl) hL30_3 ?_
                  refine S_goto (tgt := 16) X dX12_place_108 (by decide) ?_
                  exact ih16 (q + 1) _ (by omega) (fiI_skip (by omega) hfi (decide_eq_false (by omega))) hL30_0 hL30_1 hL30_2 rfl (by omega)
                ·
                  refine S_iload_n X dX12_place_103 rfl hL30_3 ?_
                  exact S_iret X (nle rfl) (nle rfl) dX12_place_104 (hPo _ _ (⟨_, _, _, by unfold aPlace; rw [if_pos (by omega)]; exact (fiI_hit (by omega) hfi (decide_eq_true (by omega)) pl (by omega) (by omega)).symm, rfl⟩))
              ·
                have h1 := hML.at (z := 6 * b + q) (x := b) (y := q) rfl (by omega) (by omega) (by omega) (by omega)
                have h2 := hML.at (z := 6 * b + o) (x := b) (y := o) rfl (by omega) (by omega) (by omega) (by omega)
                have h3 := hok.time (mk := mk) b q (by omega) (by omega) (by omega)
                have h4 := hok.time (mk := mk) b o (by omega) (by omega) (by omega)
                refine S_aload_n X dX12_place_39 rfl hL30_0 ?_
                refine S_get X fgX12_68_11 0 rfl hf8 dX12_place_40 ?_
                refine S_bipush X dX12_place_43 rfl ?_
                refine S_iload_n X dX12_place_45 rfl hL30_1 ?_
                refine S_imul X dX12_place_46 ?_
                refine S_iload_n X dX12_place_47 rfl hL30_3 ?_
                refine S_iadd X dX12_place_48 ?_
                refine S_iald X 5 rfl (by omega) (by omega) (nle rfl) dX12_place_49 ?_
                refine S_aload_n X dX12_place_50 rfl hL30_0 ?_
                refine S_get X fgX12_68_11 0 rfl hf8 dX12_place_51 ?_
                refine S_bipush X dX12_place_54 rfl ?_
                refine S_iload_n X dX12_place_56 rfl hL30_1 ?_
                refine S_imul X dX12_place_57 ?_
                refine S_iload X dX12_place_58 hL30_5 ?_
                refine S_iadd X dX12_place_60 ?_
                refine S_iald X 5 rfl (by omega) (by omega) (nle rfl) dX12_place_61 ?_
                refine S_isub X dX12_place_62 ?_
                refine S_istore X dX12_place_63 (nle rfl) ?_
                refine S_iload X dX12_place_65 hL30_4 ?_
                refine S_iload X dX12_place_67 rfl ?_
                refine S_if_gt (tgt := 83) X dX12_place_69 (by decide) (by omega) (fun c_26 => ?_) (fun c_26 => ?_)
                ·
                  refine S_iconst X dX12_place_83 ?_
                  refine S_goto (tgt := 88) X dX12_place_84 (by decide) ?_
                  refine S_iadd X dX12_place_88 ?_
                  refine S_istore X dX12_place_89 (nle rfl) ?_
                  refine S_iinc X dX12_place_91 (nle rfl) hL30_5 ?_
                  refine S_goto (tgt := 30) X dX12_place_94 (by decide) ?_
                  exact ih30 (o + 1) (cnt + 1) _ (by omega) (by rw [smI_S (by omega), ← hcnt, if_pos (by omega)]) hL30_0 hL30_1 hL30_2 hL30_3 rfl rfl (by omega)
                ·
                  refine S_iload X dX12_place_72 rfl ?_
                  refine S_if_ne (tgt := 87) X dX12_place_74 (by decide) (by omega) (fun c_27 => ?_) (fun c_27 => ?_)
                  ·
                    refine S_iconst X dX12_place_87 ?_
                    refine S_iadd X dX12_place_88 ?_
                    refine S_istore X dX12_place_89 (nle rfl) ?_
                    refine S_iinc X dX12_place_91 (nle rfl) hL30_5 ?_
                    refine S_goto (tgt := 30) X dX12_place_94 (by decide) ?_
                    exact ih30 (o + 1) (cnt + 0) _ (by omega) (by rw [smI_S (by omega), ← hcnt, if_neg (by omega)]) hL30_0 hL30_1 hL30_2 hL30_3 rfl rfl (by omega)
                  ·
                    refine S_iload X dX12_place_77 hL30_5 ?_
                    refine S_iload_n X dX12_place_79 rfl hL30_3 ?_
                    refine S_icmp_ge (tgt := 87) X dX12_place_80 (by decide) (by omega) (by omega) (fun c_28 => ?_) (fun c_28 => ?_)
                    ·
                      refine S_iconst X dX12_place_87 ?_
                      refine S_iadd X dX12_place_88 ?_
                      refine S_istore X dX12_place_89 (nle rfl) ?_
                      refine S_iinc X dX12_place_91 (nle rfl) hL30_5 ?_
                      refine S_goto (tgt := 30) X dX12_place_94 (by decide) ?_
                      exact ih30 (o + 1) (cnt + 0) _ (by omega) (by rw [smI_S (by omega), ← hcnt, if_neg (by omega)]) hL30_0 hL30_1 hL30_2 hL30_3 rfl rfl (by omega)
                    ·
                      refine S_iconst X dX12_place_83 ?_
                      refine S_goto (tgt := 88) X dX12_place_84 (by decide) ?_
                      refine S_iadd X dX12_place_88 ?_
                      refine S_istore X dX12_place_89 (nle rfl) ?_
                      refine S_iinc X dX12_place_91 (nle rfl) hL30_5 ?_
                      refine S_goto (tgt := 30) X dX12_place_94 (by decide) ?_
                      exact ih30 (o + 1) (cnt + 1) _ (by omega) (by rw [smI_S (by omega), ← hcnt, if_pos (by omega)]) hL30_0 hL30_1 hL30_2 hL30_3 rfl rfl (by omega)
          exact lp30_4 (Int.toNat (pl + 1 - 0) + 1) 0 0 _ (by omega) (rfl) hL16_0 hL16_1 hL16_2 hL16_3 rfl rfl (by omega)
    exact lp16_1 (Int.toNat (pl + 1 - 0) + 1) 0 _ (by omega) (fiI_0) rfl rfl rfl rfl (by omega)
set_option maxHeartbeats 4000000 in
set_option maxRecDepth 100000 in
theorem kX12_aheadAt (l : Launch) (h0 : Nat) (f : Nat → AV) (pl : Int) (n : Int) (ec : Int) (mk : Int) (hM : Nat) (Q : Int → Int) (B : Int → Int) (E : Int → Int) (Mt : Int → Int) (b : Int) (i : Int) (j : Int) (hf0 : f 34 = rv hM) (hok : okS pl n ec (c5 Q 3) (c5 Q 4) B E) (hMr : reg Mt (tS pl ec mk (c5 Q 3) (c5 Q 4) B E) pl n 0) (hb : 0 ≤ b ∧ b < n) (hi : 0 ≤ i ∧ i < pl) (hj : 0 ≤ j ∧ j < pl) : AMi l yX12_aheadAt cX12_aheadAt 4 .int 1 0 0 [rv h0, iv b, iv i, iv j] [(h0, ob 11 f), (hM, ar 180 Mt)] (fun z u => z = cmI ((tS pl ec mk (c5 Q 3) (c5 Q 4) B E) b i) ((tS pl ec mk (c5 Q 3) (c5 Q 4) B E) b j) ∧ u = [(h0, ob 11 f), (hM, ar 180 Mt)]) := by
  refine AMi.of2 rfl (nle rfl) ?_
  intro D G A p e s m args below meth c Po hPo X
  have hpl := hok.2.1
  have hpl1 := hok.1
  have hn1 := hok.2.2.1
  have hn2 := hok.2.2.2.1
  have hec := hok.2.2.2.2
  have h1 := hMr.at (z := 6 * b + i) (x := b) (y := i) rfl (by omega) (by omega) (by omega) (by omega)
  have h2 := hMr.at (z := 6 * b + j) (x := b) (y := j) rfl (by omega) (by omega) (by omega) (by omega)
  have h3 := hok.time (mk := mk) b i (by omega) (by omega) (by omega)
  have h4 := hok.time (mk := mk) b j (by omega) (by omega) (by omega)
  refine S_aload_n X dX12_aheadAt_0 rfl rfl ?_
  refine S_get X fgX12_68_11 0 rfl hf0 dX12_aheadAt_1 ?_
  refine S_bipush X dX12_aheadAt_4 rfl ?_
  refine S_iload_n X dX12_aheadAt_6 rfl rfl ?_
  refine S_imul X dX12_aheadAt_7 ?_
  refine S_iload_n X dX12_aheadAt_8 rfl rfl ?_
  refine S_iadd X dX12_aheadAt_9 ?_
  refine S_iald X 1 rfl (by omega) (by omega) (nle rfl) dX12_aheadAt_10 ?_
  refine S_aload_n X dX12_aheadAt_11 rfl rfl ?_
  refine S_get X fgX12_68_11 0 rfl hf0 dX12_aheadAt_12 ?_
  refine S_bipush X dX12_aheadAt_15 rfl ?_
  refine S_iload_n X dX12_aheadAt_17 rfl rfl ?_
  refine S_imul X dX12_aheadAt_18 ?_
  refine S_iload_n X dX12_aheadAt_19 rfl rfl ?_
  refine S_iadd X dX12_aheadAt_20 ?_
  refine S_iald X 1 rfl (by omega) (by omega) (nle rfl) dX12_aheadAt_21 ?_
  refine S_calli X (kJ6_compare_7cf53 l (Mt ((6 * b) + i)) (Mt ((6 * b) + j)) (by omega) (by omega)) (is := []) rfl (run_S X lkX12_361 (is := []) (avs := [iv (Mt ((6 * b) + i)), iv (Mt ((6 * b) + j))]) (rest := []) rfl rfl (nle rfl) ⟨nle rfl, nle rfl⟩ ⟨nle rfl, nle rfl⟩ dX12_aheadAt_22 (by decide) rfl) (fun z_3 u_1 hp_2 => ?_)
  obtain ⟨hz_4, hu_5⟩ := hp_2
  subst hz_4
  subst hu_5
  refine ⟨rfl, ?_⟩
  refine S_w (ws' := [(h0, ob 11 f), (hM, ar 180 Mt)]) rfl ?_
  exact S_iret X (nle rfl) (nle rfl) dX12_aheadAt_25 (hPo _ _ (⟨by unfold cmI; rw [h1, h2], rfl⟩))
set_option maxHeartbeats 4000000 in
set_option maxRecDepth 100000 in
theorem kX12_overtakes (l : Launch) (h0 : Nat) (f : Nat → AV) (pl : Int) (n : Int) (ec : Int) (mk : Int) (hQ : Nat) (hB : Nat) (hE : Nat) (hA : Nat) (hM : Nat) (hW : Nat) (Q : Int → Int) (B : Int → Int) (E : Int → Int) (Ab : Int → Int) (Mt : Int → Int) (Wt : Int → Int) (i : Int) (j : Int) (hf0 : f 21 = iv pl) (hf1 : f 28 = iv n) (hf2 : f 29 = iv ec) (hf3 : f 26 = iv mk) (hf4 : f 20 = rv hQ) (hf5 : f 23 = rv hB) (hf6 : f 24 = rv hE) (hf7 : f 33 = rv hA) (hf8 : f 34 = rv hM) (hf9 : f 35 = rv hW) (hz : okZ pl n ec (c5 Q 3) (c5 Q 4) B E) (hx_i : inR i) (hx_j : inR j) : AMi l yX12_overtakes cX12_overtakes 6 .int 4 0 0 [rv h0, iv i, iv j] [(h0, ob 11 f), (hQ, ar 30 Q), (hB, ar 6 B), (hE, ar 6 E), (hA, ar 1206 Ab), (hM, ar 180 Mt), (hW, ar 180 Wt)] (fun z u => ∃ A2 : Int → Int, ∃ M2 : Int → Int, ∃ W2 : Int → Int, z = aOver pl n ec mk (c5 Q 3) (c5 Q 4) B E i j ∧ u = [(h0, ob 11 f), (hQ, ar 30 Q), (hB, ar 6 B), (hE, ar 6 E), (hA, ar 1206 A2), (hM, ar 180 M2), (hW, ar 180 W2)]) := by
  refine AMi.of2 rfl (nle rfl) ?_
  intro D G A p e s m args below meth c Po hPo X
  have hz6 := hz.2.1
  have hz0 := hz.1
  have hzn := hz.2.2.1
  have hzm := hz.2.2.2.1
  have hze := hz.2.2.2.2
  refine S_aload_n X dX12_overtakes_0 rfl rfl ?_
  refine S_iload_n X dX12_overtakes_1 rfl rfl ?_
  refine S_calli X (kX12_isPlayer l h0 f pl i hf0 (by omega) (by omega)) (is := [0]) rfl (run_V X lkX12_281 0 rfl rfl (is := [0]) (avs := [iv i]) (rest := []) rfl rfl (nle rfl) ⟨nle rfl, nle rfl⟩ ⟨nle rfl, nle rfl⟩ dX12_overtakes_2 (by decide) rfl) (fun z_3 u_1 hp_2 => ?_)
  rcases hp_2 with ⟨hz_4, hu_5, hq_6⟩ | ⟨hz_7, hu_8, hq_9⟩
  ·
    subst hz_4
    subst hu_5
    refine ⟨rfl, ?_⟩
    refine S_w (ws' := [(h0, ob 11 f), (hQ, ar 30 Q), (hB, ar 6 B), (hE, ar 6 E), (hA, ar 1206 Ab), (hM, ar 180 Mt), (hW, ar 180 Wt)]) rfl ?_
    refine S_if_eq (tgt := 21) X dX12_overtakes_5 (by decide) (by decide) (fun _ => ?_) (fun h9 => absurd h9 (by decide))
    refine S_iconst X dX12_overtakes_21 ?_
    exact S_iret X (nle rfl) (nle rfl) dX12_overtakes_22 (hPo _ _ (⟨_, _, _, by unfold aOver; rw [if_neg (by omega)], rfl⟩))
  ·
    subst hz_7
    subst hu_8
    refine ⟨rfl, ?_⟩
    refine S_w (ws' := [(h0, ob 11 f), (hQ, ar 30 Q), (hB, ar 6 B), (hE, ar 6 E), (hA, ar 1206 Ab), (hM, ar 180 Mt), (hW, ar 180 Wt)]) rfl ?_
    refine S_if_eq (tgt := 21) X dX12_overtakes_5 (by decide) (by decide) (fun h9 => absurd h9 (by decide)) (fun _ => ?_)
    refine S_aload_n X dX12_overtakes_8 rfl rfl ?_
    refine S_iload_n X dX12_overtakes_9 rfl rfl ?_
    refine S_calli X (kX12_isPlayer l h0 f pl j hf0 (by omega) (by omega)) (is := [0]) rfl (run_V X lkX12_281 0 rfl rfl (is := [0]) (avs := [iv j]) (rest := []) rfl rfl (nle rfl) ⟨nle rfl, nle rfl⟩ ⟨nle rfl, nle rfl⟩ dX12_overtakes_10 (by decide) rfl) (fun z_14 u_12 hp_13 => ?_)
    rcases hp_13 with ⟨hz_15, hu_16, hq_17⟩ | ⟨hz_18, hu_19, hq_20⟩
    ·
      subst hz_15
      subst hu_16
      refine ⟨rfl, ?_⟩
      refine S_w (ws' := [(h0, ob 11 f), (hQ, ar 30 Q), (hB, ar 6 B), (hE, ar 6 E), (hA, ar 1206 Ab), (hM, ar 180 Mt), (hW, ar 180 Wt)]) rfl ?_
      refine S_if_eq (tgt := 21) X dX12_overtakes_13 (by decide) (by decide) (fun _ => ?_) (fun h9 => absurd h9 (by decide))
      refine S_iconst X dX12_overtakes_21 ?_
      exact S_iret X (nle rfl) (nle rfl) dX12_overtakes_22 (hPo _ _ (⟨_, _, _, by unfold aOver; rw [if_neg (by omega)], rfl⟩))
    ·
      subst hz_18
      subst hu_19
      refine ⟨rfl, ?_⟩
      refine S_w (ws' := [(h0, ob 11 f), (hQ, ar 30 Q), (hB, ar 6 B), (hE, ar 6 E), (hA, ar 1206 Ab), (hM, ar 180 Mt), (hW, ar 180 Wt)]) rfl ?_
      refine S_if_eq (tgt := 21) X dX12_overtakes_13 (by decide) (by decide) (fun h9 => absurd h9 (by decide)) (fun _ => ?_)
      refine S_iload_n X dX12_overtakes_16 rfl rfl ?_
      refine S_iload_n X dX12_overtakes_17 rfl rfl ?_
      refine S_icmp_ne (tgt := 23) X dX12_overtakes_18 (by decide) (by omega) (by omega) (fun c_23 => ?_) (fun c_23 => ?_)
      ·
        have hok := hz.s (by omega)
        have hpl := hok.2.1
        have hpl1 := hok.1
        have hn1 := hok.2.2.1
        have hn2 := hok.2.2.2.1
        have hec := hok.2.2.2.2
        refine S_aload_n X dX12_overtakes_23 rfl rfl ?_
        refine S_callv X (kX12_play l h0 f pl n ec mk hQ hB hE hA hM hW Q B E Ab Mt Wt hf0 hf1 hf2 hf3 hf4 hf5 hf6 hf7 hf8 hf9 (by omega)) (is := [0, 1, 2, 3, 4, 5, 6]) rfl (run_V X lkX12_312 0 rfl rfl (is := [0, 1, 2, 3, 4, 5, 6]) (avs := []) (rest := []) rfl rfl (nle rfl) ⟨nle rfl, nle rfl⟩ ⟨nle rfl, nle rfl⟩ dX12_overtakes_24 (by decide) rfl) (fun u_24 hp_25 => ?_)
        obtain ⟨A2_27, M2_28, W2_29, hu_31, hA2_32, hM2_33, hW2_34⟩ := hp_25
        subst hu_31
        refine ⟨rfl, ?_⟩
        refine S_w (ws' := [(h0, ob 11 f), (hQ, ar 30 Q), (hB, ar 6 B), (hE, ar 6 E), (hA, ar 1206 A2_27), (hM, ar 180 M2_28), (hW, ar 180 W2_29)]) rfl ?_
        have hAL := hA2_32
        have hML := hM2_33
        have hWL := hW2_34
        refine S_iconst X dX12_overtakes_27 ?_
        refine S_istore_n X dX12_overtakes_28 rfl (nle rfl) ?_
        refine S_iconst X dX12_overtakes_29 ?_
        refine S_istore X dX12_overtakes_30 (nle rfl) ?_
        have lp32_3 : ∀ (N : Nat) (b : Int) (cnt : Int) (L : Nat → Option AV), 1 ≤ b ∧ b ≤ n → cnt = smI (fun b => if 1 ≤ b ∧ cmI ((tS pl ec mk (c5 Q 3) (c5 Q 4) B E) b i) ((tS pl ec mk (c5 Q 3) (c5 Q 4) B E) b j) ≠ 0 ∧ cmI ((tS pl ec mk (c5 Q 3) (c5 Q 4) B E) b i) ((tS pl ec mk (c5 Q 3) (c5 Q 4) B E) b j) ≠ cmI ((tS pl ec mk (c5 Q 3) (c5 Q 4) B E) (b - 1) i) ((tS pl ec mk (c5 Q 3) (c5 Q 4) B E) (b - 1) j) then 1 else 0) b → L 0 = some (rv h0) → L 1 = some (iv i) → L 2 = some (iv j) → L 3 = some (iv cnt) → L 4 = some (iv b) → n + 1 - b < (N : Int) → S_ p l e (rmD 4 0 0) s m args below meth c (MQ below (QcI D G A Po) args s 0 0 A) D G A 6 0 0 32 L [] [(h0, ob 11 f), (hQ, ar 30 Q), (hB, ar 6 B), (hE, ar 6 E), (hA, ar 1206 A2_27), (hM, ar 180 M2_28), (hW, ar 180 W2_29)] := by
          intro N
          induction N with
          | zero =>
            intro b cnt L32 hb hcnt hL32_0 hL32_1 hL32_2 hL32_3 hL32_4 hN32
            exfalso; omega
          | succ N ih32 =>
            intro b cnt L32 hb hcnt hL32_0 hL32_1 hL32_2 hL32_3 hL32_4 hN32
            refine S_iload X dX12_overtakes_32 hL32_4 ?_
            refine S_aload_n X dX12_overtakes_34 rfl hL32_0 ?_
            refine S_get X fgX12_56_11 0 rfl hf1 dX12_overtakes_35 ?_
            refine S_icmp_ge (tgt := 85) X dX12_overtakes_38 (by decide) (by omega) (by omega) (fun c_35 => ?_) (fun c_35 => ?_)
            ·
              refine S_iload_n X dX12_overtakes_85 rfl hL32_3 ?_
              exact S_iret X (nle rfl) (nle rfl) dX12_overtakes_86 (hPo _ _ (⟨_, _, _, by unfold aOver; rw [if_pos (by omega)]; unfold ovI; rw [hcnt, show b = n by omega], rfl⟩))
            ·
              refine S_aload_n X dX12_overtakes_41 rfl hL32_0 ?_
              refine S_iload X dX12_overtakes_42 hL32_4 ?_
              refine S_iload_n X dX12_overtakes_44 rfl hL32_1 ?_
              refine S_iload_n X dX12_overtakes_45 rfl hL32_2 ?_
              refine S_calli X (kX12_aheadAt l h0 f pl n ec mk hM Q B E M2_28 b i j hf8 (by omega) hML (by omega) (by omega) (by omega)) (is := [0, 5]) rfl (run_V X lkX12_365 0 rfl rfl (is := [0, 5]) (avs := [iv b, iv i, iv j]) (rest := []) rfl rfl (nle rfl) ⟨nle rfl, nle rfl⟩ ⟨nle rfl, nle rfl⟩ dX12_overtakes_46 (by decide) rfl) (fun z_38 u_36 hp_37 => ?_)
              obtain ⟨hz_39, hu_40⟩ := hp_37
              subst hz_39
              subst hu_40
              refine ⟨rfl, ?_⟩
              refine S_w (ws' := [(h0, ob 11 f), (hQ, ar 30 Q), (hB, ar 6 B), (hE, ar 6 E), (hA, ar 1206 A2_27), (hM, ar 180 M2_28), (hW, ar 180 W2_29)]) rfl ?_
              have hc1 := cmI_in ((tS pl ec mk (c5 Q 3) (c5 Q 4) B E) b i) ((tS pl ec mk (c5 Q 3) (c5 Q 4) B E) b j)
              refine S_istore X dX12_overtakes_49 (nle rfl) ?_
              refine S_iload_n X dX12_overtakes_51 rfl hL32_3 ?_
              refine S_iload X dX12_overtakes_52 rfl ?_
              refine S_if_eq (tgt := 76) X dX12_overtakes_54 (by decide) (by omega) (fun c_41 => ?_) (fun c_41 => ?_)
              ·
                refine S_iconst X dX12_overtakes_76 ?_
                refine S_iadd X dX12_overtakes_77 ?_
                refine S_istore_n X dX12_overtakes_78 rfl (nle rfl) ?_
                refine S_iinc X dX12_overtakes_79 (nle rfl) hL32_4 ?_
                refine S_goto (tgt := 32) X dX12_overtakes_82 (by decide) ?_
                exact ih32 (b + 1) (cnt + 0) _ (by omega) (by rw [smI_S (by omega), ← hcnt, if_neg (by omega)]) hL32_0 hL32_1 hL32_2 rfl rfl (by omega)
              ·
                refine S_iload X dX12_overtakes_57 rfl ?_
                refine S_aload_n X dX12_overtakes_59 rfl hL32_0 ?_
                refine S_iload X dX12_overtakes_60 hL32_4 ?_
                refine S_iconst X dX12_overtakes_62 ?_
                refine S_isub X dX12_overtakes_63 ?_
                refine S_iload_n X dX12_overtakes_64 rfl hL32_1 ?_
                refine S_iload_n X dX12_overtakes_65 rfl hL32_2 ?_
                refine S_calli X (kX12_aheadAt l h0 f pl n ec mk hM Q B E M2_28 (b - 1) i j hf8 (by omega) hML (by omega) (by omega) (by omega)) (is := [0, 5]) rfl (run_V X lkX12_365 0 rfl rfl (is := [0, 5]) (avs := [iv (b - 1), iv i, iv j]) (rest := [iv (cmI ((tS pl ec mk (c5 Q 3) (c5 Q 4) B E) b i) ((tS pl ec mk (c5 Q 3) (c5 Q 4) B E) b j)), iv cnt]) rfl rfl (nle rfl) ⟨nle rfl, nle rfl⟩ ⟨nle rfl, nle rfl⟩ dX12_overtakes_66 (by decide) rfl) (fun z_44 u_42 hp_43 => ?_)
                obtain ⟨hz_45, hu_46⟩ := hp_43
                subst hz_45
                subst hu_46
                refine ⟨rfl, ?_⟩
                refine S_w (ws' := [(h0, ob 11 f), (hQ, ar 30 Q), (hB, ar 6 B), (hE, ar 6 E), (hA, ar 1206 A2_27), (hM, ar 180 M2_28), (hW, ar 180 W2_29)]) rfl ?_
                have hc2 := cmI_in ((tS pl ec mk (c5 Q 3) (c5 Q 4) B E) (b - 1) i) ((tS pl ec mk (c5 Q 3) (c5 Q 4) B E) (b - 1) j)
                refine S_icmp_eq (tgt := 76) X dX12_overtakes_69 (by decide) (by omega) (by omega) (fun c_47 => ?_) (fun c_47 => ?_)
                ·
                  refine S_iconst X dX12_overtakes_76 ?_
                  refine S_iadd X dX12_overtakes_77 ?_
                  refine S_istore_n X dX12_overtakes_78 rfl (nle rfl) ?_
                  refine S_iinc X dX12_overtakes_79 (nle rfl) hL32_4 ?_
                  refine S_goto (tgt := 32) X dX12_overtakes_82 (by decide) ?_
                  exact ih32 (b + 1) (cnt + 0) _ (by omega) (by rw [smI_S (by omega), ← hcnt, if_neg (by omega)]) hL32_0 hL32_1 hL32_2 rfl rfl (by omega)
                ·
                  refine S_iconst X dX12_overtakes_72 ?_
                  refine S_goto (tgt := 77) X dX12_overtakes_73 (by decide) ?_
                  refine S_iadd X dX12_overtakes_77 ?_
                  refine S_istore_n X dX12_overtakes_78 rfl (nle rfl) ?_
                  refine S_iinc X dX12_overtakes_79 (nle rfl) hL32_4 ?_
                  refine S_goto (tgt := 32) X dX12_overtakes_82 (by decide) ?_
                  exact ih32 (b + 1) (cnt + 1) _ (by omega) (by rw [smI_S (by omega), ← hcnt, if_pos (by omega)]) hL32_0 hL32_1 hL32_2 rfl rfl (by omega)
        exact lp32_3 (Int.toNat (n + 1 - 1) + 1) 1 0 _ (by omega) (by rw [smI_1, if_neg (by omega)]; rfl) rfl rfl rfl rfl rfl (by omega)
      ·
        refine S_iconst X dX12_overtakes_21 ?_
        exact S_iret X (nle rfl) (nle rfl) dX12_overtakes_22 (hPo _ _ (⟨_, _, _, by unfold aOver; rw [if_neg (by omega)], rfl⟩))
set_option maxHeartbeats 4000000 in
set_option maxRecDepth 100000 in
theorem kX12_middle (l : Launch) (h0 : Nat) (f : Nat → AV) (pl : Int) (n : Int) (ec : Int) (mk : Int) (hQ : Nat) (hB : Nat) (hE : Nat) (hA : Nat) (hM : Nat) (hW : Nat) (Q : Int → Int) (B : Int → Int) (E : Int → Int) (Ab : Int → Int) (Mt : Int → Int) (Wt : Int → Int) (hf0 : f 21 = iv pl) (hf1 : f 28 = iv n) (hf2 : f 29 = iv ec) (hf3 : f 26 = iv mk) (hf4 : f 20 = rv hQ) (hf5 : f 23 = rv hB) (hf6 : f 24 = rv hE) (hf7 : f 33 = rv hA) (hf8 : f 34 = rv hM) (hf9 : f 35 = rv hW) (hz : okZ pl n ec (c5 Q 3) (c5 Q 4) B E) : AMi l yX12_middle cX12_middle 6 .int 4 0 0 [rv h0] [(h0, ob 11 f), (hQ, ar 30 Q), (hB, ar 6 B), (hE, ar 6 E), (hA, ar 1206 Ab), (hM, ar 180 Mt), (hW, ar 180 Wt)] (fun z u => ∃ A2 : Int → Int, ∃ M2 : Int → Int, ∃ W2 : Int → Int, z = aMiddle pl n ec mk (c5 Q 3) (c5 Q 4) B E ∧ u = [(h0, ob 11 f), (hQ, ar 30 Q), (hB, ar 6 B), (hE, ar 6 E), (hA, ar 1206 A2), (hM, ar 180 M2), (hW, ar 180 W2)]) := by
  refine AMi.of2 rfl (nle rfl) ?_
  intro D G A p e s m args below meth c Po hPo X
  have hz6 := hz.2.1
  have hz0 := hz.1
  have hzn := hz.2.2.1
  have hzm := hz.2.2.2.1
  have hze := hz.2.2.2.2
  refine S_aload_n X dX12_middle_0 rfl rfl ?_
  refine S_get X fgX12_253_11 0 rfl hf0 dX12_middle_1 ?_
  refine S_if_ne (tgt := 9) X dX12_middle_4 (by decide) (by omega) (fun c_1 => ?_) (fun c_1 => ?_)
  ·
    have hok := hz.s (by omega)
    have hpl := hok.2.1
    have hpl1 := hok.1
    have hn1 := hok.2.2.1
    have hn2 := hok.2.2.2.1
    have hec := hok.2.2.2.2
    refine S_aload_n X dX12_middle_9 rfl rfl ?_
    refine S_callv X (kX12_play l h0 f pl n ec mk hQ hB hE hA hM hW Q B E Ab Mt Wt hf0 hf1 hf2 hf3 hf4 hf5 hf6 hf7 hf8 hf9 (by omega)) (is := [0, 1, 2, 3, 4, 5, 6]) rfl (run_V X lkX12_312 0 rfl rfl (is := [0, 1, 2, 3, 4, 5, 6]) (avs := []) (rest := []) rfl rfl (nle rfl) ⟨nle rfl, nle rfl⟩ ⟨nle rfl, nle rfl⟩ dX12_middle_10 (by decide) rfl) (fun u_2 hp_3 => ?_)
    obtain ⟨A2_5, M2_6, W2_7, hu_9, hA2_10, hM2_11, hW2_12⟩ := hp_3
    subst hu_9
    refine ⟨rfl, ?_⟩
    refine S_w (ws' := [(h0, ob 11 f), (hQ, ar 30 Q), (hB, ar 6 B), (hE, ar 6 E), (hA, ar 1206 A2_5), (hM, ar 180 M2_6), (hW, ar 180 W2_7)]) rfl ?_
    have hAL := hA2_10
    have hML := hM2_11
    have hWL := hW2_12
    refine S_iconst X dX12_middle_13 ?_
    refine S_istore_n X dX12_middle_14 rfl (nle rfl) ?_
    refine S_iconst X dX12_middle_15 ?_
    refine S_istore_n X dX12_middle_16 rfl (nle rfl) ?_
    refine S_iconst X dX12_middle_17 ?_
    refine S_istore_n X dX12_middle_18 rfl (nle rfl) ?_
    have lp19_1 : ∀ (N : Nat) (q : Int) (be : Int) (le : Int) (L : Nat → Option AV), 0 ≤ q ∧ q ≤ pl → -1 ≤ be ∧ be ≤ 6 → q = 0 ∧ be = -1 ∧ le = 0 ∨ 1 ≤ q ∧ be = amI (fun p => -apI ((tS pl ec mk (c5 Q 3) (c5 Q 4) B E) (n - 1)) pl p) q ∧ le = apI ((tS pl ec mk (c5 Q 3) (c5 Q 4) B E) (n - 1)) pl be ∧ 0 ≤ le ∧ le ≤ 44820 ∧ 0 ≤ be → L 0 = some (rv h0) → L 1 = some (iv be) → L 2 = some (iv le) → L 3 = some (iv q) → pl + 1 - q < (N : Int) → S_ p l e (rmD 4 0 0) s m args below meth c (MQ below (QcI D G A Po) args s 0 0 A) D G A 6 0 0 19 L [] [(h0, ob 11 f), (hQ, ar 30 Q), (hB, ar 6 B), (hE, ar 6 E), (hA, ar 1206 A2_5), (hM, ar 180 M2_6), (hW, ar 180 W2_7)] := by
      intro N
      induction N with
      | zero =>
        intro q be le L19 hq hbr hbe hL19_0 hL19_1 hL19_2 hL19_3 hN19
        exfalso; omega
      | succ N ih19 =>
        intro q be le L19 hq hbr hbe hL19_0 hL19_1 hL19_2 hL19_3 hN19
        refine S_iload_n X dX12_middle_19 rfl hL19_3 ?_
        refine S_aload_n X dX12_middle_20 rfl hL19_0 ?_
        refine S_get X fgX12_253_11 0 rfl hf0 dX12_middle_21 ?_
        refine S_icmp_ge (tgt := 112) X dX12_middle_24 (by decide) (by omega) (by omega) (fun c_13 => ?_) (fun c_13 => ?_)
        ·
          refine S_iload_n X dX12_middle_112 rfl hL19_1 ?_
          exact S_iret X (nle rfl) (nle rfl) dX12_middle_113 (hPo _ _ (⟨_, _, _, by unfold aMiddle; rw [if_pos (by omega)]; rcases hbe with h9 | h9; (exfalso; omega); rw [h9.2.1, show q = pl by omega], rfl⟩))
        ·
          refine S_iconst X dX12_middle_27 ?_
          refine S_istore X dX12_middle_28 (nle rfl) ?_
          refine S_iconst X dX12_middle_30 ?_
          refine S_istore X dX12_middle_31 (nle rfl) ?_
          have lp33_4 : ∀ (N : Nat) (o : Int) (cnt : Int) (L : Nat → Option AV), 0 ≤ o ∧ o ≤ pl → cnt = smI (fun o => ((((tS pl ec mk (c5 Q 3) (c5 Q 4) B E) (n - 1)) o - ((tS pl ec mk (c5 Q 3) (c5 Q 4) B E) (n - 1)) q).natAbs : Int)) o → L 0 = some (rv h0) → L 1 = some (iv be) → L 2 = some (iv le) → L 3 = some (iv q) → L 4 = some (iv cnt) → L 5 = some (iv o) → pl + 1 - o < (N : Int) → S_ p l e (rmD 4 0 0) s m args below meth c (MQ below (QcI D G A Po) args s 0 0 A) D G A 6 0 0 33 L [] [(h0, ob 11 f), (hQ, ar 30 Q), (hB, ar 6 B), (hE, ar 6 E), (hA, ar 1206 A2_5), (hM, ar 180 M2_6), (hW, ar 180 W2_7)] := by
            intro N
            induction N with
            | zero =>
              intro o cnt L33 ho hcnt hL33_0 hL33_1 hL33_2 hL33_3 hL33_4 hL33_5 hN33
              exfalso; omega
            | succ N ih33 =>
              intro o cnt L33 ho hcnt hL33_0 hL33_1 hL33_2 hL33_3 hL33_4 hL33_5 hN33
              refine S_iload X dX12_middle_33 hL33_5 ?_
              refine S_aload_n X dX12_middle_35 rfl hL33_0 ?_
              refine S_get X fgX12_253_11 0 rfl hf0 dX12_middle_36 ?_
              refine S_icmp_ge (tgt := 90) X dX12_middle_39 (by decide) (by omega) (by omega) (fun c_14 => ?_) (fun c_14 => ?_)
              ·
                have hc9 := sm_le (f := (fun o => ((((tS pl ec mk (c5 Q 3) (c5 Q 4) B E) (n - 1)) o - ((tS pl ec mk (c5 Q 3) (c5 Q 4) B E) (n - 1)) q).natAbs : Int))) (K := 7470) o (by omega) (fun y y0 y1 => by have a1 := hok.time (mk := mk) (n - 1) y (by omega) y0 (by omega); have a2 := hok.time (mk := mk) (n - 1) q (by omega) (by omega) (by omega); omega)
                have hap : cnt = apI ((tS pl ec mk (c5 Q 3) (c5 Q 4) B E) (n - 1)) pl q := by rw [hcnt]; unfold apI; rw [show o = pl by omega]
                have hap2 := hap
                refine S_iload_n X dX12_middle_90 rfl hL33_1 ?_
                refine S_iconst X dX12_middle_91 ?_
                refine S_icmp_eq (tgt := 101) X dX12_middle_92 (by decide) (by omega) (by decide) (fun c_15 => ?_) (fun c_15 => ?_)
                ·
                  refine S_iload_n X dX12_middle_101 rfl hL33_3 ?_
                  refine S_istore_n X dX12_middle_102 rfl (nle rfl) ?_
                  refine S_iload X dX12_middle_103 hL33_4 ?_
                  refine S_istore_n X dX12_middle_105 rfl (nle rfl) ?_
                  refine S_iinc X dX12_middle_106 (nle rfl) hL33_3 ?_
                  refine S_goto (tgt := 19) X dX12_middle_109 (by decide) ?_
                  exact ih19 (q + 1) q cnt _ (by omega) (by omega) (mid_step (by omega) hbe hap (by omega) (by exact Or.inl ⟨rfl, rfl, by omega⟩)) hL33_0 rfl rfl rfl (by omega)
                ·
                  refine S_iload X dX12_middle_95 hL33_4 ?_
                  refine S_iload_n X dX12_middle_97 rfl hL33_2 ?_
                  refine S_icmp_ge (tgt := 106) X dX12_middle_98 (by decide) (by omega) (by omega) (fun c_16 => ?_) (fun c_16 => ?_)
                  ·
                    refine S_iinc X dX12_middle_106 (nle rfl) hL33_3 ?_
                    refine S_goto (tgt := 19) X dX12_middle_109 (by decide) ?_
                    exact ih19 (q + 1) be le _ (by omega) (by omega) (mid_step (by omega) hbe hap (by omega) (by exact Or.inr ⟨rfl, rfl, by omega⟩)) hL33_0 hL33_1 hL33_2 rfl (by omega)
                  ·
                    refine S_iload_n X dX12_middle_101 rfl hL33_3 ?_
                    refine S_istore_n X dX12_middle_102 rfl (nle rfl) ?_
                    refine S_iload X dX12_middle_103 hL33_4 ?_
                    refine S_istore_n X dX12_middle_105 rfl (nle rfl) ?_
                    refine S_iinc X dX12_middle_106 (nle rfl) hL33_3 ?_
                    refine S_goto (tgt := 19) X dX12_middle_109 (by decide) ?_
                    exact ih19 (q + 1) q cnt _ (by omega) (by omega) (mid_step (by omega) hbe hap (by omega) (by exact Or.inl ⟨rfl, rfl, by omega⟩)) hL33_0 rfl rfl rfl (by omega)
              ·
                have h1 := hML.at (z := 6 * (n - 1) + o) (x := n - 1) (y := o) rfl (by omega) (by omega) (by omega) (by omega)
                have h2 := hML.at (z := 6 * (n - 1) + q) (x := n - 1) (y := q) rfl (by omega) (by omega) (by omega) (by omega)
                have h3 := hok.time (mk := mk) (n - 1) o (by omega) (by omega) (by omega)
                have h4 := hok.time (mk := mk) (n - 1) q (by omega) (by omega) (by omega)
                refine S_iload X dX12_middle_42 hL33_4 ?_
                refine S_aload_n X dX12_middle_44 rfl hL33_0 ?_
                refine S_get X fgX12_68_11 0 rfl hf8 dX12_middle_45 ?_
                refine S_bipush X dX12_middle_48 rfl ?_
                refine S_aload_n X dX12_middle_50 rfl hL33_0 ?_
                refine S_get X fgX12_56_11 0 rfl hf1 dX12_middle_51 ?_
                refine S_iconst X dX12_middle_54 ?_
                refine S_isub X dX12_middle_55 ?_
                refine S_imul X dX12_middle_56 ?_
                refine S_iload X dX12_middle_57 hL33_5 ?_
                refine S_iadd X dX12_middle_59 ?_
                refine S_iald X 5 rfl (by omega) (by omega) (nle rfl) dX12_middle_60 ?_
                refine S_aload_n X dX12_middle_61 rfl hL33_0 ?_
                refine S_get X fgX12_68_11 0 rfl hf8 dX12_middle_62 ?_
                refine S_bipush X dX12_middle_65 rfl ?_
                refine S_aload_n X dX12_middle_67 rfl hL33_0 ?_
                refine S_get X fgX12_56_11 0 rfl hf1 dX12_middle_68 ?_
                refine S_iconst X dX12_middle_71 ?_
                refine S_isub X dX12_middle_72 ?_
                refine S_imul X dX12_middle_73 ?_
                refine S_iload_n X dX12_middle_74 rfl hL33_3 ?_
                refine S_iadd X dX12_middle_75 ?_
                refine S_iald X 5 rfl (by omega) (by omega) (nle rfl) dX12_middle_76 ?_
                refine S_isub X dX12_middle_77 ?_
                refine S_mabs X lkX12_358 rfl rfl (by omega) (nle rfl) (nle rfl) (nle rfl) (nle rfl) dX12_middle_78 ?_
                refine S_iadd X dX12_middle_81 ?_
                refine S_istore X dX12_middle_82 (nle rfl) ?_
                refine S_iinc X dX12_middle_84 (nle rfl) hL33_5 ?_
                refine S_goto (tgt := 33) X dX12_middle_87 (by decide) ?_
                exact ih33 (o + 1) (cnt + (((M2_6 ((6 * (n - 1)) + o)) - (M2_6 ((6 * (n - 1)) + q))).natAbs : Int)) _ (by omega) (by rw [smI_S (by omega), ← hcnt, h1, h2]) hL33_0 hL33_1 hL33_2 hL33_3 rfl rfl (by omega)
          exact lp33_4 (Int.toNat (pl + 1 - 0) + 1) 0 0 _ (by omega) (rfl) hL19_0 hL19_1 hL19_2 hL19_3 rfl rfl (by omega)
    exact lp19_1 (Int.toNat (pl + 1 - 0) + 1) 0 (-1) 0 _ (by omega) (by omega) (Or.inl ⟨rfl, rfl, rfl⟩) rfl rfl rfl rfl (by omega)
  ·
    refine S_iconst X dX12_middle_7 ?_
    exact S_iret X (nle rfl) (nle rfl) dX12_middle_8 (hPo _ _ (⟨_, _, _, by unfold aMiddle; rw [if_neg (by omega)], rfl⟩))
set_option maxHeartbeats 4000000 in
set_option maxRecDepth 100000 in
theorem kX12_ends (l : Launch) (h0 : Nat) (f : Nat → AV) (pl : Int) (n : Int) (ec : Int) (mk : Int) (hQ : Nat) (hB : Nat) (hE : Nat) (hA : Nat) (hM : Nat) (hW : Nat) (Q : Int → Int) (B : Int → Int) (E : Int → Int) (Ab : Int → Int) (Mt : Int → Int) (Wt : Int → Int) (v : Int) (hf0 : f 21 = iv pl) (hf1 : f 28 = iv n) (hf2 : f 29 = iv ec) (hf3 : f 26 = iv mk) (hf4 : f 20 = rv hQ) (hf5 : f 23 = rv hB) (hf6 : f 24 = rv hE) (hf7 : f 33 = rv hA) (hf8 : f 34 = rv hM) (hf9 : f 35 = rv hW) (hz : okZ pl n ec (c5 Q 3) (c5 Q 4) B E) (hx_v : inR v) : AMi l yX12_ends cX12_ends 3 .int 4 0 0 [rv h0, iv v] [(h0, ob 11 f), (hQ, ar 30 Q), (hB, ar 6 B), (hE, ar 6 E), (hA, ar 1206 Ab), (hM, ar 180 Mt), (hW, ar 180 Wt)] (fun z u => ∃ A2 : Int → Int, ∃ M2 : Int → Int, ∃ W2 : Int → Int, z = aEnds pl n ec mk (c5 Q 3) (c5 Q 4) B E v ∧ u = [(h0, ob 11 f), (hQ, ar 30 Q), (hB, ar 6 B), (hE, ar 6 E), (hA, ar 1206 A2), (hM, ar 180 M2), (hW, ar 180 W2)]) := by
  refine AMi.of2 rfl (nle rfl) ?_
  intro D G A p e s m args below meth c Po hPo X
  have hz6 := hz.2.1
  have hz0 := hz.1
  have hzn := hz.2.2.1
  have hzm := hz.2.2.2.1
  have hze := hz.2.2.2.2
  refine S_aload_n X dX12_ends_0 rfl rfl ?_
  refine S_get X fgX12_253_11 0 rfl hf0 dX12_ends_1 ?_
  refine S_if_eq (tgt := 16) X dX12_ends_4 (by decide) (by omega) (fun c_1 => ?_) (fun c_1 => ?_)
  ·
    refine S_iconst X dX12_ends_16 ?_
    exact S_iret X (nle rfl) (nle rfl) dX12_ends_17 (hPo _ _ (⟨_, _, _, by unfold aEnds; rw [if_neg (by omega)], rfl⟩))
  ·
    refine S_iload_n X dX12_ends_7 rfl rfl ?_
    refine S_iconst X dX12_ends_8 ?_
    refine S_iconst X dX12_ends_9 ?_
    refine S_calli X (kX12_in l v 0 1 (by omega) (by omega) (by omega)) (is := []) rfl (run_S X lkX12_216 (is := []) (avs := [iv v, iv 0, iv 1]) (rest := []) rfl rfl (nle rfl) ⟨nle rfl, nle rfl⟩ ⟨nle rfl, nle rfl⟩ dX12_ends_10 (by decide) rfl) (fun z_4 u_2 hp_3 => ?_)
    rcases hp_3 with ⟨hz_5, hu_6, hq_7⟩ | ⟨hz_8, hu_9, hq_10⟩
    ·
      subst hz_5
      subst hu_6
      refine ⟨rfl, ?_⟩
      refine S_w (ws' := [(h0, ob 11 f), (hQ, ar 30 Q), (hB, ar 6 B), (hE, ar 6 E), (hA, ar 1206 Ab), (hM, ar 180 Mt), (hW, ar 180 Wt)]) rfl ?_
      refine S_if_ne (tgt := 18) X dX12_ends_13 (by decide) (by decide) (fun h9 => absurd h9 (by decide)) (fun _ => ?_)
      refine S_iconst X dX12_ends_16 ?_
      exact S_iret X (nle rfl) (nle rfl) dX12_ends_17 (hPo _ _ (⟨_, _, _, by unfold aEnds; rw [if_neg (by omega)], rfl⟩))
    ·
      subst hz_8
      subst hu_9
      refine ⟨rfl, ?_⟩
      refine S_w (ws' := [(h0, ob 11 f), (hQ, ar 30 Q), (hB, ar 6 B), (hE, ar 6 E), (hA, ar 1206 Ab), (hM, ar 180 Mt), (hW, ar 180 Wt)]) rfl ?_
      refine S_if_ne (tgt := 18) X dX12_ends_13 (by decide) (by decide) (fun _ => ?_) (fun h9 => absurd h9 (by decide))
      have hok := hz.s (by omega)
      have hpl := hok.2.1
      have hpl1 := hok.1
      have hn1 := hok.2.2.1
      have hn2 := hok.2.2.2.1
      have hec := hok.2.2.2.2
      refine S_aload_n X dX12_ends_18 rfl rfl ?_
      refine S_callv X (kX12_play l h0 f pl n ec mk hQ hB hE hA hM hW Q B E Ab Mt Wt hf0 hf1 hf2 hf3 hf4 hf5 hf6 hf7 hf8 hf9 (by omega)) (is := [0, 1, 2, 3, 4, 5, 6]) rfl (run_V X lkX12_312 0 rfl rfl (is := [0, 1, 2, 3, 4, 5, 6]) (avs := []) (rest := []) rfl rfl (nle rfl) ⟨nle rfl, nle rfl⟩ ⟨nle rfl, nle rfl⟩ dX12_ends_19 (by decide) rfl) (fun u_13 hp_14 => ?_)
      obtain ⟨A2_16, M2_17, W2_18, hu_20, hA2_21, hM2_22, hW2_23⟩ := hp_14
      subst hu_20
      refine ⟨rfl, ?_⟩
      refine S_w (ws' := [(h0, ob 11 f), (hQ, ar 30 Q), (hB, ar 6 B), (hE, ar 6 E), (hA, ar 1206 A2_16), (hM, ar 180 M2_17), (hW, ar 180 W2_18)]) rfl ?_
      have hAL := hA2_21
      have hML := hM2_22
      have hWL := hW2_23
      refine S_aload_n X dX12_ends_22 rfl rfl ?_
      refine S_get X fgX12_68_11 0 rfl hf8 dX12_ends_23 ?_
      refine S_bipush X dX12_ends_26 rfl ?_
      refine S_aload_n X dX12_ends_28 rfl rfl ?_
      refine S_get X fgX12_56_11 0 rfl hf1 dX12_ends_29 ?_
      refine S_iconst X dX12_ends_32 ?_
      refine S_isub X dX12_ends_33 ?_
      refine S_imul X dX12_ends_34 ?_
      refine S_aload_n X dX12_ends_35 rfl rfl ?_
      refine S_aload_n X dX12_ends_36 rfl rfl ?_
      refine S_get X fgX12_56_11 0 rfl hf1 dX12_ends_37 ?_
      refine S_iconst X dX12_ends_40 ?_
      refine S_isub X dX12_ends_41 ?_
      refine S_calli X (kX12_lastAt l h0 f pl n ec mk hM Q B E M2_17 (n - 1) hf0 hf8 (by omega) hML (by omega)) (is := [0, 5]) rfl (run_V X lkX12_324 0 rfl rfl (is := [0, 5]) (avs := [iv (n - 1)]) (rest := [iv (6 * (n - 1)), rv hM]) rfl rfl (nle rfl) ⟨nle rfl, nle rfl⟩ ⟨nle rfl, nle rfl⟩ dX12_ends_42 (by decide) rfl) (fun z_26 u_24 hp_25 => ?_)
      obtain ⟨hz_27, hu_28⟩ := hp_25
      subst hz_27
      subst hu_28
      refine ⟨rfl, ?_⟩
      refine S_w (ws' := [(h0, ob 11 f), (hQ, ar 30 Q), (hB, ar 6 B), (hE, ar 6 E), (hA, ar 1206 A2_16), (hM, ar 180 M2_17), (hW, ar 180 W2_18)]) rfl ?_
      have hl9 := amI_lt (g := ((tS pl ec mk (c5 Q 3) (c5 Q 4) B E) (n - 1))) (p := pl) (by omega)
      have hl8 := hML.at (z := 6 * (n - 1) + amI ((tS pl ec mk (c5 Q 3) (c5 Q 4) B E) (n - 1)) pl) (x := n - 1) (y := amI ((tS pl ec mk (c5 Q 3) (c5 Q 4) B E) (n - 1)) pl) rfl (by omega) (by omega) (by omega) (by omega)
      have hl7 : ((tS pl ec mk (c5 Q 3) (c5 Q 4) B E) (n - 1)) (amI ((tS pl ec mk (c5 Q 3) (c5 Q 4) B E) (n - 1)) pl) = mxI ((tS pl ec mk (c5 Q 3) (c5 Q 4) B E) (n - 1)) pl := mxI_am (by omega) (fun y y0 y1 => by have := hok.time (mk := mk) (n - 1) y (by omega) y0 y1; omega)
      refine S_iadd X dX12_ends_45 ?_
      refine S_iald X 5 rfl (by omega) (by omega) (nle rfl) dX12_ends_46 ?_
      refine S_istore_n X dX12_ends_47 rfl (nle rfl) ?_
      refine S_iload_n X dX12_ends_48 rfl rfl ?_
      refine S_if_ne (tgt := 56) X dX12_ends_49 (by decide) (by omega) (fun c_29 => ?_) (fun c_29 => ?_)
      ·
        refine S_iload_n X dX12_ends_56 rfl rfl ?_
        refine S_aload_n X dX12_ends_57 rfl rfl ?_
        refine S_aload_n X dX12_ends_58 rfl rfl ?_
        refine S_get X fgX12_56_11 0 rfl hf1 dX12_ends_59 ?_
        refine S_iconst X dX12_ends_62 ?_
        refine S_isub X dX12_ends_63 ?_
        refine S_calli X (kX12_spreadAt l h0 f pl n ec mk hM Q B E M2_17 (n - 1) hf0 hf8 (by omega) hML (by omega)) (is := [0, 5]) rfl (run_V X lkX12_315 0 rfl rfl (is := [0, 5]) (avs := [iv (n - 1)]) (rest := [iv (M2_17 ((6 * (n - 1)) + (amI ((tS pl ec mk (c5 Q 3) (c5 Q 4) B E) (n - 1)) pl)))]) rfl rfl (nle rfl) ⟨nle rfl, nle rfl⟩ ⟨nle rfl, nle rfl⟩ dX12_ends_64 (by decide) rfl) (fun z_32 u_30 hp_31 => ?_)
        obtain ⟨hz_33, hu_34⟩ := hp_31
        subst hz_33
        subst hu_34
        refine ⟨rfl, ?_⟩
        refine S_w (ws' := [(h0, ob 11 f), (hQ, ar 30 Q), (hB, ar 6 B), (hE, ar 6 E), (hA, ar 1206 A2_16), (hM, ar 180 M2_17), (hW, ar 180 W2_18)]) rfl ?_
        refine S_isub X dX12_ends_67 ?_
        exact S_iret X (nle rfl) (nle rfl) dX12_ends_68 (hPo _ _ (⟨_, _, _, by unfold aEnds; rw [if_pos (by omega), if_neg (by omega), hl8, hl7], rfl⟩))
      ·
        refine S_iload_n X dX12_ends_52 rfl rfl ?_
        refine S_goto (tgt := 68) X dX12_ends_53 (by decide) ?_
        exact S_iret X (nle rfl) (nle rfl) dX12_ends_68 (hPo _ _ (⟨_, _, _, by unfold aEnds; rw [if_pos (by omega), if_pos (by omega), hl8, hl7], rfl⟩))
set_option maxHeartbeats 4000000 in
set_option maxRecDepth 100000 in
theorem kX12_stray (l : Launch) (h0 : Nat) (f : Nat → AV) (pl : Int) (n : Int) (ec : Int) (mk : Int) (hQ : Nat) (hB : Nat) (hE : Nat) (hA : Nat) (hM : Nat) (hW : Nat) (Q : Int → Int) (B : Int → Int) (E : Int → Int) (Ab : Int → Int) (Mt : Int → Int) (Wt : Int → Int) (pp : Int) (v : Int) (hf0 : f 21 = iv pl) (hf1 : f 28 = iv n) (hf2 : f 29 = iv ec) (hf3 : f 26 = iv mk) (hf4 : f 20 = rv hQ) (hf5 : f 23 = rv hB) (hf6 : f 24 = rv hE) (hf7 : f 33 = rv hA) (hf8 : f 34 = rv hM) (hf9 : f 35 = rv hW) (hz : okZ pl n ec (c5 Q 3) (c5 Q 4) B E) (hx_pp : inR pp) (hx_v : inR v) : AMi l yX12_stray cX12_stray 4 .int 4 0 0 [rv h0, iv pp, iv v] [(h0, ob 11 f), (hQ, ar 30 Q), (hB, ar 6 B), (hE, ar 6 E), (hA, ar 1206 Ab), (hM, ar 180 Mt), (hW, ar 180 Wt)] (fun z u => ∃ A2 : Int → Int, ∃ M2 : Int → Int, ∃ W2 : Int → Int, z = aStray pl n ec (c5 Q 3) (c5 Q 4) B pp v ∧ u = [(h0, ob 11 f), (hQ, ar 30 Q), (hB, ar 6 B), (hE, ar 6 E), (hA, ar 1206 A2), (hM, ar 180 M2), (hW, ar 180 W2)]) := by
  refine AMi.of2 rfl (nle rfl) ?_
  intro D G A p e s m args below meth c Po hPo X
  have hz6 := hz.2.1
  have hz0 := hz.1
  have hzn := hz.2.2.1
  have hzm := hz.2.2.2.1
  have hze := hz.2.2.2.2
  refine S_aload_n X dX12_stray_0 rfl rfl ?_
  refine S_iload_n X dX12_stray_1 rfl rfl ?_
  refine S_calli X (kX12_isPlayer l h0 f pl pp hf0 (by omega) (by omega)) (is := [0]) rfl (run_V X lkX12_281 0 rfl rfl (is := [0]) (avs := [iv pp]) (rest := []) rfl rfl (nle rfl) ⟨nle rfl, nle rfl⟩ ⟨nle rfl, nle rfl⟩ dX12_stray_2 (by decide) rfl) (fun z_3 u_1 hp_2 => ?_)
  rcases hp_2 with ⟨hz_4, hu_5, hq_6⟩ | ⟨hz_7, hu_8, hq_9⟩
  ·
    subst hz_4
    subst hu_5
    refine ⟨rfl, ?_⟩
    refine S_w (ws' := [(h0, ob 11 f), (hQ, ar 30 Q), (hB, ar 6 B), (hE, ar 6 E), (hA, ar 1206 Ab), (hM, ar 180 Mt), (hW, ar 180 Wt)]) rfl ?_
    refine S_if_eq (tgt := 18) X dX12_stray_5 (by decide) (by decide) (fun _ => ?_) (fun h9 => absurd h9 (by decide))
    refine S_iconst X dX12_stray_18 ?_
    exact S_iret X (nle rfl) (nle rfl) dX12_stray_19 (hPo _ _ (⟨_, _, _, by unfold aStray; rw [if_neg (by omega)], rfl⟩))
  ·
    subst hz_7
    subst hu_8
    refine ⟨rfl, ?_⟩
    refine S_w (ws' := [(h0, ob 11 f), (hQ, ar 30 Q), (hB, ar 6 B), (hE, ar 6 E), (hA, ar 1206 Ab), (hM, ar 180 Mt), (hW, ar 180 Wt)]) rfl ?_
    refine S_if_eq (tgt := 18) X dX12_stray_5 (by decide) (by decide) (fun h9 => absurd h9 (by decide)) (fun _ => ?_)
    refine S_iload_n X dX12_stray_8 rfl rfl ?_
    refine S_iconst X dX12_stray_9 ?_
    refine S_bipush X dX12_stray_10 rfl ?_
    refine S_calli X (kX12_in l v 1 99 (by omega) (by omega) (by omega)) (is := []) rfl (run_S X lkX12_216 (is := []) (avs := [iv v, iv 1, iv 99]) (rest := []) rfl rfl (nle rfl) ⟨nle rfl, nle rfl⟩ ⟨nle rfl, nle rfl⟩ dX12_stray_12 (by decide) rfl) (fun z_14 u_12 hp_13 => ?_)
    rcases hp_13 with ⟨hz_15, hu_16, hq_17⟩ | ⟨hz_18, hu_19, hq_20⟩
    ·
      subst hz_15
      subst hu_16
      refine ⟨rfl, ?_⟩
      refine S_w (ws' := [(h0, ob 11 f), (hQ, ar 30 Q), (hB, ar 6 B), (hE, ar 6 E), (hA, ar 1206 Ab), (hM, ar 180 Mt), (hW, ar 180 Wt)]) rfl ?_
      refine S_if_ne (tgt := 20) X dX12_stray_15 (by decide) (by decide) (fun h9 => absurd h9 (by decide)) (fun _ => ?_)
      refine S_iconst X dX12_stray_18 ?_
      exact S_iret X (nle rfl) (nle rfl) dX12_stray_19 (hPo _ _ (⟨_, _, _, by unfold aStray; rw [if_neg (by omega)], rfl⟩))
    ·
      subst hz_18
      subst hu_19
      refine ⟨rfl, ?_⟩
      refine S_w (ws' := [(h0, ob 11 f), (hQ, ar 30 Q), (hB, ar 6 B), (hE, ar 6 E), (hA, ar 1206 Ab), (hM, ar 180 Mt), (hW, ar 180 Wt)]) rfl ?_
      refine S_if_ne (tgt := 20) X dX12_stray_15 (by decide) (by decide) (fun _ => ?_) (fun h9 => absurd h9 (by decide))
      have hok := hz.s (by omega)
      have hpl := hok.2.1
      have hpl1 := hok.1
      have hn1 := hok.2.2.1
      have hn2 := hok.2.2.2.1
      have hec := hok.2.2.2.2
      refine S_aload_n X dX12_stray_20 rfl rfl ?_
      refine S_callv X (kX12_play l h0 f pl n ec mk hQ hB hE hA hM hW Q B E Ab Mt Wt hf0 hf1 hf2 hf3 hf4 hf5 hf6 hf7 hf8 hf9 (by omega)) (is := [0, 1, 2, 3, 4, 5, 6]) rfl (run_V X lkX12_312 0 rfl rfl (is := [0, 1, 2, 3, 4, 5, 6]) (avs := []) (rest := []) rfl rfl (nle rfl) ⟨nle rfl, nle rfl⟩ ⟨nle rfl, nle rfl⟩ dX12_stray_21 (by decide) rfl) (fun u_23 hp_24 => ?_)
      obtain ⟨A2_26, M2_27, W2_28, hu_30, hA2_31, hM2_32, hW2_33⟩ := hp_24
      subst hu_30
      refine ⟨rfl, ?_⟩
      refine S_w (ws' := [(h0, ob 11 f), (hQ, ar 30 Q), (hB, ar 6 B), (hE, ar 6 E), (hA, ar 1206 A2_26), (hM, ar 180 M2_27), (hW, ar 180 W2_28)]) rfl ?_
      have hAL := hA2_31
      have hML := hM2_32
      have hWL := hW2_33
      refine S_iconst X dX12_stray_24 ?_
      refine S_istore_n X dX12_stray_25 rfl (nle rfl) ?_
      have lp26_2 : ∀ (N : Nat) (b : Int) (L : Nat → Option AV), 1 ≤ b ∧ b ≤ n → fiI (fun b => decide (1 ≤ b ∧ v ≤ (((bF ec (c5 Q 3) (c5 Q 4) B) b pp - (bF ec (c5 Q 3) (c5 Q 4) B) (b - 1) pp).natAbs : Int))) b = -1 → L 0 = some (rv h0) → L 1 = some (iv pp) → L 2 = some (iv v) → L 3 = some (iv b) → n + 1 - b < (N : Int) → S_ p l e (rmD 4 0 0) s m args below meth c (MQ below (QcI D G A Po) args s 0 0 A) D G A 4 0 0 26 L [] [(h0, ob 11 f), (hQ, ar 30 Q), (hB, ar 6 B), (hE, ar 6 E), (hA, ar 1206 A2_26), (hM, ar 180 M2_27), (hW, ar 180 W2_28)] := by
        intro N
        induction N with
        | zero =>
          intro b L26 hb hfi hL26_0 hL26_1 hL26_2 hL26_3 hN26
          exfalso; omega
        | succ N ih26 =>
          intro b L26 hb hfi hL26_0 hL26_1 hL26_2 hL26_3 hN26
          refine S_iload_n X dX12_stray_26 rfl hL26_3 ?_
          refine S_aload_n X dX12_stray_27 rfl hL26_0 ?_
          refine S_get X fgX12_56_11 0 rfl hf1 dX12_stray_28 ?_
          refine S_icmp_ge (tgt := 74) X dX12_stray_31 (by decide) (by omega) (by omega) (fun c_34 => ?_) (fun c_34 => ?_)
          ·
            refine S_iconst X dX12_stray_74 ?_
            exact S_iret X (nle rfl) (nle rfl) dX12_stray_75 (hPo _ _ (⟨_, _, _, by unfold aStray; rw [if_pos (by omega)]; unfold srI; have h9 := hfi; rw [show b = n by omega] at h9; exact h9.symm, rfl⟩))
          ·
            have h1 := hAL.at (z := 6 * b + pp) (x := b) (y := pp) rfl (by omega) (by omega) (by omega) (by omega)
            have h2 := hAL.at (z := 6 * (b - 1) + pp) (x := b - 1) (y := pp) rfl (by omega) (by omega) (by omega) (by omega)
            have h3 := hok.beat b pp (by omega) (by omega) (by omega)
            have h4 := hok.beat (b - 1) pp (by omega) (by omega) (by omega)
            refine S_aload_n X dX12_stray_34 rfl hL26_0 ?_
            refine S_get X fgX12_65_11 0 rfl hf7 dX12_stray_35 ?_
            refine S_bipush X dX12_stray_38 rfl ?_
            refine S_iload_n X dX12_stray_40 rfl hL26_3 ?_
            refine S_imul X dX12_stray_41 ?_
            refine S_iload_n X dX12_stray_42 rfl hL26_1 ?_
            refine S_iadd X dX12_stray_43 ?_
            refine S_iald X 4 rfl (by omega) (by omega) (nle rfl) dX12_stray_44 ?_
            refine S_aload_n X dX12_stray_45 rfl hL26_0 ?_
            refine S_get X fgX12_65_11 0 rfl hf7 dX12_stray_46 ?_
            refine S_bipush X dX12_stray_49 rfl ?_
            refine S_iload_n X dX12_stray_51 rfl hL26_3 ?_
            refine S_iconst X dX12_stray_52 ?_
            refine S_isub X dX12_stray_53 ?_
            refine S_imul X dX12_stray_54 ?_
            refine S_iload_n X dX12_stray_55 rfl hL26_1 ?_
            refine S_iadd X dX12_stray_56 ?_
            refine S_iald X 4 rfl (by omega) (by omega) (nle rfl) dX12_stray_57 ?_
            refine S_isub X dX12_stray_58 ?_
            refine S_mabs X lkX12_358 rfl rfl (by omega) (nle rfl) (nle rfl) (nle rfl) (nle rfl) dX12_stray_59 ?_
            refine S_iload_n X dX12_stray_62 rfl hL26_2 ?_
            refine S_icmp_lt (tgt := 68) X dX12_stray_63 (by decide) (by omega) (by omega) (fun c_35 => ?_) (fun c_35 => ?_)
            ·
              refine S_iinc X dX12_stray_68 (nle rfl) hL26_3 ?_
              refine S_goto (tgt := 26) X dX12_stray_71 (by decide) ?_
              exact ih26 (b + 1) _ (by omega) (fiI_skip (by omega) hfi (decide_eq_false (by omega))) hL26_0 hL26_1 hL26_2 rfl (by omega)
            ·
              refine S_iload_n X dX12_stray_66 rfl hL26_3 ?_
              exact S_iret X (nle rfl) (nle rfl) dX12_stray_67 (hPo _ _ (⟨_, _, _, by unfold aStray; rw [if_pos (by omega)]; unfold srI; exact (fiI_hit (by omega) hfi (decide_eq_true (by omega)) n (by omega) (by omega)).symm, rfl⟩))
      exact lp26_2 (Int.toNat (n + 1 - 1) + 1) 1 _ (by omega) (fiI_1 (decide_eq_false (by omega))) rfl rfl rfl rfl (by omega)
end pt_37rq1
