set_option maxHeartbeats 4000000 in
set_option maxRecDepth 100000 in
theorem kX12_fault (l : Launch) (h0 : Nat) (hT : Nat) (f : Nat → AV) (T : Int → Int) (n : Int) (hC : Nat) (hV : Nat) (hN : Nat) (C : Int → Int) (V : Int → Int) (Nk : Int → Int) (hL : Nat) (hTf : Nat) (hSf : Nat) (hEf : Nat) (Lk : Int → Int) (Tf : Int → Int) (Sf : Int → Int) (Ef : Int → Int) (t0 : Int) (a : Int) (w : Int) (dp : Int) (m0 : Int) (p0 : Int) (hR : Nat) (R1 : Int → Int) (R0 : Int → Int → Int) (so : Int) (hf0 : f 1 = rv hT) (hf1 : f 2 = iv n) (hf2 : f 6 = rv hC) (hf3 : f 7 = rv hV) (hf4 : f 8 = rv hN) (hf5 : f 9 = rv hL) (hf6 : f 10 = rv hTf) (hf7 : f 11 = rv hSf) (hf8 : f 12 = rv hEf) (hf9 : f 17 = rv hR) (okT : okT T n) (hso : inR so) : AMi l yX12_fault cX12_fault 2 .int 41 0 0 [rv h0, iv so] [(h0, ob 11 (uF (uF (uF (uF (uF (uF f 19 (iv m0)) 18 (iv p0)) 14 (iv t0)) 3 (iv a)) 4 (iv w)) 5 (iv dp))), (hT, ar 160 T), (hR, ar 30 R1), (hC, ar 1700 C), (hV, ar 1700 V), (hN, ar 5 Nk), (hL, ar 5 Lk), (hTf, ar 450 Tf), (hSf, ar 450 Sf), (hEf, ar 450 Ef)] (fun z u => (∃ a2 : Int, ∃ fl : Int, ∃ p2 : Int, ∃ m2 : Int, ∃ R2 : Int → Int, z = fl ∧ u = [(h0, ob 11 (uF (uF (uF (uF (uF (uF f 19 (iv m2)) 18 (iv p2)) 14 (iv t0)) 3 (iv a2)) 4 (iv fl)) 5 (iv dp))), (hT, ar 160 T), (hR, ar 30 R2), (hC, ar 1700 C), (hV, ar 1700 V), (hN, ar 5 Nk), (hL, ar 5 Lk), (hTf, ar 450 Tf), (hSf, ar 450 Sf), (hEf, ar 450 Ef)] ∧ so = 0 ∧ tnRes T n R0 = .inl fl ∧ (0 ≤ fl ∧ fl ≤ n)) ∨ (∃ a2 : Int, ∃ p2 : Int, ∃ m2 : Int, ∃ x2 : Int, ∃ R2 : Int → Int, ∃ Rc : Int → Int → Int, z = -1 ∧ u = [(h0, ob 11 (uF (uF (uF (uF (uF (uF f 19 (iv m2)) 18 (iv p2)) 14 (iv t0)) 3 (iv a2)) 4 (iv (-1))) 5 (iv dp))), (hT, ar 160 T), (hR, ar 30 R2), (hC, ar 1700 C), (hV, ar 1700 V), (hN, ar 5 Nk), (hL, ar 5 Lk), (hTf, ar 450 Tf), (hSf, ar 450 Sf), (hEf, ar 450 Ef)] ∧ so = 0 ∧ tnRes T n R0 = .inr (p2, m2, x2, Rc) ∧ flat p2 R2 Rc ∧ okTS (p2, m2, x2, Rc)) ∨ (∃ a2 : Int, ∃ fl : Int, ∃ k2 : Int, ∃ dp2 : Int, ∃ j2 : Int, ∃ w2 : Int, ∃ C2 : Int → Int, ∃ V2 : Int → Int, ∃ Tf2 : Int → Int, ∃ Sf2 : Int → Int, ∃ Ef2 : Int → Int, z = fl ∧ u = [(h0, ob 11 (uF (uF (uF (uF (uF (uF f 19 (iv m0)) 18 (iv p0)) 14 (iv 4)) 3 (iv a2)) 4 (iv w2)) 5 (iv dp2))), (hT, ar 160 T), (hR, ar 30 R1), (hC, ar 1700 C2), (hV, ar 1700 V2), (hN, ar 5 (uZ Nk 4 k2)), (hL, ar 5 (uZ Lk 4 j2)), (hTf, ar 450 Tf2), (hSf, ar 450 Sf2), (hEf, ar 450 Ef2)] ∧ so = 1 ∧ pLawLS T n 161 0 [] = .inl fl ∧ (0 ≤ fl ∧ fl ≤ n) ∧ frm 4 C C2 ∧ frm 4 V V2 ∧ frp 4 Tf Tf2 ∧ frp 4 Sf Sf2 ∧ frp 4 Ef Ef2) ∨ (∃ a2 : Int, ∃ cs : List (List Int × List Int), z = -1 ∧ u = [(h0, ob 11 (uF (uF (uF (uF (uF (uF f 19 (iv m0)) 18 (iv p0)) 14 (iv 4)) 3 (iv a2)) 4 (iv (-1))) 5 (iv 0))), (hT, ar 160 T), (hR, ar 30 R1), (hC, ar 1700 (wrL C (340 * 4 + 0) (List.map kC (codesOf cs)))), (hV, ar 1700 (wrL V (340 * 4 + 0) (List.map kV (codesOf cs)))), (hN, ar 5 (uZ Nk 4 (0 + ((codesOf cs).length : Int)))), (hL, ar 5 (uZ Lk 4 (0 + ((cs).length : Int)))), (hTf, ar 450 (wrL Tf (90 * 4 + 0) (tfOf 0 cs))), (hSf, ar 450 (wrL Sf (90 * 4 + 0) (sfOf 0 cs))), (hEf, ar 450 (wrL Ef (90 * 4 + 0) (stOf 0 cs)))] ∧ so = 1 ∧ pLawLS T n 161 0 [] = .inr cs ∧ (((codesOf cs).length : Int) ≤ 160 ∧ 2 * (cs.length : Int) ≤ 160)) ∨ (z = -2 ∧ u = [(h0, ob 11 (uF (uF (uF (uF (uF (uF f 19 (iv m0)) 18 (iv p0)) 14 (iv t0)) 3 (iv a)) 4 (iv w)) 5 (iv dp))), (hT, ar 160 T), (hR, ar 30 R1), (hC, ar 1700 C), (hV, ar 1700 V), (hN, ar 5 Nk), (hL, ar 5 Lk), (hTf, ar 450 Tf), (hSf, ar 450 Sf), (hEf, ar 450 Ef)] ∧ (¬ so = 0 ∧ ¬ so = 1))) := by
  refine AMi.of2 rfl (nle rfl) ?_
  intro D G A p e s m args below meth c Po hPo X
  refine S_iload_n X dX12_fault_0 rfl rfl ?_
  refine S_if_ne (tgt := 11) X dX12_fault_1 (by decide) (by omega) (fun c_1 => ?_) (fun c_1 => ?_)
  ·
    refine S_iload_n X dX12_fault_11 rfl rfl ?_
    refine S_iconst X dX12_fault_12 ?_
    refine S_icmp_ne (tgt := 24) X dX12_fault_13 (by decide) (by omega) (by decide) (fun c_2 => ?_) (fun c_2 => ?_)
    ·
      refine S_bipush X dX12_fault_24 rfl ?_
      exact S_iret X (nle rfl) (nle rfl) dX12_fault_26 (hPo _ _ (Or.inr (Or.inr (Or.inr (Or.inr ⟨rfl, rfl, by omega⟩)))))
    ·
      refine S_aload_n X dX12_fault_16 rfl rfl ?_
      refine S_iconst X dX12_fault_17 ?_
      refine S_calli X (kX12_readLaw l h0 hT (uF (uF f 19 (iv m0)) 18 (iv p0)) T n hC hV hN C V Nk 4 hL hTf hSf hEf Lk Tf Sf Ef t0 a w dp hf0 hf1 hf2 hf3 hf4 hf5 hf6 hf7 hf8 (by omega) (by omega)) (is := [0, 1, 3, 4, 5, 6, 7, 8, 9]) rfl (run_V X lkX12_250 0 rfl rfl (is := [0, 1, 3, 4, 5, 6, 7, 8, 9]) (avs := [iv 4]) (rest := []) rfl rfl (nle rfl) ⟨nle rfl, nle rfl⟩ ⟨nle rfl, nle rfl⟩ dX12_fault_18 (by decide) rfl) (fun z_5 u_3 hp_4 => ?_)
      rcases hp_4 with ⟨a2_6, fl_7, k2_8, dp2_9, j2_10, w2_11, C2_12, V2_13, Tf2_14, Sf2_15, Ef2_16, hz_17, hu_18, hq_19, hfl_20, hfC_21, hfV_22, hfT_23, hfS_24, hfE_25⟩ | ⟨a2_26, cs_27, hz_28, hu_29, hq_30, hl_31⟩
      ·
        subst hz_17
        subst hu_18
        refine ⟨rfl, ?_⟩
        refine S_w (ws' := [(h0, ob 11 (uF (uF (uF (uF (uF (uF f 19 (iv m0)) 18 (iv p0)) 14 (iv 4)) 3 (iv a2_6)) 4 (iv w2_11)) 5 (iv dp2_9))), (hT, ar 160 T), (hR, ar 30 R1), (hC, ar 1700 C2_12), (hV, ar 1700 V2_13), (hN, ar 5 (uZ Nk 4 k2_8)), (hL, ar 5 (uZ Lk 4 j2_10)), (hTf, ar 450 Tf2_14), (hSf, ar 450 Sf2_15), (hEf, ar 450 Ef2_16)]) rfl ?_
        refine S_goto (tgt := 26) X dX12_fault_21 (by decide) ?_
        exact S_iret X (nle rfl) (nle rfl) dX12_fault_26 (hPo _ _ (Or.inr (Or.inr (Or.inl ⟨_, _, _, _, _, _, _, _, _, _, _, rfl, rfl, by omega, hq_19, hfl_20, hfC_21, hfV_22, hfT_23, hfS_24, hfE_25⟩))))
      ·
        subst hz_28
        subst hu_29
        refine ⟨rfl, ?_⟩
        refine S_w (ws' := [(h0, ob 11 (uF (uF (uF (uF (uF (uF f 19 (iv m0)) 18 (iv p0)) 14 (iv 4)) 3 (iv a2_26)) 4 (iv (-1))) 5 (iv 0))), (hT, ar 160 T), (hR, ar 30 R1), (hC, ar 1700 (wrL C (340 * 4 + 0) (List.map kC (codesOf cs_27)))), (hV, ar 1700 (wrL V (340 * 4 + 0) (List.map kV (codesOf cs_27)))), (hN, ar 5 (uZ Nk 4 (0 + ((codesOf cs_27).length : Int)))), (hL, ar 5 (uZ Lk 4 (0 + ((cs_27).length : Int)))), (hTf, ar 450 (wrL Tf (90 * 4 + 0) (tfOf 0 cs_27))), (hSf, ar 450 (wrL Sf (90 * 4 + 0) (sfOf 0 cs_27))), (hEf, ar 450 (wrL Ef (90 * 4 + 0) (stOf 0 cs_27)))]) rfl ?_
        refine S_goto (tgt := 26) X dX12_fault_21 (by decide) ?_
        exact S_iret X (nle rfl) (nle rfl) dX12_fault_26 (hPo _ _ (Or.inr (Or.inr (Or.inr (Or.inl ⟨_, _, rfl, rfl, by omega, hq_30, hl_31⟩)))))
  ·
    refine S_aload_n X dX12_fault_4 rfl rfl ?_
    refine S_calli X (kX12_readTown l h0 hT f T n a w dp t0 m0 p0 hR R1 R0 hf0 hf1 hf9 (by omega)) (is := [0, 1, 2]) rfl (run_V X lkX12_247 0 rfl rfl (is := [0, 1, 2]) (avs := []) (rest := []) rfl rfl (nle rfl) ⟨nle rfl, nle rfl⟩ ⟨nle rfl, nle rfl⟩ dX12_fault_5 (by decide) rfl) (fun z_34 u_32 hp_33 => ?_)
    rcases hp_33 with ⟨a2_35, fl_36, p2_37, m2_38, R2_39, hz_40, hu_41, hq_42, hr_43⟩ | ⟨a2_44, p2_45, m2_46, x2_47, R2_48, Rc_49, hz_50, hu_51, hq_52, hfl_53, hs_54⟩
    ·
      subst hz_40
      subst hu_41
      refine ⟨rfl, ?_⟩
      refine S_w (ws' := [(h0, ob 11 (uF (uF (uF (uF (uF (uF f 19 (iv m2_38)) 18 (iv p2_37)) 14 (iv t0)) 3 (iv a2_35)) 4 (iv z_34)) 5 (iv dp))), (hT, ar 160 T), (hR, ar 30 R2_39), (hC, ar 1700 C), (hV, ar 1700 V), (hN, ar 5 Nk), (hL, ar 5 Lk), (hTf, ar 450 Tf), (hSf, ar 450 Sf), (hEf, ar 450 Ef)]) rfl ?_
      refine S_goto (tgt := 26) X dX12_fault_8 (by decide) ?_
      exact S_iret X (nle rfl) (nle rfl) dX12_fault_26 (hPo _ _ (Or.inl ⟨_, _, _, _, _, rfl, rfl, by omega, hq_42, hr_43⟩))
    ·
      subst hz_50
      subst hu_51
      refine ⟨rfl, ?_⟩
      refine S_w (ws' := [(h0, ob 11 (uF (uF (uF (uF (uF (uF f 19 (iv m2_46)) 18 (iv p2_45)) 14 (iv t0)) 3 (iv a2_44)) 4 (iv (-1))) 5 (iv dp))), (hT, ar 160 T), (hR, ar 30 R2_48), (hC, ar 1700 C), (hV, ar 1700 V), (hN, ar 5 Nk), (hL, ar 5 Lk), (hTf, ar 450 Tf), (hSf, ar 450 Sf), (hEf, ar 450 Ef)]) rfl ?_
      refine S_goto (tgt := 26) X dX12_fault_8 (by decide) ?_
      exact S_iret X (nle rfl) (nle rfl) dX12_fault_26 (hPo _ _ (Or.inr (Or.inl ⟨_, _, _, _, _, _, rfl, rfl, by omega, hq_52, hfl_53, hs_54⟩)))
