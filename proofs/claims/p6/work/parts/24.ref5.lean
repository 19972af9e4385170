theorem cl_C {g C : Int → Int} {x : Int} {l : List (List Int × List Int)} {c s : List Int} : wrL C (x + 0) (List.map g (codesOf (l ++ [(c, s)]))) = wrL (wrL C (x + 0) (List.map g (codesOf l))) (x + (0 + ((codesOf l).length : Int))) (List.map g (c ++ s)) := by rw [rW_app, codesOf_one]
theorem cl_k {l : List (List Int × List Int)} {c s : List Int} : 0 + ((codesOf (l ++ [(c, s)])).length : Int) = 0 + ((codesOf l).length : Int) + (c.length : Int) + (s.length : Int) := by rw [codesOf_one]; dsimp only; rw [List.length_append, List.length_append]; omega
theorem cl_j {l : List (List Int × List Int)} {p : List Int × List Int} : 0 + ((l ++ [p]).length : Int) = 0 + (l.length : Int) + 1 := by rw [List.length_append, List.length_singleton]; omega
theorem cl_T {F : Int → Int} {x : Int} {l : List (List Int × List Int)} {p : List Int × List Int} : wrL F (x + 0) (tfOf 0 (l ++ [p])) = uZ (wrL F (x + 0) (tfOf 0 l)) (x + (0 + (l.length : Int))) (0 + ((codesOf l).length : Int)) := by rw [tfOf_one, wrL_app, (tfOf_len 0).1, wrL_one, Int.add_assoc]
theorem cl_S {F : Int → Int} {x : Int} {l : List (List Int × List Int)} {c s : List Int} : wrL F (x + 0) (sfOf 0 (l ++ [(c, s)])) = uZ (wrL F (x + 0) (sfOf 0 l)) (x + (0 + (l.length : Int))) (0 + ((codesOf l).length : Int) + (c.length : Int)) := by rw [sfOf_one, wrL_app, (tfOf_len 0).2.1, wrL_one, Int.add_assoc]
theorem cl_E {F : Int → Int} {x : Int} {l : List (List Int × List Int)} {c s : List Int} : wrL F (x + 0) (stOf 0 (l ++ [(c, s)])) = uZ (wrL F (x + 0) (stOf 0 l)) (x + (0 + (l.length : Int))) (0 + ((codesOf l).length : Int) + (c.length : Int) + (s.length : Int)) := by rw [stOf_one, wrL_app, (tfOf_len 0).2.2, wrL_one, Int.add_assoc]
theorem frp_l {tx : Int} {F : Int → Int} {l : List Int} (h : (l.length : Int) ≤ 90) : frp tx F (wrL F (90 * tx + 0) l) := fun i hi => by
  rcases Int.lt_or_le i (90 * tx + 0) with q | q
  · exact wrL_lo q
  · exact wrL_hi (by omega)
theorem frp_rT {tx : Int} {F : Int → Int} {l : List (List Int × List Int)} (h : (l.length : Int) ≤ 90) : frp tx F (wrL F (90 * tx + 0) (tfOf 0 l)) := frp_l (by rw [(tfOf_len 0).1]; exact h)
theorem frp_rS {tx : Int} {F : Int → Int} {l : List (List Int × List Int)} (h : (l.length : Int) ≤ 90) : frp tx F (wrL F (90 * tx + 0) (sfOf 0 l)) := frp_l (by rw [(tfOf_len 0).2.1]; exact h)
theorem frp_rE {tx : Int} {F : Int → Int} {l : List (List Int × List Int)} (h : (l.length : Int) ≤ 90) : frp tx F (wrL F (90 * tx + 0) (stOf 0 l)) := frp_l (by rw [(tfOf_len 0).2.2]; exact h)
theorem frp_wT {tx : Int} {F F2 : Int → Int} {l : List (List Int × List Int)} (h2 : frp tx (wrL F (90 * tx + 0) (tfOf 0 l)) F2) (h : (l.length : Int) ≤ 90) : frp tx F F2 := fun i hi => (h2 i hi).trans (frp_rT h i hi)
theorem frp_wS {tx : Int} {F F2 : Int → Int} {l : List (List Int × List Int)} (h2 : frp tx (wrL F (90 * tx + 0) (sfOf 0 l)) F2) (h : (l.length : Int) ≤ 90) : frp tx F F2 := fun i hi => (h2 i hi).trans (frp_rS h i hi)
theorem frp_wE {tx : Int} {F F2 : Int → Int} {l : List (List Int × List Int)} (h2 : frp tx (wrL F (90 * tx + 0) (stOf 0 l)) F2) (h : (l.length : Int) ≤ 90) : frp tx F F2 := fun i hi => (h2 i hi).trans (frp_rE h i hi)
theorem pLawS_in {T : Int → Int} {n a b : Int} {c s : List Int} (hn : n ≤ 160) (h0 : 0 ≤ a) (ha : a ≤ n) (h : pLawS T n a = .inr (b, c, s)) : a < b ∧ b ≤ n ∧ (c.length : Int) + (s.length : Int) + 2 ≤ b - a := by
  have h1 := (pLawC_ok (T := T) hn h0 ha).2 (b, joinC c s) (by rw [pLawC_S hn h0 ha, h]; rfl)
  have h2 : (c.length : Int) + (s.length : Int) + 1 ≤ ((joinC c s).length : Int) := by
    unfold joinC
    split
    · next e => rw [e]; simp only [List.length_append, List.length_singleton, List.length_nil]; omega
    · simp only [List.length_append, List.length_singleton]; omega
  dsimp only at h1
  omega
theorem pl_f {T : Int → Int} {n a e : Int} {f : Nat} {acc : List (List Int × List Int)} (h : pLawS T n a = .inl e) : pLawLS T n (f + 1) a acc = .inl e := by rw [pLawLS, h]
theorem pl_s {T : Int → Int} {n a b : Int} {f : Nat} {acc : List (List Int × List Int)} {p : List Int × List Int} (h : pLawS T n a = .inr (b, p)) (h2 : ch T n (sk T n b) = 59) : pLawLS T n (f + 1) a acc = pLawLS T n f (sk T n b + 1) (acc ++ [p]) := by rw [pLawLS, h]; dsimp only; rw [if_neg (by omega), if_pos h2]
theorem pl_e {T : Int → Int} {n a b : Int} {f : Nat} {acc : List (List Int × List Int)} {p : List Int × List Int} (h : pLawS T n a = .inr (b, p)) (h2 : ch T n (sk T n b) = 0) : pLawLS T n (f + 1) a acc = .inr (acc ++ [p]) := by rw [pLawLS, h]; dsimp only; rw [if_pos h2]
theorem pl_n {T : Int → Int} {n a b : Int} {f : Nat} {acc : List (List Int × List Int)} {p : List Int × List Int} (h : pLawS T n a = .inr (b, p)) (h2 : ¬ ch T n (sk T n b) = 0) (h3 : ¬ ch T n (sk T n b) = 59) : pLawLS T n (f + 1) a acc = .inl (sk T n b) := by rw [pLawLS, h]; dsimp only; rw [if_neg h2, if_neg h3]
set_option maxHeartbeats 4000000 in
set_option maxRecDepth 100000 in
theorem kX12_open (l : Launch) (h0 : Nat) (f : Nat → AV) (t0 : Int) (a : Int) (w : Int) (dp : Int) (hN : Nat) (hL : Nat) (Nk : Int → Int) (Lk : Int → Int) (tx : Int) (hf0 : f 8 = rv hN) (hf1 : f 9 = rv hL) (ht : 0 ≤ tx ∧ tx ≤ 4) : AMv l yX12_open cX12_open 2 0 0 0 [rv h0, iv tx] [(h0, ob 11 (uF (uF (uF (uF f 14 (iv t0)) 3 (iv a)) 4 (iv w)) 5 (iv dp))), (hN, ar 5 Nk), (hL, ar 5 Lk)] (fun u => u = [(h0, ob 11 (uF (uF (uF (uF f 14 (iv tx)) 3 (iv 0)) 4 (iv (-1))) 5 (iv 0))), (hN, ar 5 (uZ Nk tx 0)), (hL, ar 5 (uZ Lk tx 0))]) := by
  refine AMv.of2 rfl (nle rfl) ?_
  intro D G A p e s m args below meth c Po hPo hnm X
  refine S_aload_n X dX12_open_0 rfl rfl ?_
  refine S_iload_n X dX12_open_1 rfl rfl ?_
  refine S_put X fpX12_121_11 0 rfl FT_i dX12_open_2 ?_
  refine S_w (ws' := [(h0, ob 11 (uF (uF (uF (uF f 14 (iv tx)) 3 (iv a)) 4 (iv w)) 5 (iv dp))), (hN, ar 5 Nk), (hL, ar 5 Lk)]) (by simp only [List.set]; rw [uF_mv (j := 5) (k := 14) (by decide), uF_mv (j := 4) (k := 14) (by decide), uF_mv (j := 3) (k := 14) (by decide), uF_same (k := 14)]) ?_
  refine S_aload_n X dX12_open_5 rfl rfl ?_
  refine S_iconst X dX12_open_6 ?_
  refine S_put X fpX12_111_11 0 rfl FT_i dX12_open_7 ?_
  refine S_w (ws' := [(h0, ob 11 (uF (uF (uF (uF f 14 (iv tx)) 3 (iv 0)) 4 (iv w)) 5 (iv dp))), (hN, ar 5 Nk), (hL, ar 5 Lk)]) (by simp only [List.set]; rw [uF_mv (j := 5) (k := 3) (by decide), uF_mv (j := 4) (k := 3) (by decide), uF_same (k := 3)]) ?_
  refine S_aload_n X dX12_open_10 rfl rfl ?_
  refine S_iconst X dX12_open_11 ?_
  refine S_put X fpX12_118_11 0 rfl FT_i dX12_open_12 ?_
  refine S_w (ws' := [(h0, ob 11 (uF (uF (uF (uF f 14 (iv tx)) 3 (iv 0)) 4 (iv (-1))) 5 (iv dp))), (hN, ar 5 Nk), (hL, ar 5 Lk)]) (by simp only [List.set]; rw [uF_mv (j := 5) (k := 4) (by decide), uF_same (k := 4)]) ?_
  refine S_aload_n X dX12_open_15 rfl rfl ?_
  refine S_iconst X dX12_open_16 ?_
  refine S_put X fpX12_124_11 0 rfl FT_i dX12_open_17 ?_
  refine S_w (ws' := [(h0, ob 11 (uF (uF (uF (uF f 14 (iv tx)) 3 (iv 0)) 4 (iv (-1))) 5 (iv 0))), (hN, ar 5 Nk), (hL, ar 5 Lk)]) (by simp only [List.set]; rw [uF_same (k := 5)]) ?_
  refine S_aload_n X dX12_open_20 rfl rfl ?_
  refine S_get X fgX12_19_11 0 rfl hf0 dX12_open_21 ?_
  refine S_iload_n X dX12_open_24 rfl rfl ?_
  refine S_iconst X dX12_open_25 ?_
  refine S_iast X 1 rfl (by omega) (by omega) (nle rfl) dX12_open_26 ?_
  refine S_w (ws' := [(h0, ob 11 (uF (uF (uF (uF f 14 (iv tx)) 3 (iv 0)) 4 (iv (-1))) 5 (iv 0))), (hN, ar 5 (uZ Nk tx 0)), (hL, ar 5 Lk)]) rfl ?_
  refine S_aload_n X dX12_open_27 rfl rfl ?_
  refine S_get X fgX12_22_11 0 rfl hf1 dX12_open_28 ?_
  refine S_iload_n X dX12_open_31 rfl rfl ?_
  refine S_iconst X dX12_open_32 ?_
  refine S_iast X 2 rfl (by omega) (by omega) (nle rfl) dX12_open_33 ?_
  refine S_w (ws' := [(h0, ob 11 (uF (uF (uF (uF f 14 (iv tx)) 3 (iv 0)) 4 (iv (-1))) 5 (iv 0))), (hN, ar 5 (uZ Nk tx 0)), (hL, ar 5 (uZ Lk tx 0))]) rfl ?_
  exact S_vret X (nle rfl) (nle rfl) dX12_open_34 (hPo _ (rfl))
set_option maxHeartbeats 4000000 in
set_option maxRecDepth 100000 in
theorem kX12_atEnd_N (l : Launch) (h0 : Nat) (hT : Nat) (f : Nat → AV) (T : Int → Int) (n : Int) (a : Int) (w : Int) (dp : Int) (hf0 : f 1 = rv hT) (hf1 : f 2 = iv n) (okT : okT T n) (ha : 0 ≤ a ∧ a ≤ n) (hw : w = -1) : AMi l yX12_atEnd cX12_atEnd 1 .int 2 0 0 [rv h0] [(h0, ob 11 (uF (uF (uF f 3 (iv a)) 4 (iv w)) 5 (iv dp))), (hT, ar 160 T)] (fun z u => (z = (sk T n a) ∧ u = [(h0, ob 11 (uF (uF (uF f 3 (iv (sk T n a))) 4 (iv (sk T n a))) 5 (iv dp))), (hT, ar 160 T)] ∧ ¬ ch T n (sk T n a) = 0) ∨ (z = -1 ∧ u = [(h0, ob 11 (uF (uF (uF f 3 (iv (sk T n a))) 4 (iv (-1))) 5 (iv dp))), (hT, ar 160 T)] ∧ ch T n (sk T n a) = 0)) := by
  refine AMi.of2 rfl (nle rfl) ?_
  intro D G A p e s m args below meth c Po hPo X
  obtain ⟨hn0, hn1, hT2⟩ := id okT
  refine S_aload_n X dX12_atEnd_0 rfl rfl ?_
  refine S_get (v := iv w) X fgX12_118_11 0 rfl rfl dX12_atEnd_1 ?_
  refine S_iconst X dX12_atEnd_4 ?_
  refine S_icmp_ne (tgt := 20) X dX12_atEnd_5 (by decide) (by omega) (by decide) (fun c_1 => by exfalso; omega) (fun c_1 => ?_)
  refine S_aload_n X dX12_atEnd_8 rfl rfl ?_
  refine S_calli X (kX12_look l h0 hT f T n a w dp hf0 hf1 (by omega) (by omega)) (is := [0, 1]) rfl (run_V X lkX12_130 0 rfl rfl (is := [0, 1]) (avs := []) (rest := []) rfl rfl (nle rfl) ⟨nle rfl, nle rfl⟩ ⟨nle rfl, nle rfl⟩ dX12_atEnd_9 (by decide) rfl) (fun z_4 u_2 hp_3 => ?_)
  obtain ⟨hz_5, hu_6⟩ := hp_3
  subst hz_5
  subst hu_6
  refine ⟨rfl, ?_⟩
  refine S_w (ws' := [(h0, ob 11 (uF (uF (uF f 3 (iv (sk T n a))) 4 (iv w)) 5 (iv dp))), (hT, ar 160 T)]) rfl ?_
  have hsk := sk_in (T := T) ha.2
  have hcm := chM_or okT (a := sk T n a) (by omega) (by omega)
  refine S_iconst X dX12_atEnd_12 ?_
  refine S_icmp_eq (tgt := 20) X dX12_atEnd_13 (by decide) (by omega) (by decide) (fun c_7 => ?_) (fun c_7 => ?_)
  ·
    refine S_aload_n X dX12_atEnd_20 rfl rfl ?_
    refine S_w (ws' := [(h0, ob 11 (uF (uF (uF f 3 (iv (sk T n a))) 4 (iv (-1))) 5 (iv dp))), (hT, ar 160 T)]) (by rw [hw]) ?_
    refine S_get (v := iv (-1)) X fgX12_118_11 0 rfl rfl dX12_atEnd_21 ?_
    exact S_iret X (nle rfl) (nle rfl) dX12_atEnd_24 (hPo _ _ (Or.inr (⟨by first | rfl | omega, rfl, by first | rfl | assumption | omega⟩)))
  ·
    refine S_aload_n X dX12_atEnd_16 rfl rfl ?_
    refine S_callv X (kX12_bad l h0 f (sk T n a) w dp (by omega)) (is := [0]) rfl (run_V X lkX12_127 0 rfl rfl (is := [0]) (avs := []) (rest := []) rfl rfl (nle rfl) ⟨nle rfl, nle rfl⟩ ⟨nle rfl, nle rfl⟩ dX12_atEnd_17 (by decide) rfl) (fun u_8 hp_9 => ?_)
    have hu_12 := hp_9
    subst hu_12
    refine ⟨rfl, ?_⟩
    refine S_w (ws' := [(h0, ob 11 (uF (uF (uF f 3 (iv (sk T n a))) 4 (iv (sk T n a))) 5 (iv dp))), (hT, ar 160 T)]) rfl ?_
    refine S_aload_n X dX12_atEnd_20 rfl rfl ?_
    refine S_get (v := iv (sk T n a)) X fgX12_118_11 0 rfl rfl dX12_atEnd_21 ?_
    exact S_iret X (nle rfl) (nle rfl) dX12_atEnd_24 (hPo _ _ (Or.inl (⟨by first | rfl | omega, rfl, by first | rfl | assumption | omega⟩)))
set_option maxHeartbeats 4000000 in
set_option maxRecDepth 100000 in
theorem kX12_atEnd_E (l : Launch) (h0 : Nat) (f : Nat → AV) (a : Int) (w : Int) (dp : Int) (hw : ¬ w = -1) (hw2 : inR w) : AMi l yX12_atEnd cX12_atEnd 1 .int 2 0 0 [rv h0] [(h0, ob 11 (uF (uF (uF f 3 (iv a)) 4 (iv w)) 5 (iv dp)))] (fun z u => z = w ∧ u = [(h0, ob 11 (uF (uF (uF f 3 (iv a)) 4 (iv w)) 5 (iv dp)))]) := by
  refine AMi.of2 rfl (nle rfl) ?_
  intro D G A p e s m args below meth c Po hPo X
  refine S_aload_n X dX12_atEnd_0 rfl rfl ?_
  refine S_get (v := iv w) X fgX12_118_11 0 rfl rfl dX12_atEnd_1 ?_
  refine S_iconst X dX12_atEnd_4 ?_
  refine S_icmp_ne (tgt := 20) X dX12_atEnd_5 (by decide) (by omega) (by decide) (fun c_1 => ?_) (fun c_1 => by exfalso; omega)
  refine S_aload_n X dX12_atEnd_20 rfl rfl ?_
  refine S_get (v := iv w) X fgX12_118_11 0 rfl rfl dX12_atEnd_21 ?_
  exact S_iret X (nle rfl) (nle rfl) dX12_atEnd_24 (hPo _ _ (⟨by first | rfl | omega, rfl⟩))
set_option maxHeartbeats 4000000 in
set_option maxRecDepth 100000 in
theorem kX12_readLaw (l : Launch) (h0 : Nat) (hT : Nat) (f : Nat → AV) (T : Int → Int) (n : Int) (hC : Nat) (hV : Nat) (hN : Nat) (C : Int → Int) (V : Int → Int) (Nk : Int → Int) (tx : Int) (hL : Nat) (hTf : Nat) (hSf : Nat) (hEf : Nat) (Lk : Int → Int) (Tf : Int → Int) (Sf : Int → Int) (Ef : Int → Int) (t0 : Int) (a : Int) (w : Int) (dp : Int) (hf0 : f 1 = rv hT) (hf1 : f 2 = iv n) (hf2 : f 6 = rv hC) (hf3 : f 7 = rv hV) (hf4 : f 8 = rv hN) (hf5 : f 9 = rv hL) (hf6 : f 10 = rv hTf) (hf7 : f 11 = rv hSf) (hf8 : f 12 = rv hEf) (okT : okT T n) (ht : 0 ≤ tx ∧ tx ≤ 4) : AMi l yX12_readLaw cX12_readLaw 2 .int 40 0 0 [rv h0, iv tx] [(h0, ob 11 (uF (uF (uF (uF f 14 (iv t0)) 3 (iv a)) 4 (iv w)) 5 (iv dp))), (hT, ar 160 T), (hC, ar 1700 C), (hV, ar 1700 V), (hN, ar 5 Nk), (hL, ar 5 Lk), (hTf, ar 450 Tf), (hSf, ar 450 Sf), (hEf, ar 450 Ef)] (fun z u => (∃ a2 : Int, ∃ fl : Int, ∃ k2 : Int, ∃ dp2 : Int, ∃ j2 : Int, ∃ w2 : Int, ∃ C2 : Int → Int, ∃ V2 : Int → Int, ∃ Tf2 : Int → Int, ∃ Sf2 : Int → Int, ∃ Ef2 : Int → Int, z = fl ∧ u = [(h0, ob 11 (uF (uF (uF (uF f 14 (iv tx)) 3 (iv a2)) 4 (iv w2)) 5 (iv dp2))), (hT, ar 160 T), (hC, ar 1700 C2), (hV, ar 1700 V2), (hN, ar 5 (uZ Nk tx k2)), (hL, ar 5 (uZ Lk tx j2)), (hTf, ar 450 Tf2), (hSf, ar 450 Sf2), (hEf, ar 450 Ef2)] ∧ pLawLS T n 161 0 [] = .inl fl ∧ (0 ≤ fl ∧ fl ≤ n) ∧ frm tx C C2 ∧ frm tx V V2 ∧ frp tx Tf Tf2 ∧ frp tx Sf Sf2 ∧ frp tx Ef Ef2) ∨ (∃ a2 : Int, ∃ cs : List (List Int × List Int), z = -1 ∧ u = [(h0, ob 11 (uF (uF (uF (uF f 14 (iv tx)) 3 (iv a2)) 4 (iv (-1))) 5 (iv 0))), (hT, ar 160 T), (hC, ar 1700 (wrL C (340 * tx + 0) (List.map kC (codesOf cs)))), (hV, ar 1700 (wrL V (340 * tx + 0) (List.map kV (codesOf cs)))), (hN, ar 5 (uZ Nk tx (0 + ((codesOf cs).length : Int)))), (hL, ar 5 (uZ Lk tx (0 + ((cs).length : Int)))), (hTf, ar 450 (wrL Tf (90 * tx + 0) (tfOf 0 cs))), (hSf, ar 450 (wrL Sf (90 * tx + 0) (sfOf 0 cs))), (hEf, ar 450 (wrL Ef (90 * tx + 0) (stOf 0 cs)))] ∧ pLawLS T n 161 0 [] = .inr cs ∧ (((codesOf cs).length : Int) ≤ 160 ∧ 2 * (cs.length : Int) ≤ 160))) := by
  refine AMi.of2 rfl (nle rfl) ?_
  intro D G A p e s m args below meth c Po hPo X
  obtain ⟨hn0, hn1, hT2⟩ := id okT
  refine S_aload_n X dX12_readLaw_0 rfl rfl ?_
  refine S_iload_n X dX12_readLaw_1 rfl rfl ?_
  refine S_callv X (kX12_open l h0 f t0 a w dp hN hL Nk Lk tx hf4 hf5 (by omega)) (is := [0, 4, 5]) rfl (run_V X lkX12_182 0 rfl rfl (is := [0, 4, 5]) (avs := [iv tx]) (rest := []) rfl rfl (nle rfl) ⟨nle rfl, nle rfl⟩ ⟨nle rfl, nle rfl⟩ dX12_readLaw_2 (by decide) rfl) (fun u_1 hp_2 => ?_)
  have hu_5 := hp_2
  subst hu_5
  refine ⟨rfl, ?_⟩
  refine S_w (ws' := [(h0, ob 11 (uF (uF (uF (uF f 14 (iv tx)) 3 (iv 0)) 4 (iv (-1))) 5 (iv 0))), (hT, ar 160 T), (hC, ar 1700 C), (hV, ar 1700 V), (hN, ar 5 (uZ Nk tx 0)), (hL, ar 5 (uZ Lk tx 0)), (hTf, ar 450 Tf), (hSf, ar 450 Sf), (hEf, ar 450 Ef)]) rfl ?_
  refine S_w (ws' := [(h0, ob 11 (uF (uF (uF (uF f 14 (iv tx)) 3 (iv 0)) 4 (iv (-1))) 5 (iv 0))), (hT, ar 160 T), (hC, ar 1700 (wrL C (340 * tx + 0) (List.map kC (codesOf ([] : List (List Int × List Int)))))), (hV, ar 1700 (wrL V (340 * tx + 0) (List.map kV (codesOf ([] : List (List Int × List Int)))))), (hN, ar 5 (uZ Nk tx (0 + ((codesOf ([] : List (List Int × List Int))).length : Int)))), (hL, ar 5 (uZ Lk tx (0 + ((([] : List (List Int × List Int))).length : Int)))), (hTf, ar 450 (wrL Tf (90 * tx + 0) (tfOf 0 ([] : List (List Int × List Int))))), (hSf, ar 450 (wrL Sf (90 * tx + 0) (sfOf 0 ([] : List (List Int × List Int))))), (hEf, ar 450 (wrL Ef (90 * tx + 0) (stOf 0 ([] : List (List Int × List Int)))))]) rfl ?_
  have hn_8 : ((codesOf ([] : List (List Int × List Int))).length : Int) = 0 := rfl
  have hn_9 : ((([] : List (List Int × List Int))).length : Int) = 0 := rfl
  refine S_aload_n X dX12_readLaw_5 rfl rfl ?_
  refine S_callv X (kX12_clause l h0 hT (uF f 14 (iv tx)) T n 0 hC hV hN (wrL C (340 * tx + 0) (List.map kC (codesOf ([] : List (List Int × List Int))))) (wrL V (340 * tx + 0) (List.map kV (codesOf ([] : List (List Int × List Int))))) Nk tx (0 + ((codesOf ([] : List (List Int × List Int))).length : Int)) hL hTf hSf hEf Lk (wrL Tf (90 * tx + 0) (tfOf 0 ([] : List (List Int × List Int)))) (wrL Sf (90 * tx + 0) (sfOf 0 ([] : List (List Int × List Int)))) (wrL Ef (90 * tx + 0) (stOf 0 ([] : List (List Int × List Int)))) (0 + ((([] : List (List Int × List Int))).length : Int)) hf0 hf1 hf2 hf3 hf4 rfl hf5 hf6 hf7 hf8 (by omega) (by omega) (by omega) (by omega) (by omega)) (is := [0, 1, 2, 3, 4, 5, 6, 7, 8]) rfl (run_V X lkX12_185 0 rfl rfl (is := [0, 1, 2, 3, 4, 5, 6, 7, 8]) (avs := []) (rest := []) rfl rfl (nle rfl) ⟨nle rfl, nle rfl⟩ ⟨nle rfl, nle rfl⟩ dX12_readLaw_6 (by decide) rfl) (fun u_6 hp_7 => ?_)
  rcases hp_7 with ⟨a2_9, fl_10, k2_11, dp2_12, j2_13, C2_14, V2_15, Tf2_16, Sf2_17, Ef2_18, hu_20, hq_21, hfl_22, hfC_23, hfV_24, hfT_25, hfS_26, hfE_27⟩ | ⟨a2_28, c_29, s_30, hu_32, hq_33⟩
  ·
    subst hu_20
    refine ⟨rfl, ?_⟩
    refine S_w (ws' := [(h0, ob 11 (uF (uF (uF (uF f 14 (iv tx)) 3 (iv a2_9)) 4 (iv fl_10)) 5 (iv dp2_12))), (hT, ar 160 T), (hC, ar 1700 C2_14), (hV, ar 1700 V2_15), (hN, ar 5 (uZ Nk tx k2_11)), (hL, ar 5 (uZ Lk tx j2_13)), (hTf, ar 450 Tf2_16), (hSf, ar 450 Sf2_17), (hEf, ar 450 Ef2_18)]) rfl ?_
    refine S_aload_n X dX12_readLaw_9 rfl rfl ?_
    refine S_get (v := iv fl_10) X fgX12_118_11 0 rfl rfl dX12_readLaw_10 ?_
    refine S_iconst X dX12_readLaw_13 ?_
    refine S_icmp_ne (tgt := 43) X dX12_readLaw_14 (by decide) (by omega) (by decide) (fun c_34 => ?_) (fun c_34 => by exfalso; omega)
    refine S_aload_n X dX12_readLaw_43 rfl rfl ?_
    refine S_calli X (kX12_atEnd_E l h0 (uF f 14 (iv tx)) a2_9 fl_10 dp2_12 (by omega) (by omega)) (is := [0]) rfl (run_V X lkX12_188 0 rfl rfl (is := [0]) (avs := []) (rest := []) rfl rfl (nle rfl) ⟨nle rfl, nle rfl⟩ ⟨nle rfl, nle rfl⟩ dX12_readLaw_44 (by decide) rfl) (fun z_37 u_35 hp_36 => ?_)
    obtain ⟨hz_38, hu_39⟩ := hp_36
    replace hz_38 := Eq.symm hz_38
    subst hz_38
    subst hu_39
    refine ⟨rfl, ?_⟩
    refine S_w (ws' := [(h0, ob 11 (uF (uF (uF (uF f 14 (iv tx)) 3 (iv a2_9)) 4 (iv fl_10)) 5 (iv dp2_12))), (hT, ar 160 T), (hC, ar 1700 C2_14), (hV, ar 1700 V2_15), (hN, ar 5 (uZ Nk tx k2_11)), (hL, ar 5 (uZ Lk tx j2_13)), (hTf, ar 450 Tf2_16), (hSf, ar 450 Sf2_17), (hEf, ar 450 Ef2_18)]) rfl ?_
    exact S_iret X (nle rfl) (nle rfl) dX12_readLaw_47 (hPo _ _ (Or.inl ⟨_, _, _, _, _, _, _, _, _, _, _, rfl, rfl, Eq.trans (rfl : pLawLS T n 161 0 [] = pLawLS T n (160 + 1) 0 []) (pl_f hq_21), by omega, by first | exact frm_r (k := 0) (by omega) (by omega) | exact frm_w (k := 0) (by assumption) (by omega) (by omega) | exact frm_0 | assumption | exact frm_r (by omega) (by omega) | exact frm_w (by assumption) (by omega) (by omega) | exact frm_p frm_0 (by omega) | exact frm_p (by assumption) (by omega) | exact frm_p (frm_w (by assumption) (by omega) (by omega)) (by omega), by first | exact frm_r (k := 0) (by omega) (by omega) | exact frm_w (k := 0) (by assumption) (by omega) (by omega) | exact frm_0 | assumption | exact frm_r (by omega) (by omega) | exact frm_w (by assumption) (by omega) (by omega) | exact frm_p frm_0 (by omega) | exact frm_p (by assumption) (by omega) | exact frm_p (frm_w (by assumption) (by omega) (by omega)) (by omega), by first | assumption | exact frp_rT (by omega) | exact frp_rS (by omega) | exact frp_rE (by omega) | exact frp_wT (by assumption) (by omega) | exact frp_wS (by assumption) (by omega) | exact frp_wE (by assumption) (by omega), by first | assumption | exact frp_rT (by omega) | exact frp_rS (by omega) | exact frp_rE (by omega) | exact frp_wT (by assumption) (by omega) | exact frp_wS (by assumption) (by omega) | exact frp_wE (by assumption) (by omega), by first | assumption | exact frp_rT (by omega) | exact frp_rS (by omega) | exact frp_rE (by omega) | exact frp_wT (by assumption) (by omega) | exact frp_wS (by assumption) (by omega) | exact frp_wE (by assumption) (by omega)⟩))
  ·
    subst hu_32
    refine ⟨rfl, ?_⟩
    refine S_w (ws' := [(h0, ob 11 (uF (uF (uF (uF f 14 (iv tx)) 3 (iv a2_28)) 4 (iv (-1))) 5 (iv 0))), (hT, ar 160 T), (hC, ar 1700 (wrL (wrL C (340 * tx + 0) (List.map kC (codesOf ([] : List (List Int × List Int))))) (340 * tx + (0 + ((codesOf ([] : List (List Int × List Int))).length : Int))) (List.map kC (c_29 ++ s_30)))), (hV, ar 1700 (wrL (wrL V (340 * tx + 0) (List.map kV (codesOf ([] : List (List Int × List Int))))) (340 * tx + (0 + ((codesOf ([] : List (List Int × List Int))).length : Int))) (List.map kV (c_29 ++ s_30)))), (hN, ar 5 (uZ Nk tx ((0 + ((codesOf ([] : List (List Int × List Int))).length : Int)) + (c_29.length : Int) + (s_30.length : Int)))), (hL, ar 5 (uZ Lk tx ((0 + ((([] : List (List Int × List Int))).length : Int)) + 1))), (hTf, ar 450 (uZ (wrL Tf (90 * tx + 0) (tfOf 0 ([] : List (List Int × List Int)))) (90 * tx + (0 + ((([] : List (List Int × List Int))).length : Int))) (0 + ((codesOf ([] : List (List Int × List Int))).length : Int)))), (hSf, ar 450 (uZ (wrL Sf (90 * tx + 0) (sfOf 0 ([] : List (List Int × List Int)))) (90 * tx + (0 + ((([] : List (List Int × List Int))).length : Int))) ((0 + ((codesOf ([] : List (List Int × List Int))).length : Int)) + (c_29.length : Int)))), (hEf, ar 450 (uZ (wrL Ef (90 * tx + 0) (stOf 0 ([] : List (List Int × List Int)))) (90 * tx + (0 + ((([] : List (List Int × List Int))).length : Int))) ((0 + ((codesOf ([] : List (List Int × List Int))).length : Int)) + (c_29.length : Int) + (s_30.length : Int))))]) rfl ?_
    refine S_w (ws' := [(h0, ob 11 (uF (uF (uF (uF f 14 (iv tx)) 3 (iv a2_28)) 4 (iv (-1))) 5 (iv 0))), (hT, ar 160 T), (hC, ar 1700 (wrL C (340 * tx + 0) (List.map kC (codesOf (([] : List (List Int × List Int)) ++ [(c_29, s_30)]))))), (hV, ar 1700 (wrL V (340 * tx + 0) (List.map kV (codesOf (([] : List (List Int × List Int)) ++ [(c_29, s_30)]))))), (hN, ar 5 (uZ Nk tx (0 + ((codesOf (([] : List (List Int × List Int)) ++ [(c_29, s_30)])).length : Int)))), (hL, ar 5 (uZ Lk tx (0 + ((([] : List (List Int × List Int)) ++ [(c_29, s_30)]).length : Int)))), (hTf, ar 450 (wrL Tf (90 * tx + 0) (tfOf 0 (([] : List (List Int × List Int)) ++ [(c_29, s_30)])))), (hSf, ar 450 (wrL Sf (90 * tx + 0) (sfOf 0 (([] : List (List Int × List Int)) ++ [(c_29, s_30)])))), (hEf, ar 450 (wrL Ef (90 * tx + 0) (stOf 0 (([] : List (List Int × List Int)) ++ [(c_29, s_30)]))))]) (by rw [cl_C, cl_C, cl_k, cl_j, cl_T, cl_S, cl_E]) ?_
    have ho_40 := pLawS_in hn1 (by omega) (by omega) hq_33
    have hk_40 := cl_k (l := ([] : List (List Int × List Int))) (c := c_29) (s := s_30)
    have hj_40 := cl_j (l := ([] : List (List Int × List Int))) (p := (c_29, s_30))
    have hsk_40 := sk_in (T := T) (n := n) (a := a2_28) (by omega)
    have hcm_40 := chM_or okT (a := sk T n a2_28) (by omega) (by omega)
    refine S_aload_n X dX12_readLaw_9 rfl rfl ?_
    refine S_get (v := iv (-1)) X fgX12_118_11 0 rfl rfl dX12_readLaw_10 ?_
    refine S_iconst X dX12_readLaw_13 ?_
    refine S_icmp_ne (tgt := 43) X dX12_readLaw_14 (by decide) (by decide) (by decide) (fun h9 => absurd h9 (by decide)) (fun _ => ?_)
    refine S_aload_n X dX12_readLaw_17 rfl rfl ?_
    refine S_calli X (kX12_look l h0 hT (uF f 14 (iv tx)) T n a2_28 (-1) 0 hf0 hf1 (by omega) (by omega)) (is := [0, 1]) rfl (run_V X lkX12_130 0 rfl rfl (is := [0, 1]) (avs := []) (rest := []) rfl rfl (nle rfl) ⟨nle rfl, nle rfl⟩ ⟨nle rfl, nle rfl⟩ dX12_readLaw_18 (by decide) rfl) (fun z_44 u_42 hp_43 => ?_)
    obtain ⟨hz_45, hu_46⟩ := hp_43
    subst hz_45
    subst hu_46
    refine ⟨rfl, ?_⟩
    refine S_w (ws' := [(h0, ob 11 (uF (uF (uF (uF f 14 (iv tx)) 3 (iv (sk T n a2_28))) 4 (iv (-1))) 5 (iv 0))), (hT, ar 160 T), (hC, ar 1700 (wrL C (340 * tx + 0) (List.map kC (codesOf (([] : List (List Int × List Int)) ++ [(c_29, s_30)]))))), (hV, ar 1700 (wrL V (340 * tx + 0) (List.map kV (codesOf (([] : List (List Int × List Int)) ++ [(c_29, s_30)]))))), (hN, ar 5 (uZ Nk tx (0 + ((codesOf (([] : List (List Int × List Int)) ++ [(c_29, s_30)])).length : Int)))), (hL, ar 5 (uZ Lk tx (0 + ((([] : List (List Int × List Int)) ++ [(c_29, s_30)]).length : Int)))), (hTf, ar 450 (wrL Tf (90 * tx + 0) (tfOf 0 (([] : List (List Int × List Int)) ++ [(c_29, s_30)])))), (hSf, ar 450 (wrL Sf (90 * tx + 0) (sfOf 0 (([] : List (List Int × List Int)) ++ [(c_29, s_30)])))), (hEf, ar 450 (wrL Ef (90 * tx + 0) (stOf 0 (([] : List (List Int × List Int)) ++ [(c_29, s_30)]))))]) rfl ?_
    refine S_bipush X dX12_readLaw_21 rfl ?_
    refine S_icmp_ne (tgt := 43) X dX12_readLaw_23 (by decide) (by omega) (by decide) (fun c_47 => ?_) (fun c_47 => ?_)
    ·
      refine S_aload_n X dX12_readLaw_43 rfl rfl ?_
      refine S_calli X (kX12_atEnd_N l h0 hT (uF f 14 (iv tx)) T n (sk T n a2_28) (-1) 0 hf0 hf1 (by omega) (by omega) (by omega)) (is := [0, 1]) rfl (run_V X lkX12_188 0 rfl rfl (is := [0, 1]) (avs := []) (rest := []) rfl rfl (nle rfl) ⟨nle rfl, nle rfl⟩ ⟨nle rfl, nle rfl⟩ dX12_readLaw_44 (by decide) rfl) (fun z_50 u_48 hp_49 => ?_)
      rcases hp_49 with ⟨hz_51, hu_52, hq_53⟩ | ⟨hz_54, hu_55, hq_56⟩
      ·
        subst hz_51
        subst hu_52
        refine ⟨rfl, ?_⟩
        refine S_w (ws' := [(h0, ob 11 (uF (uF (uF (uF f 14 (iv tx)) 3 (iv (sk T n (sk T n a2_28)))) 4 (iv (sk T n (sk T n a2_28)))) 5 (iv 0))), (hT, ar 160 T), (hC, ar 1700 (wrL C (340 * tx + 0) (List.map kC (codesOf (([] : List (List Int × List Int)) ++ [(c_29, s_30)]))))), (hV, ar 1700 (wrL V (340 * tx + 0) (List.map kV (codesOf (([] : List (List Int × List Int)) ++ [(c_29, s_30)]))))), (hN, ar 5 (uZ Nk tx (0 + ((codesOf (([] : List (List Int × List Int)) ++ [(c_29, s_30)])).length : Int)))), (hL, ar 5 (uZ Lk tx (0 + ((([] : List (List Int × List Int)) ++ [(c_29, s_30)]).length : Int)))), (hTf, ar 450 (wrL Tf (90 * tx + 0) (tfOf 0 (([] : List (List Int × List Int)) ++ [(c_29, s_30)])))), (hSf, ar 450 (wrL Sf (90 * tx + 0) (sfOf 0 (([] : List (List Int × List Int)) ++ [(c_29, s_30)])))), (hEf, ar 450 (wrL Ef (90 * tx + 0) (stOf 0 (([] : List (List Int × List Int)) ++ [(c_29, s_30)]))))]) rfl ?_
        rw [sk_idem (a := a2_28)] at hq_53
        rw [sk_idem (a := a2_28)]
        exact S_iret X (nle rfl) (nle rfl) dX12_readLaw_47 (hPo _ _ (Or.inl ⟨_, _, _, _, _, _, _, _, _, _, _, rfl, rfl, Eq.trans (rfl : pLawLS T n 161 0 [] = pLawLS T n (160 + 1) 0 []) (pl_n hq_33 hq_53 (by omega)), by omega, by first | exact frm_r (k := 0) (by omega) (by omega) | exact frm_w (k := 0) (by assumption) (by omega) (by omega) | exact frm_0 | assumption | exact frm_r (by omega) (by omega) | exact frm_w (by assumption) (by omega) (by omega) | exact frm_p frm_0 (by omega) | exact frm_p (by assumption) (by omega) | exact frm_p (frm_w (by assumption) (by omega) (by omega)) (by omega), by first | exact frm_r (k := 0) (by omega) (by omega) | exact frm_w (k := 0) (by assumption) (by omega) (by omega) | exact frm_0 | assumption | exact frm_r (by omega) (by omega) | exact frm_w (by assumption) (by omega) (by omega) | exact frm_p frm_0 (by omega) | exact frm_p (by assumption) (by omega) | exact frm_p (frm_w (by assumption) (by omega) (by omega)) (by omega), by first | assumption | exact frp_rT (by omega) | exact frp_rS (by omega) | exact frp_rE (by omega) | exact frp_wT (by assumption) (by omega) | exact frp_wS (by assumption) (by omega) | exact frp_wE (by assumption) (by omega), by first | assumption | exact frp_rT (by omega) | exact frp_rS (by omega) | exact frp_rE (by omega) | exact frp_wT (by assumption) (by omega) | exact frp_wS (by assumption) (by omega) | exact frp_wE (by assumption) (by omega), by first | assumption | exact frp_rT (by omega) | exact frp_rS (by omega) | exact frp_rE (by omega) | exact frp_wT (by assumption) (by omega) | exact frp_wS (by assumption) (by omega) | exact frp_wE (by assumption) (by omega)⟩))
      ·
        subst hz_54
        subst hu_55
        refine ⟨rfl, ?_⟩
        refine S_w (ws' := [(h0, ob 11 (uF (uF (uF (uF f 14 (iv tx)) 3 (iv (sk T n (sk T n a2_28)))) 4 (iv (-1))) 5 (iv 0))), (hT, ar 160 T), (hC, ar 1700 (wrL C (340 * tx + 0) (List.map kC (codesOf (([] : List (List Int × List Int)) ++ [(c_29, s_30)]))))), (hV, ar 1700 (wrL V (340 * tx + 0) (List.map kV (codesOf (([] : List (List Int × List Int)) ++ [(c_29, s_30)]))))), (hN, ar 5 (uZ Nk tx (0 + ((codesOf (([] : List (List Int × List Int)) ++ [(c_29, s_30)])).length : Int)))), (hL, ar 5 (uZ Lk tx (0 + ((([] : List (List Int × List Int)) ++ [(c_29, s_30)]).length : Int)))), (hTf, ar 450 (wrL Tf (90 * tx + 0) (tfOf 0 (([] : List (List Int × List Int)) ++ [(c_29, s_30)])))), (hSf, ar 450 (wrL Sf (90 * tx + 0) (sfOf 0 (([] : List (List Int × List Int)) ++ [(c_29, s_30)])))), (hEf, ar 450 (wrL Ef (90 * tx + 0) (stOf 0 (([] : List (List Int × List Int)) ++ [(c_29, s_30)]))))]) rfl ?_
        rw [sk_idem (a := a2_28)] at hq_56
        rw [sk_idem (a := a2_28)]
        exact S_iret X (nle rfl) (nle rfl) dX12_readLaw_47 (hPo _ _ (Or.inr ⟨_, ([] : List (List Int × List Int)) ++ [(c_29, s_30)], rfl, rfl, Eq.trans (rfl : pLawLS T n 161 0 [] = pLawLS T n (160 + 1) 0 []) (pl_e hq_33 hq_56), by omega⟩))
    ·
      have lp26_2 : ∀ (N : Nat) (a1 : Int) (cs : List (List Int × List Int)) (L : Nat → Option AV), 0 ≤ a1 ∧ a1 ≤ n → sk T n a1 < n → ch T n (sk T n a1) = 59 → ((codesOf cs).length : Int) ≤ a1 ∧ 2 * (cs.length : Int) ≤ a1 → (∃ f : Nat, 161 - a1 ≤ f ∧ pLawLS T n f (sk T n a1 + 1) cs = pLawLS T n 161 0 []) → L 0 = some (rv h0) → L 1 = some (iv tx) → 161 - a1 < (N : Int) → S_ p l e (rmD 40 0 0) s m args below meth c (MQ below (QcI D G A Po) args s 0 0 A) D G A 2 0 0 26 L [] [(h0, ob 11 (uF (uF (uF (uF f 14 (iv tx)) 3 (iv (sk T n a1))) 4 (iv (-1))) 5 (iv 0))), (hT, ar 160 T), (hC, ar 1700 (wrL C (340 * tx + 0) (List.map kC (codesOf cs)))), (hV, ar 1700 (wrL V (340 * tx + 0) (List.map kV (codesOf cs)))), (hN, ar 5 (uZ Nk tx (0 + ((codesOf cs).length : Int)))), (hL, ar 5 (uZ Lk tx (0 + ((cs).length : Int)))), (hTf, ar 450 (wrL Tf (90 * tx + 0) (tfOf 0 cs))), (hSf, ar 450 (wrL Sf (90 * tx + 0) (sfOf 0 cs))), (hEf, ar 450 (wrL Ef (90 * tx + 0) (stOf 0 cs)))] := by
        intro N
        induction N with
        | zero =>
          intro a1 cs L26 hi hlt hc1 hbd hkl hL26_0 hL26_1 hN26
          exfalso; omega
        | succ N ih26 =>
          intro a1 cs L26 hi hlt hc1 hbd hkl hL26_0 hL26_1 hN26
          obtain ⟨f9, hf9, hk9⟩ := hkl
          obtain ⟨g9, rfl⟩ : ∃ g, f9 = g + 1 := ⟨f9 - 1, by omega⟩
          have hsk1 := sk_in (T := T) (n := n) (a := a1) (by omega)
          refine S_aload_n X dX12_readLaw_26 rfl hL26_0 ?_
          refine S_dup X dX12_readLaw_27 ?_
          refine S_get (v := iv (sk T n a1)) X fgX12_111_11 0 rfl rfl dX12_readLaw_28 ?_
          refine S_iconst X dX12_readLaw_31 ?_
          refine S_iadd X dX12_readLaw_32 ?_
          refine S_put X fpX12_111_11 0 rfl FT_i dX12_readLaw_33 ?_
          refine S_w (ws' := [(h0, ob 11 (uF (uF (uF (uF f 14 (iv tx)) 3 (iv ((sk T n a1) + 1))) 4 (iv (-1))) 5 (iv 0))), (hT, ar 160 T), (hC, ar 1700 (wrL C (340 * tx + 0) (List.map kC (codesOf cs)))), (hV, ar 1700 (wrL V (340 * tx + 0) (List.map kV (codesOf cs)))), (hN, ar 5 (uZ Nk tx (0 + ((codesOf cs).length : Int)))), (hL, ar 5 (uZ Lk tx (0 + ((cs).length : Int)))), (hTf, ar 450 (wrL Tf (90 * tx + 0) (tfOf 0 cs))), (hSf, ar 450 (wrL Sf (90 * tx + 0) (sfOf 0 cs))), (hEf, ar 450 (wrL Ef (90 * tx + 0) (stOf 0 cs)))]) (by simp only [List.set]; rw [uF_mv (j := 5) (k := 3) (by decide), uF_mv (j := 4) (k := 3) (by decide), uF_same (k := 3)]) ?_
          refine S_aload_n X dX12_readLaw_36 rfl hL26_0 ?_
          refine S_callv X (kX12_clause l h0 hT (uF f 14 (iv tx)) T n ((sk T n a1) + 1) hC hV hN (wrL C (340 * tx + 0) (List.map kC (codesOf cs))) (wrL V (340 * tx + 0) (List.map kV (codesOf cs))) Nk tx (0 + ((codesOf cs).length : Int)) hL hTf hSf hEf Lk (wrL Tf (90 * tx + 0) (tfOf 0 cs)) (wrL Sf (90 * tx + 0) (sfOf 0 cs)) (wrL Ef (90 * tx + 0) (stOf 0 cs)) (0 + ((cs).length : Int)) hf0 hf1 hf2 hf3 hf4 rfl hf5 hf6 hf7 hf8 (by omega) (by omega) (by omega) (by omega) (by omega)) (is := [0, 1, 2, 3, 4, 5, 6, 7, 8]) rfl (run_V X lkX12_185 0 rfl rfl (is := [0, 1, 2, 3, 4, 5, 6, 7, 8]) (avs := []) (rest := []) rfl rfl (nle rfl) ⟨nle rfl, nle rfl⟩ ⟨nle rfl, nle rfl⟩ dX12_readLaw_37 (by decide) rfl) (fun u_57 hp_58 => ?_)
          rcases hp_58 with ⟨a2_60, fl_61, k2_62, dp2_63, j2_64, C2_65, V2_66, Tf2_67, Sf2_68, Ef2_69, hu_71, hq_72, hfl_73, hfC_74, hfV_75, hfT_76, hfS_77, hfE_78⟩ | ⟨a2_79, c_80, s_81, hu_83, hq_84⟩
          ·
            subst hu_71
            refine ⟨rfl, ?_⟩
            refine S_w (ws' := [(h0, ob 11 (uF (uF (uF (uF f 14 (iv tx)) 3 (iv a2_60)) 4 (iv fl_61)) 5 (iv dp2_63))), (hT, ar 160 T), (hC, ar 1700 C2_65), (hV, ar 1700 V2_66), (hN, ar 5 (uZ Nk tx k2_62)), (hL, ar 5 (uZ Lk tx j2_64)), (hTf, ar 450 Tf2_67), (hSf, ar 450 Sf2_68), (hEf, ar 450 Ef2_69)]) rfl ?_
            refine S_goto (tgt := 9) X dX12_readLaw_40 (by decide) ?_
            refine S_aload_n X dX12_readLaw_9 rfl hL26_0 ?_
            refine S_get (v := iv fl_61) X fgX12_118_11 0 rfl rfl dX12_readLaw_10 ?_
            refine S_iconst X dX12_readLaw_13 ?_
            refine S_icmp_ne (tgt := 43) X dX12_readLaw_14 (by decide) (by omega) (by decide) (fun c_85 => ?_) (fun c_85 => by exfalso; omega)
            refine S_aload_n X dX12_readLaw_43 rfl hL26_0 ?_
            refine S_calli X (kX12_atEnd_E l h0 (uF f 14 (iv tx)) a2_60 fl_61 dp2_63 (by omega) (by omega)) (is := [0]) rfl (run_V X lkX12_188 0 rfl rfl (is := [0]) (avs := []) (rest := []) rfl rfl (nle rfl) ⟨nle rfl, nle rfl⟩ ⟨nle rfl, nle rfl⟩ dX12_readLaw_44 (by decide) rfl) (fun z_88 u_86 hp_87 => ?_)
            obtain ⟨hz_89, hu_90⟩ := hp_87
            replace hz_89 := Eq.symm hz_89
            subst hz_89
            subst hu_90
            refine ⟨rfl, ?_⟩
            refine S_w (ws' := [(h0, ob 11 (uF (uF (uF (uF f 14 (iv tx)) 3 (iv a2_60)) 4 (iv fl_61)) 5 (iv dp2_63))), (hT, ar 160 T), (hC, ar 1700 C2_65), (hV, ar 1700 V2_66), (hN, ar 5 (uZ Nk tx k2_62)), (hL, ar 5 (uZ Lk tx j2_64)), (hTf, ar 450 Tf2_67), (hSf, ar 450 Sf2_68), (hEf, ar 450 Ef2_69)]) rfl ?_
            exact S_iret X (nle rfl) (nle rfl) dX12_readLaw_47 (hPo _ _ (Or.inl ⟨_, _, _, _, _, _, _, _, _, _, _, rfl, rfl, hk9.symm.trans (pl_f hq_72), by omega, by first | exact frm_r (k := 0) (by omega) (by omega) | exact frm_w (k := 0) (by assumption) (by omega) (by omega) | exact frm_0 | assumption | exact frm_r (by omega) (by omega) | exact frm_w (by assumption) (by omega) (by omega) | exact frm_p frm_0 (by omega) | exact frm_p (by assumption) (by omega) | exact frm_p (frm_w (by assumption) (by omega) (by omega)) (by omega), by first | exact frm_r (k := 0) (by omega) (by omega) | exact frm_w (k := 0) (by assumption) (by omega) (by omega) | exact frm_0 | assumption | exact frm_r (by omega) (by omega) | exact frm_w (by assumption) (by omega) (by omega) | exact frm_p frm_0 (by omega) | exact frm_p (by assumption) (by omega) | exact frm_p (frm_w (by assumption) (by omega) (by omega)) (by omega), by first | assumption | exact frp_rT (by omega) | exact frp_rS (by omega) | exact frp_rE (by omega) | exact frp_wT (by assumption) (by omega) | exact frp_wS (by assumption) (by omega) | exact frp_wE (by assumption) (by omega), by first | assumption | exact frp_rT (by omega) | exact frp_rS (by omega) | exact frp_rE (by omega) | exact frp_wT (by assumption) (by omega) | exact frp_wS (by assumption) (by omega) | exact frp_wE (by assumption) (by omega), by first | assumption | exact frp_rT (by omega) | exact frp_rS (by omega) | exact frp_rE (by omega) | exact frp_wT (by assumption) (by omega) | exact frp_wS (by assumption) (by omega) | exact frp_wE (by assumption) (by omega)⟩))
          ·
            subst hu_83
            refine ⟨rfl, ?_⟩
            refine S_w (ws' := [(h0, ob 11 (uF (uF (uF (uF f 14 (iv tx)) 3 (iv a2_79)) 4 (iv (-1))) 5 (iv 0))), (hT, ar 160 T), (hC, ar 1700 (wrL (wrL C (340 * tx + 0) (List.map kC (codesOf cs))) (340 * tx + (0 + ((codesOf cs).length : Int))) (List.map kC (c_80 ++ s_81)))), (hV, ar 1700 (wrL (wrL V (340 * tx + 0) (List.map kV (codesOf cs))) (340 * tx + (0 + ((codesOf cs).length : Int))) (List.map kV (c_80 ++ s_81)))), (hN, ar 5 (uZ Nk tx ((0 + ((codesOf cs).length : Int)) + (c_80.length : Int) + (s_81.length : Int)))), (hL, ar 5 (uZ Lk tx ((0 + ((cs).length : Int)) + 1))), (hTf, ar 450 (uZ (wrL Tf (90 * tx + 0) (tfOf 0 cs)) (90 * tx + (0 + ((cs).length : Int))) (0 + ((codesOf cs).length : Int)))), (hSf, ar 450 (uZ (wrL Sf (90 * tx + 0) (sfOf 0 cs)) (90 * tx + (0 + ((cs).length : Int))) ((0 + ((codesOf cs).length : Int)) + (c_80.length : Int)))), (hEf, ar 450 (uZ (wrL Ef (90 * tx + 0) (stOf 0 cs)) (90 * tx + (0 + ((cs).length : Int))) ((0 + ((codesOf cs).length : Int)) + (c_80.length : Int) + (s_81.length : Int))))]) rfl ?_
            refine S_w (ws' := [(h0, ob 11 (uF (uF (uF (uF f 14 (iv tx)) 3 (iv a2_79)) 4 (iv (-1))) 5 (iv 0))), (hT, ar 160 T), (hC, ar 1700 (wrL C (340 * tx + 0) (List.map kC (codesOf (cs ++ [(c_80, s_81)]))))), (hV, ar 1700 (wrL V (340 * tx + 0) (List.map kV (codesOf (cs ++ [(c_80, s_81)]))))), (hN, ar 5 (uZ Nk tx (0 + ((codesOf (cs ++ [(c_80, s_81)])).length : Int)))), (hL, ar 5 (uZ Lk tx (0 + ((cs ++ [(c_80, s_81)]).length : Int)))), (hTf, ar 450 (wrL Tf (90 * tx + 0) (tfOf 0 (cs ++ [(c_80, s_81)])))), (hSf, ar 450 (wrL Sf (90 * tx + 0) (sfOf 0 (cs ++ [(c_80, s_81)])))), (hEf, ar 450 (wrL Ef (90 * tx + 0) (stOf 0 (cs ++ [(c_80, s_81)]))))]) (by rw [cl_C, cl_C, cl_k, cl_j, cl_T, cl_S, cl_E]) ?_
            have ho_91 := pLawS_in hn1 (by omega) (by omega) hq_84
            have hk_91 := cl_k (l := cs) (c := c_80) (s := s_81)
            have hj_91 := cl_j (l := cs) (p := (c_80, s_81))
            have hsk_91 := sk_in (T := T) (n := n) (a := a2_79) (by omega)
            have hcm_91 := chM_or okT (a := sk T n a2_79) (by omega) (by omega)
            refine S_goto (tgt := 9) X dX12_readLaw_40 (by decide) ?_
            refine S_aload_n X dX12_readLaw_9 rfl hL26_0 ?_
            refine S_get (v := iv (-1)) X fgX12_118_11 0 rfl rfl dX12_readLaw_10 ?_
            refine S_iconst X dX12_readLaw_13 ?_
            refine S_icmp_ne (tgt := 43) X dX12_readLaw_14 (by decide) (by decide) (by decide) (fun h9 => absurd h9 (by decide)) (fun _ => ?_)
            refine S_aload_n X dX12_readLaw_17 rfl hL26_0 ?_
            refine S_calli X (kX12_look l h0 hT (uF f 14 (iv tx)) T n a2_79 (-1) 0 hf0 hf1 (by omega) (by omega)) (is := [0, 1]) rfl (run_V X lkX12_130 0 rfl rfl (is := [0, 1]) (avs := []) (rest := []) rfl rfl (nle rfl) ⟨nle rfl, nle rfl⟩ ⟨nle rfl, nle rfl⟩ dX12_readLaw_18 (by decide) rfl) (fun z_95 u_93 hp_94 => ?_)
            obtain ⟨hz_96, hu_97⟩ := hp_94
            subst hz_96
            subst hu_97
            refine ⟨rfl, ?_⟩
            refine S_w (ws' := [(h0, ob 11 (uF (uF (uF (uF f 14 (iv tx)) 3 (iv (sk T n a2_79))) 4 (iv (-1))) 5 (iv 0))), (hT, ar 160 T), (hC, ar 1700 (wrL C (340 * tx + 0) (List.map kC (codesOf (cs ++ [(c_80, s_81)]))))), (hV, ar 1700 (wrL V (340 * tx + 0) (List.map kV (codesOf (cs ++ [(c_80, s_81)]))))), (hN, ar 5 (uZ Nk tx (0 + ((codesOf (cs ++ [(c_80, s_81)])).length : Int)))), (hL, ar 5 (uZ Lk tx (0 + ((cs ++ [(c_80, s_81)]).length : Int)))), (hTf, ar 450 (wrL Tf (90 * tx + 0) (tfOf 0 (cs ++ [(c_80, s_81)])))), (hSf, ar 450 (wrL Sf (90 * tx + 0) (sfOf 0 (cs ++ [(c_80, s_81)])))), (hEf, ar 450 (wrL Ef (90 * tx + 0) (stOf 0 (cs ++ [(c_80, s_81)]))))]) rfl ?_
            refine S_bipush X dX12_readLaw_21 rfl ?_
            refine S_icmp_ne (tgt := 43) X dX12_readLaw_23 (by decide) (by omega) (by decide) (fun c_98 => ?_) (fun c_98 => ?_)
            ·
              refine S_aload_n X dX12_readLaw_43 rfl hL26_0 ?_
              refine S_calli X (kX12_atEnd_N l h0 hT (uF f 14 (iv tx)) T n (sk T n a2_79) (-1) 0 hf0 hf1 (by omega) (by omega) (by omega)) (is := [0, 1]) rfl (run_V X lkX12_188 0 rfl rfl (is := [0, 1]) (avs := []) (rest := []) rfl rfl (nle rfl) ⟨nle rfl, nle rfl⟩ ⟨nle rfl, nle rfl⟩ dX12_readLaw_44 (by decide) rfl) (fun z_101 u_99 hp_100 => ?_)
              rcases hp_100 with ⟨hz_102, hu_103, hq_104⟩ | ⟨hz_105, hu_106, hq_107⟩
              ·
                subst hz_102
                subst hu_103
                refine ⟨rfl, ?_⟩
                refine S_w (ws' := [(h0, ob 11 (uF (uF (uF (uF f 14 (iv tx)) 3 (iv (sk T n (sk T n a2_79)))) 4 (iv (sk T n (sk T n a2_79)))) 5 (iv 0))), (hT, ar 160 T), (hC, ar 1700 (wrL C (340 * tx + 0) (List.map kC (codesOf (cs ++ [(c_80, s_81)]))))), (hV, ar 1700 (wrL V (340 * tx + 0) (List.map kV (codesOf (cs ++ [(c_80, s_81)]))))), (hN, ar 5 (uZ Nk tx (0 + ((codesOf (cs ++ [(c_80, s_81)])).length : Int)))), (hL, ar 5 (uZ Lk tx (0 + ((cs ++ [(c_80, s_81)]).length : Int)))), (hTf, ar 450 (wrL Tf (90 * tx + 0) (tfOf 0 (cs ++ [(c_80, s_81)])))), (hSf, ar 450 (wrL Sf (90 * tx + 0) (sfOf 0 (cs ++ [(c_80, s_81)])))), (hEf, ar 450 (wrL Ef (90 * tx + 0) (stOf 0 (cs ++ [(c_80, s_81)]))))]) rfl ?_
                rw [sk_idem (a := a2_79)] at hq_104
                rw [sk_idem (a := a2_79)]
                exact S_iret X (nle rfl) (nle rfl) dX12_readLaw_47 (hPo _ _ (Or.inl ⟨_, _, _, _, _, _, _, _, _, _, _, rfl, rfl, hk9.symm.trans (pl_n hq_84 hq_104 (by omega)), by omega, by first | exact frm_r (k := 0) (by omega) (by omega) | exact frm_w (k := 0) (by assumption) (by omega) (by omega) | exact frm_0 | assumption | exact frm_r (by omega) (by omega) | exact frm_w (by assumption) (by omega) (by omega) | exact frm_p frm_0 (by omega) | exact frm_p (by assumption) (by omega) | exact frm_p (frm_w (by assumption) (by omega) (by omega)) (by omega), by first | exact frm_r (k := 0) (by omega) (by omega) | exact frm_w (k := 0) (by assumption) (by omega) (by omega) | exact frm_0 | assumption | exact frm_r (by omega) (by omega) | exact frm_w (by assumption) (by omega) (by omega) | exact frm_p frm_0 (by omega) | exact frm_p (by assumption) (by omega) | exact frm_p (frm_w (by assumption) (by omega) (by omega)) (by omega), by first | assumption | exact frp_rT (by omega) | exact frp_rS (by omega) | exact frp_rE (by omega) | exact frp_wT (by assumption) (by omega) | exact frp_wS (by assumption) (by omega) | exact frp_wE (by assumption) (by omega), by first | assumption | exact frp_rT (by omega) | exact frp_rS (by omega) | exact frp_rE (by omega) | exact frp_wT (by assumption) (by omega) | exact frp_wS (by assumption) (by omega) | exact frp_wE (by assumption) (by omega), by first | assumption | exact frp_rT (by omega) | exact frp_rS (by omega) | exact frp_rE (by omega) | exact frp_wT (by assumption) (by omega) | exact frp_wS (by assumption) (by omega) | exact frp_wE (by assumption) (by omega)⟩))
              ·
                subst hz_105
                subst hu_106
                refine ⟨rfl, ?_⟩
                refine S_w (ws' := [(h0, ob 11 (uF (uF (uF (uF f 14 (iv tx)) 3 (iv (sk T n (sk T n a2_79)))) 4 (iv (-1))) 5 (iv 0))), (hT, ar 160 T), (hC, ar 1700 (wrL C (340 * tx + 0) (List.map kC (codesOf (cs ++ [(c_80, s_81)]))))), (hV, ar 1700 (wrL V (340 * tx + 0) (List.map kV (codesOf (cs ++ [(c_80, s_81)]))))), (hN, ar 5 (uZ Nk tx (0 + ((codesOf (cs ++ [(c_80, s_81)])).length : Int)))), (hL, ar 5 (uZ Lk tx (0 + ((cs ++ [(c_80, s_81)]).length : Int)))), (hTf, ar 450 (wrL Tf (90 * tx + 0) (tfOf 0 (cs ++ [(c_80, s_81)])))), (hSf, ar 450 (wrL Sf (90 * tx + 0) (sfOf 0 (cs ++ [(c_80, s_81)])))), (hEf, ar 450 (wrL Ef (90 * tx + 0) (stOf 0 (cs ++ [(c_80, s_81)]))))]) rfl ?_
                rw [sk_idem (a := a2_79)] at hq_107
                rw [sk_idem (a := a2_79)]
                exact S_iret X (nle rfl) (nle rfl) dX12_readLaw_47 (hPo _ _ (Or.inr ⟨_, cs ++ [(c_80, s_81)], rfl, rfl, hk9.symm.trans (pl_e hq_84 hq_107), by omega⟩))
            ·
              exact ih26 a2_79 (cs ++ [(c_80, s_81)]) _ (by omega) (by omega) (by omega) (by omega) (⟨g9, by omega, (pl_s (acc := cs) hq_84 (by omega)).symm.trans hk9⟩) hL26_0 hL26_1 (by omega)
      exact lp26_2 (Int.toNat (161 - a2_28) + 1) a2_28 (([] : List (List Int × List Int)) ++ [(c_29, s_30)]) _ (by omega) (by omega) (by omega) (by omega) (⟨160, by omega, (pl_s (acc := []) hq_33 (by omega)).symm⟩) rfl rfl (by omega)
