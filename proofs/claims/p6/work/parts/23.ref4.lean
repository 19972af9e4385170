theorem ref_as (l : Launch) : ∀ K : Nat, C_X12_atom l K (3 * K + 6) ∧ C_X12_term l K (3 * K + 7) ∧ C_X12_sum l K (3 * K + 8) := by
  intro K
  induction K with
  | zero =>
    have h1 := kX12_atom l 0 5 (by omega) (fun K2 h => absurd h (by omega))
    have h2 := kX12_term l 0 6 (by omega) h1
    exact ⟨h1, h2, kX12_sum l 0 7 (by omega) h2⟩
  | succ K ih =>
    have h1 := kX12_atom l (K + 1) (3 * K + 8) (by omega) (fun K2 h => by obtain rfl : K = K2 := by omega
                                                                          exact ih.2.2)
    have h2 := kX12_term l (K + 1) (3 * K + 9) (by omega) h1
    exact ⟨h1, h2, kX12_sum l (K + 1) (3 * K + 10) (by omega) h2⟩
theorem ref_cmp (l : Launch) (K : Nat) : C_X12_compare l K (3 * K + 9) := kX12_compare l K (3 * K + 8) (by omega) (ref_as l K).2.2
theorem ref_and (l : Launch) {K d : Nat} (hd : 5 ≤ d) (h : C_X12_unit l K d) : C_X12_goOnAnd_N l K (d + 1) := kX12_goOnAnd_N l K d hd d (by omega) h
theorem ref_or (l : Launch) {K d : Nat} (hd : 5 ≤ d) (h : C_X12_unit l K d) : C_X12_goOnOr_N l K (d + 2) := kX12_goOnOr_N l K (d + 1) (by omega) d (by omega) h (d + 1) (by omega) (ref_and l hd h)
theorem ref_cond (l : Launch) {K d : Nat} (hd : 5 ≤ d) (h : C_X12_unit l K d) : C_X12_condition l K (d + 3) := kX12_condition l K (d + 2) (by omega) d (by omega) h (d + 1) (by omega) (ref_and l hd h) (d + 2) (by omega) (ref_or l hd h)
theorem ref_unit (l : Launch) : ∀ K : Nat, C_X12_unit l K (4 * K + 10) := by
  intro K
  induction K with
  | zero => exact kX12_unit l 0 9 (by omega) 8 (by omega) (ref_as l 0).2.2 9 (by omega) (ref_cmp l 0) 0 (by omega) (fun K2 h => absurd h (by omega)) 0 (by omega) (fun K2 h => absurd h (by omega))
  | succ K ih =>
    refine kX12_unit l (K + 1) (4 * K + 13) (by omega) (3 * (K + 1) + 8) (by omega) (ref_as l (K + 1)).2.2 (3 * (K + 1) + 9) (by omega) (ref_cmp l (K + 1)) (4 * K + 10) (by omega) (fun K2 h => ?_) (4 * K + 13) (by omega) (fun K2 h => ?_)
    · obtain rfl : K = K2 := by omega
      exact ih
    · obtain rfl : K = K2 := by omega
      exact ref_cond l (by omega) ih
theorem ref_sum6 (l : Launch) : C_X12_sum l 6 26 := (ref_as l 6).2.2
theorem ref_cmp6 (l : Launch) : C_X12_compare l 6 27 := ref_cmp l 6
theorem ref_and6 (l : Launch) : C_X12_goOnAnd_N l 6 35 := ref_and l (by omega) (ref_unit l 6)
theorem ref_or6 (l : Launch) : C_X12_goOnOr_N l 6 36 := ref_or l (by omega) (ref_unit l 6)
theorem ref_cond6 (l : Launch) : C_X12_condition l 6 37 := ref_cond l (by omega) (ref_unit l 6)
theorem ls_y {T : Int → Int} {n a : Int} (h : ¬ ch T n (sk T n a) = 121) : pLawS T n a = .inl (sk T n a) := by unfold pLawS; rw [if_neg h]
theorem ls_c {T : Int → Int} {n a : Int} (h : ch T n (sk T n a) = 121) (h2 : ¬ ch T n (sk T n (sk T n a + 1)) = 58) : pLawS T n a = .inl (sk T n (sk T n a + 1)) := by unfold pLawS; rw [if_pos h, if_neg h2]
theorem ls_tf {T : Int → Int} {n a f : Int} (h : ch T n (sk T n a) = 121) (h2 : ch T n (sk T n (sk T n a + 1)) = 58) (h3 : ch T n (sk T n (sk T n (sk T n a + 1) + 1)) = 33 ∨ ch T n (sk T n (sk T n (sk T n a + 1) + 1)) = 40) (h4 : pCond T n 6 (sk T n (sk T n (sk T n a + 1) + 1)) = .inl f) : pLawS T n a = .inl f := by unfold pLawS; rw [if_pos h, if_pos h2, if_pos h3, h4]
theorem ls_t {T : Int → Int} {n a b : Int} {c : List Int} {r : LSR} (h : ch T n (sk T n a) = 121) (h2 : ch T n (sk T n (sk T n a + 1)) = 58) (h3 : ch T n (sk T n (sk T n (sk T n a + 1) + 1)) = 33 ∨ ch T n (sk T n (sk T n (sk T n a + 1) + 1)) = 40) (h4 : pCond T n 6 (sk T n (sk T n (sk T n a + 1) + 1)) = .inr (b, c)) (h5 : sumS T n b c = r) : pLawS T n a = r := by unfold pLawS; rw [if_pos h, if_pos h2, if_pos h3, h4]; exact h5
theorem ls_sf {T : Int → Int} {n a f : Int} (h : ch T n (sk T n a) = 121) (h2 : ch T n (sk T n (sk T n a + 1)) = 58) (h3 : ¬ (ch T n (sk T n (sk T n (sk T n a + 1) + 1)) = 33 ∨ ch T n (sk T n (sk T n (sk T n a + 1) + 1)) = 40)) (h4 : pSum T n 6 (sk T n (sk T n (sk T n a + 1) + 1)) = .inl f) : pLawS T n a = .inl f := by unfold pLawS; rw [if_pos h, if_pos h2, if_neg h3, h4]
theorem ls_s {T : Int → Int} {n a b : Int} {c : List Int} (h : ch T n (sk T n a) = 121) (h2 : ch T n (sk T n (sk T n a + 1)) = 58) (h3 : ¬ (ch T n (sk T n (sk T n (sk T n a + 1) + 1)) = 33 ∨ ch T n (sk T n (sk T n (sk T n a + 1) + 1)) = 40)) (h4 : pSum T n 6 (sk T n (sk T n (sk T n a + 1) + 1)) = .inr (b, c)) (h5 : ¬ (ch T n (sk T n b) = 61 ∨ ch T n (sk T n b) = 60 ∨ ch T n (sk T n b) = 62)) : pLawS T n a = .inr (sk T n b, [], c) := by unfold pLawS; rw [if_pos h, if_pos h2, if_neg h3, h4]; exact if_neg h5
theorem ls_cf {T : Int → Int} {n a b f : Int} {c : List Int} (h : ch T n (sk T n a) = 121) (h2 : ch T n (sk T n (sk T n a + 1)) = 58) (h3 : ¬ (ch T n (sk T n (sk T n (sk T n a + 1) + 1)) = 33 ∨ ch T n (sk T n (sk T n (sk T n a + 1) + 1)) = 40)) (h4 : pSum T n 6 (sk T n (sk T n (sk T n a + 1) + 1)) = .inr (b, c)) (h5 : ch T n (sk T n b) = 61 ∨ ch T n (sk T n b) = 60 ∨ ch T n (sk T n b) = 62) (h6 : cmpG T n 6 (sk T n b) = .inl f) : pLawS T n a = .inl f := by unfold pLawS; rw [if_pos h, if_pos h2, if_neg h3, h4]; dsimp only; rw [if_pos h5, h6]
theorem ls_mf {T : Int → Int} {n a b b2 f : Int} {c c2 : List Int} (h : ch T n (sk T n a) = 121) (h2 : ch T n (sk T n (sk T n a + 1)) = 58) (h3 : ¬ (ch T n (sk T n (sk T n (sk T n a + 1) + 1)) = 33 ∨ ch T n (sk T n (sk T n (sk T n a + 1) + 1)) = 40)) (h4 : pSum T n 6 (sk T n (sk T n (sk T n a + 1) + 1)) = .inr (b, c)) (h5 : ch T n (sk T n b) = 61 ∨ ch T n (sk T n b) = 60 ∨ ch T n (sk T n b) = 62) (h6 : cmpG T n 6 (sk T n b) = .inr (b2, c2)) (h7 : moreL T n (pUnit T n 6) 161 false b2 (c ++ c2) = .inl f) : pLawS T n a = .inl f := by unfold pLawS; rw [if_pos h, if_pos h2, if_neg h3, h4]; dsimp only; rw [if_pos h5, h6]; dsimp only; rw [h7]
theorem ls_m {T : Int → Int} {n a b b2 b3 : Int} {c c2 c3 : List Int} {r : LSR} (h : ch T n (sk T n a) = 121) (h2 : ch T n (sk T n (sk T n a + 1)) = 58) (h3 : ¬ (ch T n (sk T n (sk T n (sk T n a + 1) + 1)) = 33 ∨ ch T n (sk T n (sk T n (sk T n a + 1) + 1)) = 40)) (h4 : pSum T n 6 (sk T n (sk T n (sk T n a + 1) + 1)) = .inr (b, c)) (h5 : ch T n (sk T n b) = 61 ∨ ch T n (sk T n b) = 60 ∨ ch T n (sk T n b) = 62) (h6 : cmpG T n 6 (sk T n b) = .inr (b2, c2)) (h7 : moreL T n (pUnit T n 6) 161 false b2 (c ++ c2) = .inr (b3, c3)) (h8 : sumS T n b3 c3 = r) : pLawS T n a = r := by unfold pLawS; rw [if_pos h, if_pos h2, if_neg h3, h4]; dsimp only; rw [if_pos h5, h6]; dsimp only; rw [h7]; exact h8
theorem more_af {T : Int → Int} {n b e : Int} {ts : List Int} (hn : n ≤ 160) (h0 : 0 ≤ b ∧ b ≤ n) (h2 : loopL T n 38 38 (pUnit T n 6) 161 b ts = .inl e) : moreL T n (pUnit T n 6) 161 false b ts = .inl e := by rw [pMore_C hn 6 b ts h0.1 h0.2, h2]
theorem more_o {T : Int → Int} {n b c : Int} {ts us : List Int} {r : LR} (hn : n ≤ 160) (h0 : 0 ≤ b ∧ b ≤ n) (h2 : loopL T n 38 38 (pUnit T n 6) 161 b ts = .inr (c, us)) (h3 : loopL T n 124 124 (pCj T n 6) 161 c us = r) : moreL T n (pUnit T n 6) 161 false b ts = r := by rw [pMore_C hn 6 b ts h0.1 h0.2, h2]; exact h3
theorem ss_n {T : Int → Int} {n a : Int} {c : List Int} (h : ¬ ch T n (sk T n a) = 63) : sumS T n a c = .inl (sk T n a) := by unfold sumS; rw [if_neg h]
theorem ss_f {T : Int → Int} {n a f : Int} {c : List Int} (h : ch T n (sk T n a) = 63) (h2 : pSum T n 6 (sk T n a + 1) = .inl f) : sumS T n a c = .inl f := by unfold sumS; rw [if_pos h, h2]
theorem ss_r {T : Int → Int} {n a b : Int} {c s : List Int} (h : ch T n (sk T n a) = 63) (h2 : pSum T n 6 (sk T n a + 1) = .inr (b, s)) : sumS T n a c = .inr (b, c, s) := by unfold sumS; rw [if_pos h, h2]
theorem cmpG_sk {T : Int → Int} {n a : Int} {k : Nat} : cmpG T n k (sk T n a) = cmpG T n k a := by unfold cmpG; rw [sk_idem]
theorem rK_l {k : Int} {a b : List Int} : k + ((a ++ b).length : Int) = k + (a.length : Int) + (b.length : Int) := rK_app.symm
/-- nothing outside text tx of the pieces has changed -/
def frp (tx : Int) (C C2 : Int → Int) : Prop := ∀ i, ¬ (90 * tx ≤ i ∧ i < 90 * tx + 90) → C2 i = C i
theorem frp_0 {tx : Int} {C : Int → Int} : frp tx C C := fun _ _ => rfl
theorem frp_1 {tx k c : Int} {C C2 : Int → Int} (h : frp tx C C2) (hk : 0 ≤ k ∧ k < 90) : frp tx C (uZ C2 (90 * tx + k) c) := fun i hi => (uZ_ne (by omega)).trans (h i hi)
set_option maxHeartbeats 4000000 in
set_option maxRecDepth 100000 in
theorem kX12_clause (l : Launch) (h0 : Nat) (hT : Nat) (f : Nat → AV) (T : Int → Int) (n : Int) (a : Int) (hC : Nat) (hV : Nat) (hN : Nat) (C : Int → Int) (V : Int → Int) (Nk : Int → Int) (tx : Int) (k : Int) (hL : Nat) (hTf : Nat) (hSf : Nat) (hEf : Nat) (Lk : Int → Int) (Tf : Int → Int) (Sf : Int → Int) (Ef : Int → Int) (j : Int) (hf0 : f 1 = rv hT) (hf1 : f 2 = iv n) (hf2 : f 6 = rv hC) (hf3 : f 7 = rv hV) (hf4 : f 8 = rv hN) (hf5 : f 14 = iv tx) (hf6 : f 9 = rv hL) (hf7 : f 10 = rv hTf) (hf8 : f 11 = rv hSf) (hf9 : f 12 = rv hEf) (okT : okT T n) (ha : 0 ≤ a ∧ a ≤ n) (ht : 0 ≤ tx ∧ tx ≤ 4) (hk : 0 ≤ k ∧ k ≤ a) (hj : 0 ≤ j ∧ 2 * j ≤ a) : AMv l yX12_clause cX12_clause 3 38 0 0 [rv h0] [(h0, ob 11 (uF (uF (uF f 3 (iv a)) 4 (iv (-1))) 5 (iv 0))), (hT, ar 160 T), (hC, ar 1700 C), (hV, ar 1700 V), (hN, ar 5 (uZ Nk tx k)), (hL, ar 5 (uZ Lk tx j)), (hTf, ar 450 Tf), (hSf, ar 450 Sf), (hEf, ar 450 Ef)] (fun u => (∃ a2 : Int, ∃ fl : Int, ∃ k2 : Int, ∃ dp2 : Int, ∃ j2 : Int, ∃ C2 : Int → Int, ∃ V2 : Int → Int, ∃ Tf2 : Int → Int, ∃ Sf2 : Int → Int, ∃ Ef2 : Int → Int, u = [(h0, ob 11 (uF (uF (uF f 3 (iv a2)) 4 (iv fl)) 5 (iv dp2))), (hT, ar 160 T), (hC, ar 1700 C2), (hV, ar 1700 V2), (hN, ar 5 (uZ Nk tx k2)), (hL, ar 5 (uZ Lk tx j2)), (hTf, ar 450 Tf2), (hSf, ar 450 Sf2), (hEf, ar 450 Ef2)] ∧ pLawS T n a = .inl fl ∧ (0 ≤ fl ∧ fl ≤ n) ∧ frm tx C C2 ∧ frm tx V V2 ∧ frp tx Tf Tf2 ∧ frp tx Sf Sf2 ∧ frp tx Ef Ef2) ∨ (∃ a2 : Int, ∃ c : List Int, ∃ s : List Int, u = [(h0, ob 11 (uF (uF (uF f 3 (iv a2)) 4 (iv (-1))) 5 (iv 0))), (hT, ar 160 T), (hC, ar 1700 (wrL C (340 * tx + k) (List.map kC (c ++ s)))), (hV, ar 1700 (wrL V (340 * tx + k) (List.map kV (c ++ s)))), (hN, ar 5 (uZ Nk tx (k + (c.length : Int) + (s.length : Int)))), (hL, ar 5 (uZ Lk tx (j + 1))), (hTf, ar 450 (uZ Tf (90 * tx + j) k)), (hSf, ar 450 (uZ Sf (90 * tx + j) (k + (c.length : Int)))), (hEf, ar 450 (uZ Ef (90 * tx + j) (k + (c.length : Int) + (s.length : Int))))] ∧ pLawS T n a = .inr (a2, c, s))) := by
  refine AMv.of2 rfl (nle rfl) ?_
  intro D G A p e s m args below meth c Po hPo hnm X
  obtain ⟨hn0, hn1, hT2⟩ := id okT
  have hsk := sk_in (T := T) ha.2
  have hcm := chM_or okT (a := sk T n a) (by omega) (by omega)
  refine S_bipush X dX12_clause_0 rfl ?_
  refine S_aload_n X dX12_clause_2 rfl rfl ?_
  refine S_get X fgX12_121_11 0 rfl hf5 dX12_clause_3 ?_
  refine S_imul X dX12_clause_6 ?_
  refine S_aload_n X dX12_clause_7 rfl rfl ?_
  refine S_get X fgX12_22_11 0 rfl hf6 dX12_clause_8 ?_
  refine S_aload_n X dX12_clause_11 rfl rfl ?_
  refine S_get X fgX12_121_11 0 rfl hf5 dX12_clause_12 ?_
  refine S_iald X 5 rfl (by omega) (by omega) (nle rfl) dX12_clause_15 ?_
  rw [show (uZ Lk tx j) tx = j from uZ_at]
  refine S_iadd X dX12_clause_16 ?_
  refine S_istore_n X dX12_clause_17 rfl (nle rfl) ?_
  refine S_aload_n X dX12_clause_18 rfl rfl ?_
  refine S_get (v := iv (-1)) X fgX12_118_11 0 rfl rfl dX12_clause_19 ?_
  refine S_iconst X dX12_clause_22 ?_
  refine S_icmp_ne (tgt := 39) X dX12_clause_23 (by decide) (by decide) (by decide) (fun h9 => absurd h9 (by decide)) (fun _ => ?_)
  refine S_aload_n X dX12_clause_26 rfl rfl ?_
  refine S_calli X (kX12_look l h0 hT f T n a (-1) 0 hf0 hf1 (by omega) (by omega)) (is := [0, 1]) rfl (run_V X lkX12_130 0 rfl rfl (is := [0, 1]) (avs := []) (rest := []) rfl rfl (nle rfl) ⟨nle rfl, nle rfl⟩ ⟨nle rfl, nle rfl⟩ dX12_clause_27 (by decide) rfl) (fun z_4 u_2 hp_3 => ?_)
  obtain ⟨hz_5, hu_6⟩ := hp_3
  subst hz_5
  subst hu_6
  refine ⟨rfl, ?_⟩
  refine S_w (ws' := [(h0, ob 11 (uF (uF (uF f 3 (iv (sk T n a))) 4 (iv (-1))) 5 (iv 0))), (hT, ar 160 T), (hC, ar 1700 C), (hV, ar 1700 V), (hN, ar 5 (uZ Nk tx k)), (hL, ar 5 (uZ Lk tx j)), (hTf, ar 450 Tf), (hSf, ar 450 Sf), (hEf, ar 450 Ef)]) rfl ?_
  refine S_bipush X dX12_clause_30 rfl ?_
  refine S_icmp_eq (tgt := 39) X dX12_clause_32 (by decide) (by omega) (by decide) (fun c_7 => ?_) (fun c_7 => ?_)
  ·
    refine S_aload_n X dX12_clause_39 rfl rfl ?_
    refine S_dup X dX12_clause_40 ?_
    refine S_get (v := iv (sk T n a)) X fgX12_111_11 0 rfl rfl dX12_clause_41 ?_
    refine S_iconst X dX12_clause_44 ?_
    refine S_iadd X dX12_clause_45 ?_
    refine S_put X fpX12_111_11 0 rfl FT_i dX12_clause_46 ?_
    refine S_w (ws' := [(h0, ob 11 (uF (uF (uF f 3 (iv ((sk T n a) + 1))) 4 (iv (-1))) 5 (iv 0))), (hT, ar 160 T), (hC, ar 1700 C), (hV, ar 1700 V), (hN, ar 5 (uZ Nk tx k)), (hL, ar 5 (uZ Lk tx j)), (hTf, ar 450 Tf), (hSf, ar 450 Sf), (hEf, ar 450 Ef)]) (by simp only [List.set]; rw [uF_mv (j := 5) (k := 3) (by decide), uF_mv (j := 4) (k := 3) (by decide), uF_same (k := 3)]) ?_
    refine S_aload_n X dX12_clause_49 rfl rfl ?_
    refine S_get (v := iv (-1)) X fgX12_118_11 0 rfl rfl dX12_clause_50 ?_
    refine S_iconst X dX12_clause_53 ?_
    refine S_icmp_ne (tgt := 70) X dX12_clause_54 (by decide) (by decide) (by decide) (fun h9 => absurd h9 (by decide)) (fun _ => ?_)
    refine S_aload_n X dX12_clause_57 rfl rfl ?_
    refine S_calli X (kX12_look l h0 hT f T n ((sk T n a) + 1) (-1) 0 hf0 hf1 (by omega) (by omega)) (is := [0, 1]) rfl (run_V X lkX12_130 0 rfl rfl (is := [0, 1]) (avs := []) (rest := []) rfl rfl (nle rfl) ⟨nle rfl, nle rfl⟩ ⟨nle rfl, nle rfl⟩ dX12_clause_58 (by decide) rfl) (fun z_11 u_9 hp_10 => ?_)
    obtain ⟨hz_12, hu_13⟩ := hp_10
    subst hz_12
    subst hu_13
    refine ⟨rfl, ?_⟩
    refine S_w (ws' := [(h0, ob 11 (uF (uF (uF f 3 (iv (sk T n ((sk T n a) + 1)))) 4 (iv (-1))) 5 (iv 0))), (hT, ar 160 T), (hC, ar 1700 C), (hV, ar 1700 V), (hN, ar 5 (uZ Nk tx k)), (hL, ar 5 (uZ Lk tx j)), (hTf, ar 450 Tf), (hSf, ar 450 Sf), (hEf, ar 450 Ef)]) rfl ?_
    have hsk_x := sk_in (T := T) (n := n) (a := (sk T n a + 1)) (by omega)
    have hcm_x := chM_or okT (a := sk T n (sk T n a + 1)) (by omega) (by omega)
    refine S_bipush X dX12_clause_61 rfl ?_
    refine S_icmp_eq (tgt := 70) X dX12_clause_63 (by decide) (by omega) (by decide) (fun c_14 => ?_) (fun c_14 => ?_)
    ·
      refine S_aload_n X dX12_clause_70 rfl rfl ?_
      refine S_dup X dX12_clause_71 ?_
      refine S_get (v := iv (sk T n ((sk T n a) + 1))) X fgX12_111_11 0 rfl rfl dX12_clause_72 ?_
      refine S_iconst X dX12_clause_75 ?_
      refine S_iadd X dX12_clause_76 ?_
      refine S_put X fpX12_111_11 0 rfl FT_i dX12_clause_77 ?_
      refine S_w (ws' := [(h0, ob 11 (uF (uF (uF f 3 (iv ((sk T n ((sk T n a) + 1)) + 1))) 4 (iv (-1))) 5 (iv 0))), (hT, ar 160 T), (hC, ar 1700 C), (hV, ar 1700 V), (hN, ar 5 (uZ Nk tx k)), (hL, ar 5 (uZ Lk tx j)), (hTf, ar 450 Tf), (hSf, ar 450 Sf), (hEf, ar 450 Ef)]) (by simp only [List.set]; rw [uF_mv (j := 5) (k := 3) (by decide), uF_mv (j := 4) (k := 3) (by decide), uF_same (k := 3)]) ?_
      refine S_aload_n X dX12_clause_80 rfl rfl ?_
      refine S_get (v := iv (-1)) X fgX12_118_11 0 rfl rfl dX12_clause_81 ?_
      refine S_iconst X dX12_clause_84 ?_
      refine S_icmp_eq (tgt := 89) X dX12_clause_85 (by decide) (by decide) (by decide) (fun _ => ?_) (fun h9 => absurd h9 (by decide))
      refine S_aload_n X dX12_clause_89 rfl rfl ?_
      refine S_get X fgX12_25_11 0 rfl hf7 dX12_clause_90 ?_
      refine S_iload_n X dX12_clause_93 rfl rfl ?_
      refine S_aload_n X dX12_clause_94 rfl rfl ?_
      refine S_get X fgX12_19_11 0 rfl hf4 dX12_clause_95 ?_
      refine S_aload_n X dX12_clause_98 rfl rfl ?_
      refine S_get X fgX12_121_11 0 rfl hf5 dX12_clause_99 ?_
      refine S_iald X 4 rfl (by omega) (by omega) (nle rfl) dX12_clause_102 ?_
      rw [show (uZ Nk tx k) tx = k from uZ_at]
      refine S_iast X 6 rfl (by omega) (by omega) (nle rfl) dX12_clause_103 ?_
      refine S_w (ws' := [(h0, ob 11 (uF (uF (uF f 3 (iv ((sk T n ((sk T n a) + 1)) + 1))) 4 (iv (-1))) 5 (iv 0))), (hT, ar 160 T), (hC, ar 1700 C), (hV, ar 1700 V), (hN, ar 5 (uZ Nk tx k)), (hL, ar 5 (uZ Lk tx j)), (hTf, ar 450 (uZ Tf ((90 * tx) + j) k)), (hSf, ar 450 Sf), (hEf, ar 450 Ef)]) rfl ?_
      refine S_aload_n X dX12_clause_104 rfl rfl ?_
      refine S_calli X (kX12_look l h0 hT f T n ((sk T n ((sk T n a) + 1)) + 1) (-1) 0 hf0 hf1 (by omega) (by omega)) (is := [0, 1]) rfl (run_V X lkX12_130 0 rfl rfl (is := [0, 1]) (avs := []) (rest := []) rfl rfl (nle rfl) ⟨nle rfl, nle rfl⟩ ⟨nle rfl, nle rfl⟩ dX12_clause_105 (by decide) rfl) (fun z_18 u_16 hp_17 => ?_)
      obtain ⟨hz_19, hu_20⟩ := hp_17
      subst hz_19
      subst hu_20
      refine ⟨rfl, ?_⟩
      refine S_w (ws' := [(h0, ob 11 (uF (uF (uF f 3 (iv (sk T n ((sk T n ((sk T n a) + 1)) + 1)))) 4 (iv (-1))) 5 (iv 0))), (hT, ar 160 T), (hC, ar 1700 C), (hV, ar 1700 V), (hN, ar 5 (uZ Nk tx k)), (hL, ar 5 (uZ Lk tx j)), (hTf, ar 450 (uZ Tf ((90 * tx) + j) k)), (hSf, ar 450 Sf), (hEf, ar 450 Ef)]) rfl ?_
      have hsk_y := sk_in (T := T) (n := n) (a := (sk T n (sk T n a + 1) + 1)) (by omega)
      have hcm_y := chM_or okT (a := sk T n (sk T n (sk T n a + 1) + 1)) (by omega) (by omega)
      refine S_bipush X dX12_clause_108 rfl ?_
      refine S_icmp_eq (tgt := 122) X dX12_clause_110 (by decide) (by omega) (by decide) (fun c_21 => ?_) (fun c_21 => ?_)
      ·
        refine S_iconst X dX12_clause_122 ?_
        refine S_goto (tgt := 127) X dX12_clause_123 (by decide) ?_
        refine S_istore_n X dX12_clause_127 rfl (nle rfl) ?_
        refine S_iload_n X dX12_clause_128 rfl rfl ?_
        refine S_if_eq (tgt := 139) X dX12_clause_129 (by decide) (by decide) (fun h9 => absurd h9 (by decide)) (fun _ => ?_)
        refine S_aload_n X dX12_clause_132 rfl rfl ?_
        refine S_callv X ((ref_cond6 l) h0 hT f T n (sk T n ((sk T n ((sk T n a) + 1)) + 1)) 0 hC hV hN C V Nk tx k hf0 hf1 hf2 hf3 hf4 hf5 (by omega) (by omega) (by omega) (by omega) (by omega)) (is := [0, 1, 2, 3, 4]) rfl (run_V X lkX12_170 0 rfl rfl (is := [0, 1, 2, 3, 4]) (avs := []) (rest := []) rfl rfl (nle rfl) ⟨nle rfl, nle rfl⟩ ⟨nle rfl, nle rfl⟩ dX12_clause_133 (by decide) rfl) (fun u_23 hp_24 => ?_)
        rcases hp_24 with ⟨a2_26, fl_27, k2_28, dp2_29, C2_30, V2_31, hu_33, hq_34, hfl_35, hr_36, hfC_37, hfV_38⟩ | ⟨a2_39, ts_40, hu_42, hq_43⟩
        ·
          subst hu_33
          refine ⟨rfl, ?_⟩
          refine S_w (ws' := [(h0, ob 11 (uF (uF (uF f 3 (iv a2_26)) 4 (iv fl_27)) 5 (iv dp2_29))), (hT, ar 160 T), (hC, ar 1700 C2_30), (hV, ar 1700 V2_31), (hN, ar 5 (uZ Nk tx k2_28)), (hL, ar 5 (uZ Lk tx j)), (hTf, ar 450 (uZ Tf ((90 * tx) + j) k)), (hSf, ar 450 Sf), (hEf, ar 450 Ef)]) rfl ?_
          refine S_goto (tgt := 183) X dX12_clause_136 (by decide) ?_
          refine S_aload_n X dX12_clause_183 rfl rfl ?_
          refine S_get X fgX12_28_11 0 rfl hf8 dX12_clause_184 ?_
          refine S_iload_n X dX12_clause_187 rfl rfl ?_
          refine S_aload_n X dX12_clause_188 rfl rfl ?_
          refine S_get X fgX12_25_11 0 rfl hf7 dX12_clause_189 ?_
          refine S_iload_n X dX12_clause_192 rfl rfl ?_
          refine S_iald X 6 rfl (by omega) (by omega) (nle rfl) dX12_clause_193 ?_
          rw [show (uZ Tf ((90 * tx) + j) k) ((90 * tx) + j) = k from uZ_at]
          refine S_iast X 7 rfl (by omega) (by omega) (nle rfl) dX12_clause_194 ?_
          refine S_w (ws' := [(h0, ob 11 (uF (uF (uF f 3 (iv a2_26)) 4 (iv fl_27)) 5 (iv dp2_29))), (hT, ar 160 T), (hC, ar 1700 C2_30), (hV, ar 1700 V2_31), (hN, ar 5 (uZ Nk tx k2_28)), (hL, ar 5 (uZ Lk tx j)), (hTf, ar 450 (uZ Tf ((90 * tx) + j) k)), (hSf, ar 450 (uZ Sf ((90 * tx) + j) k)), (hEf, ar 450 Ef)]) rfl ?_
          refine S_iload_n X dX12_clause_195 rfl rfl ?_
          refine S_if_eq (tgt := 250) X dX12_clause_196 (by decide) (by decide) (fun h9 => absurd h9 (by decide)) (fun _ => ?_)
          refine S_aload_n X dX12_clause_199 rfl rfl ?_
          refine S_get (v := iv fl_27) X fgX12_118_11 0 rfl rfl dX12_clause_200 ?_
          refine S_iconst X dX12_clause_203 ?_
          refine S_icmp_ne (tgt := 250) X dX12_clause_204 (by decide) (by omega) (by decide) (fun c_45 => ?_) (fun c_45 => by exfalso; omega)
          refine S_aload_n X dX12_clause_250 rfl rfl ?_
          refine S_get X fgX12_31_11 0 rfl hf9 dX12_clause_251 ?_
          refine S_iload_n X dX12_clause_254 rfl rfl ?_
          refine S_aload_n X dX12_clause_255 rfl rfl ?_
          refine S_get X fgX12_19_11 0 rfl hf4 dX12_clause_256 ?_
          refine S_aload_n X dX12_clause_259 rfl rfl ?_
          refine S_get X fgX12_121_11 0 rfl hf5 dX12_clause_260 ?_
          refine S_iald X 4 rfl (by omega) (by omega) (nle rfl) dX12_clause_263 ?_
          rw [show (uZ Nk tx k2_28) tx = k2_28 from uZ_at]
          refine S_iast X 8 rfl (by omega) (by omega) (nle rfl) dX12_clause_264 ?_
          refine S_w (ws' := [(h0, ob 11 (uF (uF (uF f 3 (iv a2_26)) 4 (iv fl_27)) 5 (iv dp2_29))), (hT, ar 160 T), (hC, ar 1700 C2_30), (hV, ar 1700 V2_31), (hN, ar 5 (uZ Nk tx k2_28)), (hL, ar 5 (uZ Lk tx j)), (hTf, ar 450 (uZ Tf ((90 * tx) + j) k)), (hSf, ar 450 (uZ Sf ((90 * tx) + j) k)), (hEf, ar 450 (uZ Ef ((90 * tx) + j) k2_28))]) rfl ?_
          refine S_aload_n X dX12_clause_265 rfl rfl ?_
          refine S_get X fgX12_22_11 0 rfl hf6 dX12_clause_266 ?_
          refine S_aload_n X dX12_clause_269 rfl rfl ?_
          refine S_get X fgX12_121_11 0 rfl hf5 dX12_clause_270 ?_
          refine S_dup2 X dX12_clause_273 ?_
          refine S_iald X 5 rfl (by omega) (by omega) (nle rfl) dX12_clause_274 ?_
          rw [show (uZ Lk tx j) tx = j from uZ_at]
          refine S_iconst X dX12_clause_275 ?_
          refine S_iadd X dX12_clause_276 ?_
          refine S_iast X 5 rfl (by omega) (by omega) (nle rfl) dX12_clause_277 ?_
          refine S_w (ws' := [(h0, ob 11 (uF (uF (uF f 3 (iv a2_26)) 4 (iv fl_27)) 5 (iv dp2_29))), (hT, ar 160 T), (hC, ar 1700 C2_30), (hV, ar 1700 V2_31), (hN, ar 5 (uZ Nk tx k2_28)), (hL, ar 5 (uZ (uZ Lk tx j) tx (j + 1))), (hTf, ar 450 (uZ Tf ((90 * tx) + j) k)), (hSf, ar 450 (uZ Sf ((90 * tx) + j) k)), (hEf, ar 450 (uZ Ef ((90 * tx) + j) k2_28))]) rfl ?_
          refine S_w (ws' := [(h0, ob 11 (uF (uF (uF f 3 (iv a2_26)) 4 (iv fl_27)) 5 (iv dp2_29))), (hT, ar 160 T), (hC, ar 1700 C2_30), (hV, ar 1700 V2_31), (hN, ar 5 (uZ Nk tx k2_28)), (hL, ar 5 (uZ Lk tx (j + 1))), (hTf, ar 450 (uZ Tf ((90 * tx) + j) k)), (hSf, ar 450 (uZ Sf ((90 * tx) + j) k)), (hEf, ar 450 (uZ Ef ((90 * tx) + j) k2_28))]) (by simp only [uZ_same, List.length_nil, Int.natCast_zero, Int.add_zero, List.nil_append]) ?_
          exact S_vret X (nle rfl) (nle rfl) dX12_clause_278 (hPo _ (Or.inl ⟨_, _, _, _, _, _, _, _, _, _, rfl, ls_tf (by omega) (by omega) (by omega) hq_34, by omega, by first | exact frm_0 | assumption | exact frm_r (by omega) (by omega) | exact frm_w (by assumption) (by omega) (by omega) | exact frm_p frm_0 (by omega) | exact frm_p (by assumption) (by omega) | exact frm_p (frm_w (by assumption) (by omega) (by omega)) (by omega), by first | exact frm_0 | assumption | exact frm_r (by omega) (by omega) | exact frm_w (by assumption) (by omega) (by omega) | exact frm_p frm_0 (by omega) | exact frm_p (by assumption) (by omega) | exact frm_p (frm_w (by assumption) (by omega) (by omega)) (by omega), by first | exact frp_0 | exact frp_1 frp_0 (by omega) | exact frp_1 (frp_1 frp_0 (by omega)) (by omega), by first | exact frp_0 | exact frp_1 frp_0 (by omega) | exact frp_1 (frp_1 frp_0 (by omega)) (by omega), by first | exact frp_0 | exact frp_1 frp_0 (by omega) | exact frp_1 (frp_1 frp_0 (by omega)) (by omega)⟩))
        ·
          subst hu_42
          refine ⟨rfl, ?_⟩
          refine S_w (ws' := [(h0, ob 11 (uF (uF (uF f 3 (iv a2_39)) 4 (iv (-1))) 5 (iv 0))), (hT, ar 160 T), (hC, ar 1700 (wrL C (340 * tx + k) (List.map kC ts_40))), (hV, ar 1700 (wrL V (340 * tx + k) (List.map kV ts_40))), (hN, ar 5 (uZ Nk tx (k + ((ts_40).length : Int)))), (hL, ar 5 (uZ Lk tx j)), (hTf, ar 450 (uZ Tf ((90 * tx) + j) k)), (hSf, ar 450 Sf), (hEf, ar 450 Ef)]) rfl ?_
          have ho_46 := (pCond_ok (T := T) hn1 6 (sk T n (sk T n (sk T n a + 1) + 1)) (by omega) (by omega)).2 _ hq_43
          dsimp only at ho_46
          have hsk_47 := sk_in (T := T) (n := n) (a := a2_39) (by omega)
          have hcm_47 := chM_or okT (a := sk T n a2_39) (by omega) (by omega)
          refine S_goto (tgt := 183) X dX12_clause_136 (by decide) ?_
          refine S_aload_n X dX12_clause_183 rfl rfl ?_
          refine S_get X fgX12_28_11 0 rfl hf8 dX12_clause_184 ?_
          refine S_iload_n X dX12_clause_187 rfl rfl ?_
          refine S_aload_n X dX12_clause_188 rfl rfl ?_
          refine S_get X fgX12_25_11 0 rfl hf7 dX12_clause_189 ?_
          refine S_iload_n X dX12_clause_192 rfl rfl ?_
          refine S_iald X 6 rfl (by omega) (by omega) (nle rfl) dX12_clause_193 ?_
          rw [show (uZ Tf ((90 * tx) + j) k) ((90 * tx) + j) = k from uZ_at]
          refine S_iast X 7 rfl (by omega) (by omega) (nle rfl) dX12_clause_194 ?_
          refine S_w (ws' := [(h0, ob 11 (uF (uF (uF f 3 (iv a2_39)) 4 (iv (-1))) 5 (iv 0))), (hT, ar 160 T), (hC, ar 1700 (wrL C (340 * tx + k) (List.map kC ts_40))), (hV, ar 1700 (wrL V (340 * tx + k) (List.map kV ts_40))), (hN, ar 5 (uZ Nk tx (k + ((ts_40).length : Int)))), (hL, ar 5 (uZ Lk tx j)), (hTf, ar 450 (uZ Tf ((90 * tx) + j) k)), (hSf, ar 450 (uZ Sf ((90 * tx) + j) k)), (hEf, ar 450 Ef)]) rfl ?_
          refine S_iload_n X dX12_clause_195 rfl rfl ?_
          refine S_if_eq (tgt := 250) X dX12_clause_196 (by decide) (by decide) (fun h9 => absurd h9 (by decide)) (fun _ => ?_)
          refine S_aload_n X dX12_clause_199 rfl rfl ?_
          refine S_get (v := iv (-1)) X fgX12_118_11 0 rfl rfl dX12_clause_200 ?_
          refine S_iconst X dX12_clause_203 ?_
          refine S_icmp_ne (tgt := 250) X dX12_clause_204 (by decide) (by decide) (by decide) (fun h9 => absurd h9 (by decide)) (fun _ => ?_)
          refine S_aload_n X dX12_clause_207 rfl rfl ?_
          refine S_calli X (kX12_look l h0 hT f T n a2_39 (-1) 0 hf0 hf1 (by omega) (by omega)) (is := [0, 1]) rfl (run_V X lkX12_130 0 rfl rfl (is := [0, 1]) (avs := []) (rest := []) rfl rfl (nle rfl) ⟨nle rfl, nle rfl⟩ ⟨nle rfl, nle rfl⟩ dX12_clause_208 (by decide) rfl) (fun z_52 u_50 hp_51 => ?_)
          obtain ⟨hz_53, hu_54⟩ := hp_51
          subst hz_53
          subst hu_54
          refine ⟨rfl, ?_⟩
          refine S_w (ws' := [(h0, ob 11 (uF (uF (uF f 3 (iv (sk T n a2_39))) 4 (iv (-1))) 5 (iv 0))), (hT, ar 160 T), (hC, ar 1700 (wrL C (340 * tx + k) (List.map kC ts_40))), (hV, ar 1700 (wrL V (340 * tx + k) (List.map kV ts_40))), (hN, ar 5 (uZ Nk tx (k + ((ts_40).length : Int)))), (hL, ar 5 (uZ Lk tx j)), (hTf, ar 450 (uZ Tf ((90 * tx) + j) k)), (hSf, ar 450 (uZ Sf ((90 * tx) + j) k)), (hEf, ar 450 Ef)]) rfl ?_
          refine S_bipush X dX12_clause_211 rfl ?_
          refine S_icmp_eq (tgt := 221) X dX12_clause_213 (by decide) (by omega) (by decide) (fun c_55 => ?_) (fun c_55 => ?_)
          ·
            refine S_aload_n X dX12_clause_221 rfl rfl ?_
            refine S_dup X dX12_clause_222 ?_
            refine S_get (v := iv (sk T n a2_39)) X fgX12_111_11 0 rfl rfl dX12_clause_223 ?_
            refine S_iconst X dX12_clause_226 ?_
            refine S_iadd X dX12_clause_227 ?_
            refine S_put X fpX12_111_11 0 rfl FT_i dX12_clause_228 ?_
            refine S_w (ws' := [(h0, ob 11 (uF (uF (uF f 3 (iv ((sk T n a2_39) + 1))) 4 (iv (-1))) 5 (iv 0))), (hT, ar 160 T), (hC, ar 1700 (wrL C (340 * tx + k) (List.map kC ts_40))), (hV, ar 1700 (wrL V (340 * tx + k) (List.map kV ts_40))), (hN, ar 5 (uZ Nk tx (k + ((ts_40).length : Int)))), (hL, ar 5 (uZ Lk tx j)), (hTf, ar 450 (uZ Tf ((90 * tx) + j) k)), (hSf, ar 450 (uZ Sf ((90 * tx) + j) k)), (hEf, ar 450 Ef)]) (by simp only [List.set]; rw [uF_mv (j := 5) (k := 3) (by decide), uF_mv (j := 4) (k := 3) (by decide), uF_same (k := 3)]) ?_
            refine S_aload_n X dX12_clause_231 rfl rfl ?_
            refine S_get X fgX12_28_11 0 rfl hf8 dX12_clause_232 ?_
            refine S_iload_n X dX12_clause_235 rfl rfl ?_
            refine S_aload_n X dX12_clause_236 rfl rfl ?_
            refine S_get X fgX12_19_11 0 rfl hf4 dX12_clause_237 ?_
            refine S_aload_n X dX12_clause_240 rfl rfl ?_
            refine S_get X fgX12_121_11 0 rfl hf5 dX12_clause_241 ?_
            refine S_iald X 4 rfl (by omega) (by omega) (nle rfl) dX12_clause_244 ?_
            rw [show (uZ Nk tx (k + ((ts_40).length : Int))) tx = (k + ((ts_40).length : Int)) from uZ_at]
            refine S_iast X 7 rfl (by omega) (by omega) (nle rfl) dX12_clause_245 ?_
            refine S_w (ws' := [(h0, ob 11 (uF (uF (uF f 3 (iv ((sk T n a2_39) + 1))) 4 (iv (-1))) 5 (iv 0))), (hT, ar 160 T), (hC, ar 1700 (wrL C (340 * tx + k) (List.map kC ts_40))), (hV, ar 1700 (wrL V (340 * tx + k) (List.map kV ts_40))), (hN, ar 5 (uZ Nk tx (k + ((ts_40).length : Int)))), (hL, ar 5 (uZ Lk tx j)), (hTf, ar 450 (uZ Tf ((90 * tx) + j) k)), (hSf, ar 450 (uZ (uZ Sf ((90 * tx) + j) k) ((90 * tx) + j) (k + ((ts_40).length : Int)))), (hEf, ar 450 Ef)]) rfl ?_
            refine S_aload_n X dX12_clause_246 rfl rfl ?_
            refine S_callv X ((ref_sum6 l) h0 hT f T n ((sk T n a2_39) + 1) 0 hC hV hN (wrL C (340 * tx + k) (List.map kC ts_40)) (wrL V (340 * tx + k) (List.map kV ts_40)) Nk tx (k + ((ts_40).length : Int)) hf0 hf1 hf2 hf3 hf4 hf5 (by omega) (by omega) (by omega) (by omega) (by omega)) (is := [0, 1, 2, 3, 4]) rfl (run_V X lkX12_151 0 rfl rfl (is := [0, 1, 2, 3, 4]) (avs := []) (rest := []) rfl rfl (nle rfl) ⟨nle rfl, nle rfl⟩ ⟨nle rfl, nle rfl⟩ dX12_clause_247 (by decide) rfl) (fun u_56 hp_57 => ?_)
            rcases hp_57 with ⟨a2_59, fl_60, k2_61, dp2_62, C2_63, V2_64, hu_66, hq_67, hfl_68, hr_69, hfC_70, hfV_71⟩ | ⟨a2_72, ts_73, hu_75, hq_76⟩
            ·
              subst hu_66
              refine ⟨rfl, ?_⟩
              refine S_w (ws' := [(h0, ob 11 (uF (uF (uF f 3 (iv a2_59)) 4 (iv fl_60)) 5 (iv dp2_62))), (hT, ar 160 T), (hC, ar 1700 C2_63), (hV, ar 1700 V2_64), (hN, ar 5 (uZ Nk tx k2_61)), (hL, ar 5 (uZ Lk tx j)), (hTf, ar 450 (uZ Tf ((90 * tx) + j) k)), (hSf, ar 450 (uZ (uZ Sf ((90 * tx) + j) k) ((90 * tx) + j) (k + ((ts_40).length : Int)))), (hEf, ar 450 Ef)]) rfl ?_
              refine S_aload_n X dX12_clause_250 rfl rfl ?_
              refine S_get X fgX12_31_11 0 rfl hf9 dX12_clause_251 ?_
              refine S_iload_n X dX12_clause_254 rfl rfl ?_
              refine S_aload_n X dX12_clause_255 rfl rfl ?_
              refine S_get X fgX12_19_11 0 rfl hf4 dX12_clause_256 ?_
              refine S_aload_n X dX12_clause_259 rfl rfl ?_
              refine S_get X fgX12_121_11 0 rfl hf5 dX12_clause_260 ?_
              refine S_iald X 4 rfl (by omega) (by omega) (nle rfl) dX12_clause_263 ?_
              rw [show (uZ Nk tx k2_61) tx = k2_61 from uZ_at]
              refine S_iast X 8 rfl (by omega) (by omega) (nle rfl) dX12_clause_264 ?_
              refine S_w (ws' := [(h0, ob 11 (uF (uF (uF f 3 (iv a2_59)) 4 (iv fl_60)) 5 (iv dp2_62))), (hT, ar 160 T), (hC, ar 1700 C2_63), (hV, ar 1700 V2_64), (hN, ar 5 (uZ Nk tx k2_61)), (hL, ar 5 (uZ Lk tx j)), (hTf, ar 450 (uZ Tf ((90 * tx) + j) k)), (hSf, ar 450 (uZ (uZ Sf ((90 * tx) + j) k) ((90 * tx) + j) (k + ((ts_40).length : Int)))), (hEf, ar 450 (uZ Ef ((90 * tx) + j) k2_61))]) rfl ?_
              refine S_aload_n X dX12_clause_265 rfl rfl ?_
              refine S_get X fgX12_22_11 0 rfl hf6 dX12_clause_266 ?_
              refine S_aload_n X dX12_clause_269 rfl rfl ?_
              refine S_get X fgX12_121_11 0 rfl hf5 dX12_clause_270 ?_
              refine S_dup2 X dX12_clause_273 ?_
              refine S_iald X 5 rfl (by omega) (by omega) (nle rfl) dX12_clause_274 ?_
              rw [show (uZ Lk tx j) tx = j from uZ_at]
              refine S_iconst X dX12_clause_275 ?_
              refine S_iadd X dX12_clause_276 ?_
              refine S_iast X 5 rfl (by omega) (by omega) (nle rfl) dX12_clause_277 ?_
              refine S_w (ws' := [(h0, ob 11 (uF (uF (uF f 3 (iv a2_59)) 4 (iv fl_60)) 5 (iv dp2_62))), (hT, ar 160 T), (hC, ar 1700 C2_63), (hV, ar 1700 V2_64), (hN, ar 5 (uZ Nk tx k2_61)), (hL, ar 5 (uZ (uZ Lk tx j) tx (j + 1))), (hTf, ar 450 (uZ Tf ((90 * tx) + j) k)), (hSf, ar 450 (uZ (uZ Sf ((90 * tx) + j) k) ((90 * tx) + j) (k + ((ts_40).length : Int)))), (hEf, ar 450 (uZ Ef ((90 * tx) + j) k2_61))]) rfl ?_
              refine S_w (ws' := [(h0, ob 11 (uF (uF (uF f 3 (iv a2_59)) 4 (iv fl_60)) 5 (iv dp2_62))), (hT, ar 160 T), (hC, ar 1700 C2_63), (hV, ar 1700 V2_64), (hN, ar 5 (uZ Nk tx k2_61)), (hL, ar 5 (uZ Lk tx (j + 1))), (hTf, ar 450 (uZ Tf ((90 * tx) + j) k)), (hSf, ar 450 (uZ (uZ Sf ((90 * tx) + j) k) ((90 * tx) + j) (k + ((ts_40).length : Int)))), (hEf, ar 450 (uZ Ef ((90 * tx) + j) k2_61))]) (by simp only [uZ_same, List.length_nil, Int.natCast_zero, Int.add_zero, List.nil_append]) ?_
              exact S_vret X (nle rfl) (nle rfl) dX12_clause_278 (hPo _ (Or.inl ⟨_, _, _, _, _, _, _, _, _, _, rfl, ls_t (by omega) (by omega) (by omega) hq_43 (ss_f (by omega) hq_67), by omega, by first | exact frm_0 | assumption | exact frm_r (by omega) (by omega) | exact frm_w (by assumption) (by omega) (by omega) | exact frm_p frm_0 (by omega) | exact frm_p (by assumption) (by omega) | exact frm_p (frm_w (by assumption) (by omega) (by omega)) (by omega), by first | exact frm_0 | assumption | exact frm_r (by omega) (by omega) | exact frm_w (by assumption) (by omega) (by omega) | exact frm_p frm_0 (by omega) | exact frm_p (by assumption) (by omega) | exact frm_p (frm_w (by assumption) (by omega) (by omega)) (by omega), by first | exact frp_0 | exact frp_1 frp_0 (by omega) | exact frp_1 (frp_1 frp_0 (by omega)) (by omega), by first | exact frp_0 | exact frp_1 frp_0 (by omega) | exact frp_1 (frp_1 frp_0 (by omega)) (by omega), by first | exact frp_0 | exact frp_1 frp_0 (by omega) | exact frp_1 (frp_1 frp_0 (by omega)) (by omega)⟩))
            ·
              subst hu_75
              refine ⟨rfl, ?_⟩
              refine S_w (ws' := [(h0, ob 11 (uF (uF (uF f 3 (iv a2_72)) 4 (iv (-1))) 5 (iv 0))), (hT, ar 160 T), (hC, ar 1700 (wrL (wrL C (340 * tx + k) (List.map kC ts_40)) (340 * tx + (k + ((ts_40).length : Int))) (List.map kC ts_73))), (hV, ar 1700 (wrL (wrL V (340 * tx + k) (List.map kV ts_40)) (340 * tx + (k + ((ts_40).length : Int))) (List.map kV ts_73))), (hN, ar 5 (uZ Nk tx ((k + ((ts_40).length : Int)) + ((ts_73).length : Int)))), (hL, ar 5 (uZ Lk tx j)), (hTf, ar 450 (uZ Tf ((90 * tx) + j) k)), (hSf, ar 450 (uZ (uZ Sf ((90 * tx) + j) k) ((90 * tx) + j) (k + ((ts_40).length : Int)))), (hEf, ar 450 Ef)]) rfl ?_
              refine S_w (ws' := [(h0, ob 11 (uF (uF (uF f 3 (iv a2_72)) 4 (iv (-1))) 5 (iv 0))), (hT, ar 160 T), (hC, ar 1700 (wrL C (340 * tx + k) (List.map kC (ts_40 ++ ts_73)))), (hV, ar 1700 (wrL V (340 * tx + k) (List.map kV (ts_40 ++ ts_73)))), (hN, ar 5 (uZ Nk tx ((k + ((ts_40).length : Int)) + ((ts_73).length : Int)))), (hL, ar 5 (uZ Lk tx j)), (hTf, ar 450 (uZ Tf ((90 * tx) + j) k)), (hSf, ar 450 (uZ (uZ Sf ((90 * tx) + j) k) ((90 * tx) + j) (k + ((ts_40).length : Int)))), (hEf, ar 450 Ef)]) (by simp only [rW_app]) ?_
              have ho_77 := ((pAS_ok (T := T) hn1 6).2 _ (by omega) (by omega)).2 _ hq_76
              dsimp only at ho_77
              refine S_aload_n X dX12_clause_250 rfl rfl ?_
              refine S_get X fgX12_31_11 0 rfl hf9 dX12_clause_251 ?_
              refine S_iload_n X dX12_clause_254 rfl rfl ?_
              refine S_aload_n X dX12_clause_255 rfl rfl ?_
              refine S_get X fgX12_19_11 0 rfl hf4 dX12_clause_256 ?_
              refine S_aload_n X dX12_clause_259 rfl rfl ?_
              refine S_get X fgX12_121_11 0 rfl hf5 dX12_clause_260 ?_
              refine S_iald X 4 rfl (by omega) (by omega) (nle rfl) dX12_clause_263 ?_
              rw [show (uZ Nk tx ((k + ((ts_40).length : Int)) + ((ts_73).length : Int))) tx = ((k + ((ts_40).length : Int)) + ((ts_73).length : Int)) from uZ_at]
              refine S_iast X 8 rfl (by omega) (by omega) (nle rfl) dX12_clause_264 ?_
              refine S_w (ws' := [(h0, ob 11 (uF (uF (uF f 3 (iv a2_72)) 4 (iv (-1))) 5 (iv 0))), (hT, ar 160 T), (hC, ar 1700 (wrL C (340 * tx + k) (List.map kC (ts_40 ++ ts_73)))), (hV, ar 1700 (wrL V (340 * tx + k) (List.map kV (ts_40 ++ ts_73)))), (hN, ar 5 (uZ Nk tx ((k + ((ts_40).length : Int)) + ((ts_73).length : Int)))), (hL, ar 5 (uZ Lk tx j)), (hTf, ar 450 (uZ Tf ((90 * tx) + j) k)), (hSf, ar 450 (uZ (uZ Sf ((90 * tx) + j) k) ((90 * tx) + j) (k + ((ts_40).length : Int)))), (hEf, ar 450 (uZ Ef ((90 * tx) + j) ((k + ((ts_40).length : Int)) + ((ts_73).length : Int))))]) rfl ?_
              refine S_aload_n X dX12_clause_265 rfl rfl ?_
              refine S_get X fgX12_22_11 0 rfl hf6 dX12_clause_266 ?_
              refine S_aload_n X dX12_clause_269 rfl rfl ?_
              refine S_get X fgX12_121_11 0 rfl hf5 dX12_clause_270 ?_
              refine S_dup2 X dX12_clause_273 ?_
              refine S_iald X 5 rfl (by omega) (by omega) (nle rfl) dX12_clause_274 ?_
              rw [show (uZ Lk tx j) tx = j from uZ_at]
              refine S_iconst X dX12_clause_275 ?_
              refine S_iadd X dX12_clause_276 ?_
              refine S_iast X 5 rfl (by omega) (by omega) (nle rfl) dX12_clause_277 ?_
              refine S_w (ws' := [(h0, ob 11 (uF (uF (uF f 3 (iv a2_72)) 4 (iv (-1))) 5 (iv 0))), (hT, ar 160 T), (hC, ar 1700 (wrL C (340 * tx + k) (List.map kC (ts_40 ++ ts_73)))), (hV, ar 1700 (wrL V (340 * tx + k) (List.map kV (ts_40 ++ ts_73)))), (hN, ar 5 (uZ Nk tx ((k + ((ts_40).length : Int)) + ((ts_73).length : Int)))), (hL, ar 5 (uZ (uZ Lk tx j) tx (j + 1))), (hTf, ar 450 (uZ Tf ((90 * tx) + j) k)), (hSf, ar 450 (uZ (uZ Sf ((90 * tx) + j) k) ((90 * tx) + j) (k + ((ts_40).length : Int)))), (hEf, ar 450 (uZ Ef ((90 * tx) + j) ((k + ((ts_40).length : Int)) + ((ts_73).length : Int))))]) rfl ?_
              refine S_w (ws' := [(h0, ob 11 (uF (uF (uF f 3 (iv a2_72)) 4 (iv (-1))) 5 (iv 0))), (hT, ar 160 T), (hC, ar 1700 (wrL C (340 * tx + k) (List.map kC (ts_40 ++ ts_73)))), (hV, ar 1700 (wrL V (340 * tx + k) (List.map kV (ts_40 ++ ts_73)))), (hN, ar 5 (uZ Nk tx (k + ((ts_40 : List Int).length : Int) + ((ts_73 : List Int).length : Int)))), (hL, ar 5 (uZ Lk tx (j + 1))), (hTf, ar 450 (uZ Tf ((90 * tx) + j) k)), (hSf, ar 450 (uZ Sf (90 * tx + j) (k + ((ts_40 : List Int).length : Int)))), (hEf, ar 450 (uZ Ef (90 * tx + j) (k + ((ts_40 : List Int).length : Int) + ((ts_73 : List Int).length : Int))))]) (by simp only [uZ_same, List.length_nil, Int.natCast_zero, Int.add_zero, List.nil_append]) ?_
              exact S_vret X (nle rfl) (nle rfl) dX12_clause_278 (hPo _ (Or.inr ⟨_, ts_40, ts_73, rfl, ls_t (by omega) (by omega) (by omega) hq_43 (ss_r (by omega) hq_76)⟩))
          ·
            refine S_aload_n X dX12_clause_216 rfl rfl ?_
            refine S_callv X (kX12_bad l h0 f (sk T n a2_39) (-1) 0 (by omega)) (is := [0]) rfl (run_V X lkX12_127 0 rfl rfl (is := [0]) (avs := []) (rest := []) rfl rfl (nle rfl) ⟨nle rfl, nle rfl⟩ ⟨nle rfl, nle rfl⟩ dX12_clause_217 (by decide) rfl) (fun u_78 hp_79 => ?_)
            have hu_82 := hp_79
            subst hu_82
            refine ⟨rfl, ?_⟩
            refine S_w (ws' := [(h0, ob 11 (uF (uF (uF f 3 (iv (sk T n a2_39))) 4 (iv (sk T n a2_39))) 5 (iv 0))), (hT, ar 160 T), (hC, ar 1700 (wrL C (340 * tx + k) (List.map kC ts_40))), (hV, ar 1700 (wrL V (340 * tx + k) (List.map kV ts_40))), (hN, ar 5 (uZ Nk tx (k + ((ts_40).length : Int)))), (hL, ar 5 (uZ Lk tx j)), (hTf, ar 450 (uZ Tf ((90 * tx) + j) k)), (hSf, ar 450 (uZ Sf ((90 * tx) + j) k)), (hEf, ar 450 Ef)]) rfl ?_
            exact S_vret X (nle rfl) (nle rfl) dX12_clause_220 (hPo _ (Or.inl ⟨_, _, _, _, _, _, _, _, _, _, rfl, ls_t (by omega) (by omega) (by omega) hq_43 (ss_n (by omega)), by omega, by first | exact frm_0 | assumption | exact frm_r (by omega) (by omega) | exact frm_w (by assumption) (by omega) (by omega) | exact frm_p frm_0 (by omega) | exact frm_p (by assumption) (by omega) | exact frm_p (frm_w (by assumption) (by omega) (by omega)) (by omega), by first | exact frm_0 | assumption | exact frm_r (by omega) (by omega) | exact frm_w (by assumption) (by omega) (by omega) | exact frm_p frm_0 (by omega) | exact frm_p (by assumption) (by omega) | exact frm_p (frm_w (by assumption) (by omega) (by omega)) (by omega), by first | exact frp_0 | exact frp_1 frp_0 (by omega) | exact frp_1 (frp_1 frp_0 (by omega)) (by omega), by first | exact frp_0 | exact frp_1 frp_0 (by omega) | exact frp_1 (frp_1 frp_0 (by omega)) (by omega), by first | exact frp_0 | exact frp_1 frp_0 (by omega) | exact frp_1 (frp_1 frp_0 (by omega)) (by omega)⟩))
      ·
        refine S_aload_n X dX12_clause_113 rfl rfl ?_
        refine S_calli X (kX12_look l h0 hT f T n (sk T n ((sk T n ((sk T n a) + 1)) + 1)) (-1) 0 hf0 hf1 (by omega) (by omega)) (is := [0, 1]) rfl (run_V X lkX12_130 0 rfl rfl (is := [0, 1]) (avs := []) (rest := []) rfl rfl (nle rfl) ⟨nle rfl, nle rfl⟩ ⟨nle rfl, nle rfl⟩ dX12_clause_114 (by decide) rfl) (fun z_85 u_83 hp_84 => ?_)
        obtain ⟨hz_86, hu_87⟩ := hp_84
        subst hz_86
        subst hu_87
        refine ⟨rfl, ?_⟩
        refine S_w (ws' := [(h0, ob 11 (uF (uF (uF f 3 (iv (sk T n (sk T n ((sk T n ((sk T n a) + 1)) + 1))))) 4 (iv (-1))) 5 (iv 0))), (hT, ar 160 T), (hC, ar 1700 C), (hV, ar 1700 V), (hN, ar 5 (uZ Nk tx k)), (hL, ar 5 (uZ Lk tx j)), (hTf, ar 450 (uZ Tf ((90 * tx) + j) k)), (hSf, ar 450 Sf), (hEf, ar 450 Ef)]) rfl ?_
        rw [sk_idem (a := sk T n (sk T n a + 1) + 1)]
        refine S_bipush X dX12_clause_117 rfl ?_
        refine S_icmp_ne (tgt := 126) X dX12_clause_119 (by decide) (by omega) (by decide) (fun c_88 => ?_) (fun c_88 => ?_)
        ·
          refine S_iconst X dX12_clause_126 ?_
          refine S_istore_n X dX12_clause_127 rfl (nle rfl) ?_
          refine S_iload_n X dX12_clause_128 rfl rfl ?_
          refine S_if_eq (tgt := 139) X dX12_clause_129 (by decide) (by decide) (fun _ => ?_) (fun h9 => absurd h9 (by decide))
          refine S_aload_n X dX12_clause_139 rfl rfl ?_
          refine S_callv X ((ref_sum6 l) h0 hT f T n (sk T n ((sk T n ((sk T n a) + 1)) + 1)) 0 hC hV hN C V Nk tx k hf0 hf1 hf2 hf3 hf4 hf5 (by omega) (by omega) (by omega) (by omega) (by omega)) (is := [0, 1, 2, 3, 4]) rfl (run_V X lkX12_151 0 rfl rfl (is := [0, 1, 2, 3, 4]) (avs := []) (rest := []) rfl rfl (nle rfl) ⟨nle rfl, nle rfl⟩ ⟨nle rfl, nle rfl⟩ dX12_clause_140 (by decide) rfl) (fun u_90 hp_91 => ?_)
          rcases hp_91 with ⟨a2_93, fl_94, k2_95, dp2_96, C2_97, V2_98, hu_100, hq_101, hfl_102, hr_103, hfC_104, hfV_105⟩ | ⟨a2_106, ts_107, hu_109, hq_110⟩
          ·
            subst hu_100
            refine ⟨rfl, ?_⟩
            refine S_w (ws' := [(h0, ob 11 (uF (uF (uF f 3 (iv a2_93)) 4 (iv fl_94)) 5 (iv dp2_96))), (hT, ar 160 T), (hC, ar 1700 C2_97), (hV, ar 1700 V2_98), (hN, ar 5 (uZ Nk tx k2_95)), (hL, ar 5 (uZ Lk tx j)), (hTf, ar 450 (uZ Tf ((90 * tx) + j) k)), (hSf, ar 450 Sf), (hEf, ar 450 Ef)]) rfl ?_
            refine S_aload_n X dX12_clause_143 rfl rfl ?_
            refine S_get (v := iv fl_94) X fgX12_118_11 0 rfl rfl dX12_clause_144 ?_
            refine S_iconst X dX12_clause_147 ?_
            refine S_icmp_ne (tgt := 165) X dX12_clause_148 (by decide) (by omega) (by decide) (fun c_111 => ?_) (fun c_111 => by exfalso; omega)
            refine S_iconst X dX12_clause_165 ?_
            refine S_istore_n X dX12_clause_166 rfl (nle rfl) ?_
            refine S_iload_n X dX12_clause_167 rfl rfl ?_
            refine S_if_eq (tgt := 183) X dX12_clause_168 (by decide) (by decide) (fun _ => ?_) (fun h9 => absurd h9 (by decide))
            refine S_aload_n X dX12_clause_183 rfl rfl ?_
            refine S_get X fgX12_28_11 0 rfl hf8 dX12_clause_184 ?_
            refine S_iload_n X dX12_clause_187 rfl rfl ?_
            refine S_aload_n X dX12_clause_188 rfl rfl ?_
            refine S_get X fgX12_25_11 0 rfl hf7 dX12_clause_189 ?_
            refine S_iload_n X dX12_clause_192 rfl rfl ?_
            refine S_iald X 6 rfl (by omega) (by omega) (nle rfl) dX12_clause_193 ?_
            rw [show (uZ Tf ((90 * tx) + j) k) ((90 * tx) + j) = k from uZ_at]
            refine S_iast X 7 rfl (by omega) (by omega) (nle rfl) dX12_clause_194 ?_
            refine S_w (ws' := [(h0, ob 11 (uF (uF (uF f 3 (iv a2_93)) 4 (iv fl_94)) 5 (iv dp2_96))), (hT, ar 160 T), (hC, ar 1700 C2_97), (hV, ar 1700 V2_98), (hN, ar 5 (uZ Nk tx k2_95)), (hL, ar 5 (uZ Lk tx j)), (hTf, ar 450 (uZ Tf ((90 * tx) + j) k)), (hSf, ar 450 (uZ Sf ((90 * tx) + j) k)), (hEf, ar 450 Ef)]) rfl ?_
            refine S_iload_n X dX12_clause_195 rfl rfl ?_
            refine S_if_eq (tgt := 250) X dX12_clause_196 (by decide) (by decide) (fun _ => ?_) (fun h9 => absurd h9 (by decide))
            refine S_aload_n X dX12_clause_250 rfl rfl ?_
            refine S_get X fgX12_31_11 0 rfl hf9 dX12_clause_251 ?_
            refine S_iload_n X dX12_clause_254 rfl rfl ?_
            refine S_aload_n X dX12_clause_255 rfl rfl ?_
            refine S_get X fgX12_19_11 0 rfl hf4 dX12_clause_256 ?_
            refine S_aload_n X dX12_clause_259 rfl rfl ?_
            refine S_get X fgX12_121_11 0 rfl hf5 dX12_clause_260 ?_
            refine S_iald X 4 rfl (by omega) (by omega) (nle rfl) dX12_clause_263 ?_
            rw [show (uZ Nk tx k2_95) tx = k2_95 from uZ_at]
            refine S_iast X 8 rfl (by omega) (by omega) (nle rfl) dX12_clause_264 ?_
            refine S_w (ws' := [(h0, ob 11 (uF (uF (uF f 3 (iv a2_93)) 4 (iv fl_94)) 5 (iv dp2_96))), (hT, ar 160 T), (hC, ar 1700 C2_97), (hV, ar 1700 V2_98), (hN, ar 5 (uZ Nk tx k2_95)), (hL, ar 5 (uZ Lk tx j)), (hTf, ar 450 (uZ Tf ((90 * tx) + j) k)), (hSf, ar 450 (uZ Sf ((90 * tx) + j) k)), (hEf, ar 450 (uZ Ef ((90 * tx) + j) k2_95))]) rfl ?_
            refine S_aload_n X dX12_clause_265 rfl rfl ?_
            refine S_get X fgX12_22_11 0 rfl hf6 dX12_clause_266 ?_
            refine S_aload_n X dX12_clause_269 rfl rfl ?_
            refine S_get X fgX12_121_11 0 rfl hf5 dX12_clause_270 ?_
            refine S_dup2 X dX12_clause_273 ?_
            refine S_iald X 5 rfl (by omega) (by omega) (nle rfl) dX12_clause_274 ?_
            rw [show (uZ Lk tx j) tx = j from uZ_at]
            refine S_iconst X dX12_clause_275 ?_
            refine S_iadd X dX12_clause_276 ?_
            refine S_iast X 5 rfl (by omega) (by omega) (nle rfl) dX12_clause_277 ?_
            refine S_w (ws' := [(h0, ob 11 (uF (uF (uF f 3 (iv a2_93)) 4 (iv fl_94)) 5 (iv dp2_96))), (hT, ar 160 T), (hC, ar 1700 C2_97), (hV, ar 1700 V2_98), (hN, ar 5 (uZ Nk tx k2_95)), (hL, ar 5 (uZ (uZ Lk tx j) tx (j + 1))), (hTf, ar 450 (uZ Tf ((90 * tx) + j) k)), (hSf, ar 450 (uZ Sf ((90 * tx) + j) k)), (hEf, ar 450 (uZ Ef ((90 * tx) + j) k2_95))]) rfl ?_
            refine S_w (ws' := [(h0, ob 11 (uF (uF (uF f 3 (iv a2_93)) 4 (iv fl_94)) 5 (iv dp2_96))), (hT, ar 160 T), (hC, ar 1700 C2_97), (hV, ar 1700 V2_98), (hN, ar 5 (uZ Nk tx k2_95)), (hL, ar 5 (uZ Lk tx (j + 1))), (hTf, ar 450 (uZ Tf ((90 * tx) + j) k)), (hSf, ar 450 (uZ Sf ((90 * tx) + j) k)), (hEf, ar 450 (uZ Ef ((90 * tx) + j) k2_95))]) (by simp only [uZ_same, List.length_nil, Int.natCast_zero, Int.add_zero, List.nil_append]) ?_
            exact S_vret X (nle rfl) (nle rfl) dX12_clause_278 (hPo _ (Or.inl ⟨_, _, _, _, _, _, _, _, _, _, rfl, ls_sf (by omega) (by omega) (by omega) hq_101, by omega, by first | exact frm_0 | assumption | exact frm_r (by omega) (by omega) | exact frm_w (by assumption) (by omega) (by omega) | exact frm_p frm_0 (by omega) | exact frm_p (by assumption) (by omega) | exact frm_p (frm_w (by assumption) (by omega) (by omega)) (by omega), by first | exact frm_0 | assumption | exact frm_r (by omega) (by omega) | exact frm_w (by assumption) (by omega) (by omega) | exact frm_p frm_0 (by omega) | exact frm_p (by assumption) (by omega) | exact frm_p (frm_w (by assumption) (by omega) (by omega)) (by omega), by first | exact frp_0 | exact frp_1 frp_0 (by omega) | exact frp_1 (frp_1 frp_0 (by omega)) (by omega), by first | exact frp_0 | exact frp_1 frp_0 (by omega) | exact frp_1 (frp_1 frp_0 (by omega)) (by omega), by first | exact frp_0 | exact frp_1 frp_0 (by omega) | exact frp_1 (frp_1 frp_0 (by omega)) (by omega)⟩))
          ·
            subst hu_109
            refine ⟨rfl, ?_⟩
            refine S_w (ws' := [(h0, ob 11 (uF (uF (uF f 3 (iv a2_106)) 4 (iv (-1))) 5 (iv 0))), (hT, ar 160 T), (hC, ar 1700 (wrL C (340 * tx + k) (List.map kC ts_107))), (hV, ar 1700 (wrL V (340 * tx + k) (List.map kV ts_107))), (hN, ar 5 (uZ Nk tx (k + ((ts_107).length : Int)))), (hL, ar 5 (uZ Lk tx j)), (hTf, ar 450 (uZ Tf ((90 * tx) + j) k)), (hSf, ar 450 Sf), (hEf, ar 450 Ef)]) rfl ?_
            have ho_114 := ((pAS_ok (T := T) hn1 6).2 (sk T n (sk T n (sk T n a + 1) + 1)) (by omega) (by omega)).2 _ hq_110
            dsimp only at ho_114
            have hsk_115 := sk_in (T := T) (n := n) (a := a2_106) (by omega)
            have hcm_115 := chM_or okT (a := sk T n a2_106) (by omega) (by omega)
            refine S_aload_n X dX12_clause_143 rfl rfl ?_
            refine S_get (v := iv (-1)) X fgX12_118_11 0 rfl rfl dX12_clause_144 ?_
            refine S_iconst X dX12_clause_147 ?_
            refine S_icmp_ne (tgt := 165) X dX12_clause_148 (by decide) (by decide) (by decide) (fun h9 => absurd h9 (by decide)) (fun _ => ?_)
            refine S_aload_n X dX12_clause_151 rfl rfl ?_
            refine S_calli X (kX12_look l h0 hT f T n a2_106 (-1) 0 hf0 hf1 (by omega) (by omega)) (is := [0, 1]) rfl (run_V X lkX12_130 0 rfl rfl (is := [0, 1]) (avs := []) (rest := []) rfl rfl (nle rfl) ⟨nle rfl, nle rfl⟩ ⟨nle rfl, nle rfl⟩ dX12_clause_152 (by decide) rfl) (fun z_119 u_117 hp_118 => ?_)
            obtain ⟨hz_120, hu_121⟩ := hp_118
            subst hz_120
            subst hu_121
            refine ⟨rfl, ?_⟩
            refine S_w (ws' := [(h0, ob 11 (uF (uF (uF f 3 (iv (sk T n a2_106))) 4 (iv (-1))) 5 (iv 0))), (hT, ar 160 T), (hC, ar 1700 (wrL C (340 * tx + k) (List.map kC ts_107))), (hV, ar 1700 (wrL V (340 * tx + k) (List.map kV ts_107))), (hN, ar 5 (uZ Nk tx (k + ((ts_107).length : Int)))), (hL, ar 5 (uZ Lk tx j)), (hTf, ar 450 (uZ Tf ((90 * tx) + j) k)), (hSf, ar 450 Sf), (hEf, ar 450 Ef)]) rfl ?_
            refine S_calli X (kX12_isSign l (chM T n (sk T n a2_106)) (by omega)) (is := []) rfl (run_S X lkX12_164 (is := []) (avs := [iv (chM T n (sk T n a2_106))]) (rest := []) rfl rfl (nle rfl) ⟨nle rfl, nle rfl⟩ ⟨nle rfl, nle rfl⟩ dX12_clause_155 (by decide) rfl) (fun z_124 u_122 hp_123 => ?_)
            rcases hp_123 with ⟨hz_125, hu_126, hd_127⟩ | ⟨hz_128, hu_129, hd_130⟩
            ·
              subst hz_125
              subst hu_126
              refine ⟨rfl, ?_⟩
              refine S_w (ws' := [(h0, ob 11 (uF (uF (uF f 3 (iv (sk T n a2_106))) 4 (iv (-1))) 5 (iv 0))), (hT, ar 160 T), (hC, ar 1700 (wrL C (340 * tx + k) (List.map kC ts_107))), (hV, ar 1700 (wrL V (340 * tx + k) (List.map kV ts_107))), (hN, ar 5 (uZ Nk tx (k + ((ts_107).length : Int)))), (hL, ar 5 (uZ Lk tx j)), (hTf, ar 450 (uZ Tf ((90 * tx) + j) k)), (hSf, ar 450 Sf), (hEf, ar 450 Ef)]) rfl ?_
              refine S_if_eq (tgt := 165) X dX12_clause_158 (by decide) (by decide) (fun _ => ?_) (fun h9 => absurd h9 (by decide))
              refine S_iconst X dX12_clause_165 ?_
              refine S_istore_n X dX12_clause_166 rfl (nle rfl) ?_
              refine S_iload_n X dX12_clause_167 rfl rfl ?_
              refine S_if_eq (tgt := 183) X dX12_clause_168 (by decide) (by decide) (fun _ => ?_) (fun h9 => absurd h9 (by decide))
              refine S_aload_n X dX12_clause_183 rfl rfl ?_
              refine S_get X fgX12_28_11 0 rfl hf8 dX12_clause_184 ?_
              refine S_iload_n X dX12_clause_187 rfl rfl ?_
              refine S_aload_n X dX12_clause_188 rfl rfl ?_
              refine S_get X fgX12_25_11 0 rfl hf7 dX12_clause_189 ?_
              refine S_iload_n X dX12_clause_192 rfl rfl ?_
              refine S_iald X 6 rfl (by omega) (by omega) (nle rfl) dX12_clause_193 ?_
              rw [show (uZ Tf ((90 * tx) + j) k) ((90 * tx) + j) = k from uZ_at]
              refine S_iast X 7 rfl (by omega) (by omega) (nle rfl) dX12_clause_194 ?_
              refine S_w (ws' := [(h0, ob 11 (uF (uF (uF f 3 (iv (sk T n a2_106))) 4 (iv (-1))) 5 (iv 0))), (hT, ar 160 T), (hC, ar 1700 (wrL C (340 * tx + k) (List.map kC ts_107))), (hV, ar 1700 (wrL V (340 * tx + k) (List.map kV ts_107))), (hN, ar 5 (uZ Nk tx (k + ((ts_107).length : Int)))), (hL, ar 5 (uZ Lk tx j)), (hTf, ar 450 (uZ Tf ((90 * tx) + j) k)), (hSf, ar 450 (uZ Sf ((90 * tx) + j) k)), (hEf, ar 450 Ef)]) rfl ?_
              refine S_iload_n X dX12_clause_195 rfl rfl ?_
              refine S_if_eq (tgt := 250) X dX12_clause_196 (by decide) (by decide) (fun _ => ?_) (fun h9 => absurd h9 (by decide))
              refine S_aload_n X dX12_clause_250 rfl rfl ?_
              refine S_get X fgX12_31_11 0 rfl hf9 dX12_clause_251 ?_
              refine S_iload_n X dX12_clause_254 rfl rfl ?_
              refine S_aload_n X dX12_clause_255 rfl rfl ?_
              refine S_get X fgX12_19_11 0 rfl hf4 dX12_clause_256 ?_
              refine S_aload_n X dX12_clause_259 rfl rfl ?_
              refine S_get X fgX12_121_11 0 rfl hf5 dX12_clause_260 ?_
              refine S_iald X 4 rfl (by omega) (by omega) (nle rfl) dX12_clause_263 ?_
              rw [show (uZ Nk tx (k + ((ts_107).length : Int))) tx = (k + ((ts_107).length : Int)) from uZ_at]
              refine S_iast X 8 rfl (by omega) (by omega) (nle rfl) dX12_clause_264 ?_
              refine S_w (ws' := [(h0, ob 11 (uF (uF (uF f 3 (iv (sk T n a2_106))) 4 (iv (-1))) 5 (iv 0))), (hT, ar 160 T), (hC, ar 1700 (wrL C (340 * tx + k) (List.map kC ts_107))), (hV, ar 1700 (wrL V (340 * tx + k) (List.map kV ts_107))), (hN, ar 5 (uZ Nk tx (k + ((ts_107).length : Int)))), (hL, ar 5 (uZ Lk tx j)), (hTf, ar 450 (uZ Tf ((90 * tx) + j) k)), (hSf, ar 450 (uZ Sf ((90 * tx) + j) k)), (hEf, ar 450 (uZ Ef ((90 * tx) + j) (k + ((ts_107).length : Int))))]) rfl ?_
              refine S_aload_n X dX12_clause_265 rfl rfl ?_
              refine S_get X fgX12_22_11 0 rfl hf6 dX12_clause_266 ?_
              refine S_aload_n X dX12_clause_269 rfl rfl ?_
              refine S_get X fgX12_121_11 0 rfl hf5 dX12_clause_270 ?_
              refine S_dup2 X dX12_clause_273 ?_
              refine S_iald X 5 rfl (by omega) (by omega) (nle rfl) dX12_clause_274 ?_
              rw [show (uZ Lk tx j) tx = j from uZ_at]
              refine S_iconst X dX12_clause_275 ?_
              refine S_iadd X dX12_clause_276 ?_
              refine S_iast X 5 rfl (by omega) (by omega) (nle rfl) dX12_clause_277 ?_
              refine S_w (ws' := [(h0, ob 11 (uF (uF (uF f 3 (iv (sk T n a2_106))) 4 (iv (-1))) 5 (iv 0))), (hT, ar 160 T), (hC, ar 1700 (wrL C (340 * tx + k) (List.map kC ts_107))), (hV, ar 1700 (wrL V (340 * tx + k) (List.map kV ts_107))), (hN, ar 5 (uZ Nk tx (k + ((ts_107).length : Int)))), (hL, ar 5 (uZ (uZ Lk tx j) tx (j + 1))), (hTf, ar 450 (uZ Tf ((90 * tx) + j) k)), (hSf, ar 450 (uZ Sf ((90 * tx) + j) k)), (hEf, ar 450 (uZ Ef ((90 * tx) + j) (k + ((ts_107).length : Int))))]) rfl ?_
              refine S_w (ws' := [(h0, ob 11 (uF (uF (uF f 3 (iv (sk T n a2_106))) 4 (iv (-1))) 5 (iv 0))), (hT, ar 160 T), (hC, ar 1700 (wrL C (340 * tx + k) (List.map kC (([] : List Int) ++ ts_107)))), (hV, ar 1700 (wrL V (340 * tx + k) (List.map kV (([] : List Int) ++ ts_107)))), (hN, ar 5 (uZ Nk tx (k + (([] : List Int).length : Int) + ((ts_107 : List Int).length : Int)))), (hL, ar 5 (uZ Lk tx (j + 1))), (hTf, ar 450 (uZ Tf ((90 * tx) + j) k)), (hSf, ar 450 (uZ Sf (90 * tx + j) (k + (([] : List Int).length : Int)))), (hEf, ar 450 (uZ Ef (90 * tx + j) (k + (([] : List Int).length : Int) + ((ts_107 : List Int).length : Int))))]) (by simp only [uZ_same, List.length_nil, Int.natCast_zero, Int.add_zero, List.nil_append]) ?_
              exact S_vret X (nle rfl) (nle rfl) dX12_clause_278 (hPo _ (Or.inr ⟨_, [], ts_107, rfl, ls_s (by omega) (by omega) (by omega) hq_110 (by omega)⟩))
            ·
              subst hz_128
              subst hu_129
              refine ⟨rfl, ?_⟩
              refine S_w (ws' := [(h0, ob 11 (uF (uF (uF f 3 (iv (sk T n a2_106))) 4 (iv (-1))) 5 (iv 0))), (hT, ar 160 T), (hC, ar 1700 (wrL C (340 * tx + k) (List.map kC ts_107))), (hV, ar 1700 (wrL V (340 * tx + k) (List.map kV ts_107))), (hN, ar 5 (uZ Nk tx (k + ((ts_107).length : Int)))), (hL, ar 5 (uZ Lk tx j)), (hTf, ar 450 (uZ Tf ((90 * tx) + j) k)), (hSf, ar 450 Sf), (hEf, ar 450 Ef)]) rfl ?_
              refine S_if_eq (tgt := 165) X dX12_clause_158 (by decide) (by decide) (fun h9 => absurd h9 (by decide)) (fun _ => ?_)
              refine S_iconst X dX12_clause_161 ?_
              refine S_goto (tgt := 166) X dX12_clause_162 (by decide) ?_
              refine S_istore_n X dX12_clause_166 rfl (nle rfl) ?_
              refine S_iload_n X dX12_clause_167 rfl rfl ?_
              refine S_if_eq (tgt := 183) X dX12_clause_168 (by decide) (by decide) (fun h9 => absurd h9 (by decide)) (fun _ => ?_)
              refine S_aload_n X dX12_clause_171 rfl rfl ?_
              refine S_callv X ((ref_cmp6 l) h0 hT f T n (sk T n a2_106) 0 hC hV hN (wrL C (340 * tx + k) (List.map kC ts_107)) (wrL V (340 * tx + k) (List.map kV ts_107)) Nk tx (k + ((ts_107).length : Int)) hf0 hf1 hf2 hf3 hf4 hf5 (by omega) (by omega) (by omega) (by omega) (by omega)) (is := [0, 1, 2, 3, 4]) rfl (run_V X lkX12_173 0 rfl rfl (is := [0, 1, 2, 3, 4]) (avs := []) (rest := []) rfl rfl (nle rfl) ⟨nle rfl, nle rfl⟩ ⟨nle rfl, nle rfl⟩ dX12_clause_172 (by decide) rfl) (fun u_136 hp_137 => ?_)
              rcases hp_137 with ⟨a2_139, fl_140, k2_141, dp2_142, C2_143, V2_144, hu_146, hq_147, hfl_148, hr_149, hfC_150, hfV_151⟩ | ⟨a2_152, ts_153, hu_155, hq_156⟩
              ·
                subst hu_146
                refine ⟨rfl, ?_⟩
                refine S_w (ws' := [(h0, ob 11 (uF (uF (uF f 3 (iv a2_139)) 4 (iv fl_140)) 5 (iv dp2_142))), (hT, ar 160 T), (hC, ar 1700 C2_143), (hV, ar 1700 V2_144), (hN, ar 5 (uZ Nk tx k2_141)), (hL, ar 5 (uZ Lk tx j)), (hTf, ar 450 (uZ Tf ((90 * tx) + j) k)), (hSf, ar 450 Sf), (hEf, ar 450 Ef)]) rfl ?_
                refine S_aload_n X dX12_clause_175 rfl rfl ?_
                refine S_callv X (kX12_goOnAnd_E l h0 f a2_139 fl_140 dp2_142 (by omega) (by omega)) (is := [0]) rfl (run_V X lkX12_176 0 rfl rfl (is := [0]) (avs := []) (rest := []) rfl rfl (nle rfl) ⟨nle rfl, nle rfl⟩ ⟨nle rfl, nle rfl⟩ dX12_clause_176 (by decide) rfl) (fun u_157 hp_158 => ?_)
                have hu_161 := hp_158
                subst hu_161
                refine ⟨rfl, ?_⟩
                refine S_w (ws' := [(h0, ob 11 (uF (uF (uF f 3 (iv a2_139)) 4 (iv fl_140)) 5 (iv dp2_142))), (hT, ar 160 T), (hC, ar 1700 C2_143), (hV, ar 1700 V2_144), (hN, ar 5 (uZ Nk tx k2_141)), (hL, ar 5 (uZ Lk tx j)), (hTf, ar 450 (uZ Tf ((90 * tx) + j) k)), (hSf, ar 450 Sf), (hEf, ar 450 Ef)]) rfl ?_
                refine S_aload_n X dX12_clause_179 rfl rfl ?_
                refine S_callv X (kX12_goOnOr_E l h0 f a2_139 fl_140 dp2_142 (by omega) (by omega)) (is := [0]) rfl (run_V X lkX12_179 0 rfl rfl (is := [0]) (avs := []) (rest := []) rfl rfl (nle rfl) ⟨nle rfl, nle rfl⟩ ⟨nle rfl, nle rfl⟩ dX12_clause_180 (by decide) rfl) (fun u_162 hp_163 => ?_)
                have hu_166 := hp_163
                subst hu_166
                refine ⟨rfl, ?_⟩
                refine S_w (ws' := [(h0, ob 11 (uF (uF (uF f 3 (iv a2_139)) 4 (iv fl_140)) 5 (iv dp2_142))), (hT, ar 160 T), (hC, ar 1700 C2_143), (hV, ar 1700 V2_144), (hN, ar 5 (uZ Nk tx k2_141)), (hL, ar 5 (uZ Lk tx j)), (hTf, ar 450 (uZ Tf ((90 * tx) + j) k)), (hSf, ar 450 Sf), (hEf, ar 450 Ef)]) rfl ?_
                refine S_aload_n X dX12_clause_183 rfl rfl ?_
                refine S_get X fgX12_28_11 0 rfl hf8 dX12_clause_184 ?_
                refine S_iload_n X dX12_clause_187 rfl rfl ?_
                refine S_aload_n X dX12_clause_188 rfl rfl ?_
                refine S_get X fgX12_25_11 0 rfl hf7 dX12_clause_189 ?_
                refine S_iload_n X dX12_clause_192 rfl rfl ?_
                refine S_iald X 6 rfl (by omega) (by omega) (nle rfl) dX12_clause_193 ?_
                rw [show (uZ Tf ((90 * tx) + j) k) ((90 * tx) + j) = k from uZ_at]
                refine S_iast X 7 rfl (by omega) (by omega) (nle rfl) dX12_clause_194 ?_
                refine S_w (ws' := [(h0, ob 11 (uF (uF (uF f 3 (iv a2_139)) 4 (iv fl_140)) 5 (iv dp2_142))), (hT, ar 160 T), (hC, ar 1700 C2_143), (hV, ar 1700 V2_144), (hN, ar 5 (uZ Nk tx k2_141)), (hL, ar 5 (uZ Lk tx j)), (hTf, ar 450 (uZ Tf ((90 * tx) + j) k)), (hSf, ar 450 (uZ Sf ((90 * tx) + j) k)), (hEf, ar 450 Ef)]) rfl ?_
                refine S_iload_n X dX12_clause_195 rfl rfl ?_
                refine S_if_eq (tgt := 250) X dX12_clause_196 (by decide) (by decide) (fun h9 => absurd h9 (by decide)) (fun _ => ?_)
                refine S_aload_n X dX12_clause_199 rfl rfl ?_
                refine S_get (v := iv fl_140) X fgX12_118_11 0 rfl rfl dX12_clause_200 ?_
                refine S_iconst X dX12_clause_203 ?_
                refine S_icmp_ne (tgt := 250) X dX12_clause_204 (by decide) (by omega) (by decide) (fun c_168 => ?_) (fun c_168 => by exfalso; omega)
                refine S_aload_n X dX12_clause_250 rfl rfl ?_
                refine S_get X fgX12_31_11 0 rfl hf9 dX12_clause_251 ?_
                refine S_iload_n X dX12_clause_254 rfl rfl ?_
                refine S_aload_n X dX12_clause_255 rfl rfl ?_
                refine S_get X fgX12_19_11 0 rfl hf4 dX12_clause_256 ?_
                refine S_aload_n X dX12_clause_259 rfl rfl ?_
                refine S_get X fgX12_121_11 0 rfl hf5 dX12_clause_260 ?_
                refine S_iald X 4 rfl (by omega) (by omega) (nle rfl) dX12_clause_263 ?_
                rw [show (uZ Nk tx k2_141) tx = k2_141 from uZ_at]
                refine S_iast X 8 rfl (by omega) (by omega) (nle rfl) dX12_clause_264 ?_
                refine S_w (ws' := [(h0, ob 11 (uF (uF (uF f 3 (iv a2_139)) 4 (iv fl_140)) 5 (iv dp2_142))), (hT, ar 160 T), (hC, ar 1700 C2_143), (hV, ar 1700 V2_144), (hN, ar 5 (uZ Nk tx k2_141)), (hL, ar 5 (uZ Lk tx j)), (hTf, ar 450 (uZ Tf ((90 * tx) + j) k)), (hSf, ar 450 (uZ Sf ((90 * tx) + j) k)), (hEf, ar 450 (uZ Ef ((90 * tx) + j) k2_141))]) rfl ?_
                refine S_aload_n X dX12_clause_265 rfl rfl ?_
                refine S_get X fgX12_22_11 0 rfl hf6 dX12_clause_266 ?_
                refine S_aload_n X dX12_clause_269 rfl rfl ?_
                refine S_get X fgX12_121_11 0 rfl hf5 dX12_clause_270 ?_
                refine S_dup2 X dX12_clause_273 ?_
                refine S_iald X 5 rfl (by omega) (by omega) (nle rfl) dX12_clause_274 ?_
                rw [show (uZ Lk tx j) tx = j from uZ_at]
                refine S_iconst X dX12_clause_275 ?_
                refine S_iadd X dX12_clause_276 ?_
                refine S_iast X 5 rfl (by omega) (by omega) (nle rfl) dX12_clause_277 ?_
                refine S_w (ws' := [(h0, ob 11 (uF (uF (uF f 3 (iv a2_139)) 4 (iv fl_140)) 5 (iv dp2_142))), (hT, ar 160 T), (hC, ar 1700 C2_143), (hV, ar 1700 V2_144), (hN, ar 5 (uZ Nk tx k2_141)), (hL, ar 5 (uZ (uZ Lk tx j) tx (j + 1))), (hTf, ar 450 (uZ Tf ((90 * tx) + j) k)), (hSf, ar 450 (uZ Sf ((90 * tx) + j) k)), (hEf, ar 450 (uZ Ef ((90 * tx) + j) k2_141))]) rfl ?_
                refine S_w (ws' := [(h0, ob 11 (uF (uF (uF f 3 (iv a2_139)) 4 (iv fl_140)) 5 (iv dp2_142))), (hT, ar 160 T), (hC, ar 1700 C2_143), (hV, ar 1700 V2_144), (hN, ar 5 (uZ Nk tx k2_141)), (hL, ar 5 (uZ Lk tx (j + 1))), (hTf, ar 450 (uZ Tf ((90 * tx) + j) k)), (hSf, ar 450 (uZ Sf ((90 * tx) + j) k)), (hEf, ar 450 (uZ Ef ((90 * tx) + j) k2_141))]) (by simp only [uZ_same, List.length_nil, Int.natCast_zero, Int.add_zero, List.nil_append]) ?_
                exact S_vret X (nle rfl) (nle rfl) dX12_clause_278 (hPo _ (Or.inl ⟨_, _, _, _, _, _, _, _, _, _, rfl, ls_cf (by omega) (by omega) (by omega) hq_110 (by omega) hq_147, by omega, by first | exact frm_0 | assumption | exact frm_r (by omega) (by omega) | exact frm_w (by assumption) (by omega) (by omega) | exact frm_p frm_0 (by omega) | exact frm_p (by assumption) (by omega) | exact frm_p (frm_w (by assumption) (by omega) (by omega)) (by omega), by first | exact frm_0 | assumption | exact frm_r (by omega) (by omega) | exact frm_w (by assumption) (by omega) (by omega) | exact frm_p frm_0 (by omega) | exact frm_p (by assumption) (by omega) | exact frm_p (frm_w (by assumption) (by omega) (by omega)) (by omega), by first | exact frp_0 | exact frp_1 frp_0 (by omega) | exact frp_1 (frp_1 frp_0 (by omega)) (by omega), by first | exact frp_0 | exact frp_1 frp_0 (by omega) | exact frp_1 (frp_1 frp_0 (by omega)) (by omega), by first | exact frp_0 | exact frp_1 frp_0 (by omega) | exact frp_1 (frp_1 frp_0 (by omega)) (by omega)⟩))
              ·
                subst hu_155
                refine ⟨rfl, ?_⟩
                refine S_w (ws' := [(h0, ob 11 (uF (uF (uF f 3 (iv a2_152)) 4 (iv (-1))) 5 (iv 0))), (hT, ar 160 T), (hC, ar 1700 (wrL (wrL C (340 * tx + k) (List.map kC ts_107)) (340 * tx + (k + ((ts_107).length : Int))) (List.map kC ts_153))), (hV, ar 1700 (wrL (wrL V (340 * tx + k) (List.map kV ts_107)) (340 * tx + (k + ((ts_107).length : Int))) (List.map kV ts_153))), (hN, ar 5 (uZ Nk tx ((k + ((ts_107).length : Int)) + ((ts_153).length : Int)))), (hL, ar 5 (uZ Lk tx j)), (hTf, ar 450 (uZ Tf ((90 * tx) + j) k)), (hSf, ar 450 Sf), (hEf, ar 450 Ef)]) rfl ?_
                refine S_w (ws' := [(h0, ob 11 (uF (uF (uF f 3 (iv a2_152)) 4 (iv (-1))) 5 (iv 0))), (hT, ar 160 T), (hC, ar 1700 (wrL C (340 * tx + k) (List.map kC (ts_107 ++ ts_153)))), (hV, ar 1700 (wrL V (340 * tx + k) (List.map kV (ts_107 ++ ts_153)))), (hN, ar 5 (uZ Nk tx (k + ((ts_107 ++ ts_153).length : Int)))), (hL, ar 5 (uZ Lk tx j)), (hTf, ar 450 (uZ Tf ((90 * tx) + j) k)), (hSf, ar 450 Sf), (hEf, ar 450 Ef)]) (by simp only [rW_app, rK_app]) ?_
                have ho_169 := (cmpG_ok (T := T) hn1 6 (sk T n a2_106) (by omega) (by omega)).2 _ hq_156
                dsimp only at ho_169
                have hln_169 : (((ts_107 ++ ts_153).length : Nat) : Int) = _ := congrArg Nat.cast List.length_append
                rw [Int.natCast_add] at hln_169
                refine S_aload_n X dX12_clause_175 rfl rfl ?_
                refine S_callv X ((ref_and6 l) h0 hT f T n a2_152 0 hC hV hN C V Nk tx k (ts_107 ++ ts_153) hf0 hf1 hf2 hf3 hf4 hf5 (by omega) (by omega) (by omega) (by omega) (by omega)) (is := [0, 1, 2, 3, 4]) rfl (run_V X lkX12_176 0 rfl rfl (is := [0, 1, 2, 3, 4]) (avs := []) (rest := []) rfl rfl (nle rfl) ⟨nle rfl, nle rfl⟩ ⟨nle rfl, nle rfl⟩ dX12_clause_176 (by decide) rfl) (fun u_170 hp_171 => ?_)
                rcases hp_171 with ⟨a2_173, fl_174, k2_175, dp2_176, C2_177, V2_178, hu_180, hq_181, hfl_182, hr_183, hfC_184, hfV_185⟩ | ⟨a2_186, ts_187, hu_189, hq_190, hr2_191⟩
                ·
                  subst hu_180
                  refine ⟨rfl, ?_⟩
                  refine S_w (ws' := [(h0, ob 11 (uF (uF (uF f 3 (iv a2_173)) 4 (iv fl_174)) 5 (iv dp2_176))), (hT, ar 160 T), (hC, ar 1700 C2_177), (hV, ar 1700 V2_178), (hN, ar 5 (uZ Nk tx k2_175)), (hL, ar 5 (uZ Lk tx j)), (hTf, ar 450 (uZ Tf ((90 * tx) + j) k)), (hSf, ar 450 Sf), (hEf, ar 450 Ef)]) rfl ?_
                  refine S_aload_n X dX12_clause_179 rfl rfl ?_
                  refine S_callv X (kX12_goOnOr_E l h0 f a2_173 fl_174 dp2_176 (by omega) (by omega)) (is := [0]) rfl (run_V X lkX12_179 0 rfl rfl (is := [0]) (avs := []) (rest := []) rfl rfl (nle rfl) ⟨nle rfl, nle rfl⟩ ⟨nle rfl, nle rfl⟩ dX12_clause_180 (by decide) rfl) (fun u_192 hp_193 => ?_)
                  have hu_196 := hp_193
                  subst hu_196
                  refine ⟨rfl, ?_⟩
                  refine S_w (ws' := [(h0, ob 11 (uF (uF (uF f 3 (iv a2_173)) 4 (iv fl_174)) 5 (iv dp2_176))), (hT, ar 160 T), (hC, ar 1700 C2_177), (hV, ar 1700 V2_178), (hN, ar 5 (uZ Nk tx k2_175)), (hL, ar 5 (uZ Lk tx j)), (hTf, ar 450 (uZ Tf ((90 * tx) + j) k)), (hSf, ar 450 Sf), (hEf, ar 450 Ef)]) rfl ?_
                  refine S_aload_n X dX12_clause_183 rfl rfl ?_
                  refine S_get X fgX12_28_11 0 rfl hf8 dX12_clause_184 ?_
                  refine S_iload_n X dX12_clause_187 rfl rfl ?_
                  refine S_aload_n X dX12_clause_188 rfl rfl ?_
                  refine S_get X fgX12_25_11 0 rfl hf7 dX12_clause_189 ?_
                  refine S_iload_n X dX12_clause_192 rfl rfl ?_
                  refine S_iald X 6 rfl (by omega) (by omega) (nle rfl) dX12_clause_193 ?_
                  rw [show (uZ Tf ((90 * tx) + j) k) ((90 * tx) + j) = k from uZ_at]
                  refine S_iast X 7 rfl (by omega) (by omega) (nle rfl) dX12_clause_194 ?_
                  refine S_w (ws' := [(h0, ob 11 (uF (uF (uF f 3 (iv a2_173)) 4 (iv fl_174)) 5 (iv dp2_176))), (hT, ar 160 T), (hC, ar 1700 C2_177), (hV, ar 1700 V2_178), (hN, ar 5 (uZ Nk tx k2_175)), (hL, ar 5 (uZ Lk tx j)), (hTf, ar 450 (uZ Tf ((90 * tx) + j) k)), (hSf, ar 450 (uZ Sf ((90 * tx) + j) k)), (hEf, ar 450 Ef)]) rfl ?_
                  refine S_iload_n X dX12_clause_195 rfl rfl ?_
                  refine S_if_eq (tgt := 250) X dX12_clause_196 (by decide) (by decide) (fun h9 => absurd h9 (by decide)) (fun _ => ?_)
                  refine S_aload_n X dX12_clause_199 rfl rfl ?_
                  refine S_get (v := iv fl_174) X fgX12_118_11 0 rfl rfl dX12_clause_200 ?_
                  refine S_iconst X dX12_clause_203 ?_
                  refine S_icmp_ne (tgt := 250) X dX12_clause_204 (by decide) (by omega) (by decide) (fun c_198 => ?_) (fun c_198 => by exfalso; omega)
                  refine S_aload_n X dX12_clause_250 rfl rfl ?_
                  refine S_get X fgX12_31_11 0 rfl hf9 dX12_clause_251 ?_
                  refine S_iload_n X dX12_clause_254 rfl rfl ?_
                  refine S_aload_n X dX12_clause_255 rfl rfl ?_
                  refine S_get X fgX12_19_11 0 rfl hf4 dX12_clause_256 ?_
                  refine S_aload_n X dX12_clause_259 rfl rfl ?_
                  refine S_get X fgX12_121_11 0 rfl hf5 dX12_clause_260 ?_
                  refine S_iald X 4 rfl (by omega) (by omega) (nle rfl) dX12_clause_263 ?_
                  rw [show (uZ Nk tx k2_175) tx = k2_175 from uZ_at]
                  refine S_iast X 8 rfl (by omega) (by omega) (nle rfl) dX12_clause_264 ?_
                  refine S_w (ws' := [(h0, ob 11 (uF (uF (uF f 3 (iv a2_173)) 4 (iv fl_174)) 5 (iv dp2_176))), (hT, ar 160 T), (hC, ar 1700 C2_177), (hV, ar 1700 V2_178), (hN, ar 5 (uZ Nk tx k2_175)), (hL, ar 5 (uZ Lk tx j)), (hTf, ar 450 (uZ Tf ((90 * tx) + j) k)), (hSf, ar 450 (uZ Sf ((90 * tx) + j) k)), (hEf, ar 450 (uZ Ef ((90 * tx) + j) k2_175))]) rfl ?_
                  refine S_aload_n X dX12_clause_265 rfl rfl ?_
                  refine S_get X fgX12_22_11 0 rfl hf6 dX12_clause_266 ?_
                  refine S_aload_n X dX12_clause_269 rfl rfl ?_
                  refine S_get X fgX12_121_11 0 rfl hf5 dX12_clause_270 ?_
                  refine S_dup2 X dX12_clause_273 ?_
                  refine S_iald X 5 rfl (by omega) (by omega) (nle rfl) dX12_clause_274 ?_
                  rw [show (uZ Lk tx j) tx = j from uZ_at]
                  refine S_iconst X dX12_clause_275 ?_
                  refine S_iadd X dX12_clause_276 ?_
                  refine S_iast X 5 rfl (by omega) (by omega) (nle rfl) dX12_clause_277 ?_
                  refine S_w (ws' := [(h0, ob 11 (uF (uF (uF f 3 (iv a2_173)) 4 (iv fl_174)) 5 (iv dp2_176))), (hT, ar 160 T), (hC, ar 1700 C2_177), (hV, ar 1700 V2_178), (hN, ar 5 (uZ Nk tx k2_175)), (hL, ar 5 (uZ (uZ Lk tx j) tx (j + 1))), (hTf, ar 450 (uZ Tf ((90 * tx) + j) k)), (hSf, ar 450 (uZ Sf ((90 * tx) + j) k)), (hEf, ar 450 (uZ Ef ((90 * tx) + j) k2_175))]) rfl ?_
                  refine S_w (ws' := [(h0, ob 11 (uF (uF (uF f 3 (iv a2_173)) 4 (iv fl_174)) 5 (iv dp2_176))), (hT, ar 160 T), (hC, ar 1700 C2_177), (hV, ar 1700 V2_178), (hN, ar 5 (uZ Nk tx k2_175)), (hL, ar 5 (uZ Lk tx (j + 1))), (hTf, ar 450 (uZ Tf ((90 * tx) + j) k)), (hSf, ar 450 (uZ Sf ((90 * tx) + j) k)), (hEf, ar 450 (uZ Ef ((90 * tx) + j) k2_175))]) (by simp only [uZ_same, List.length_nil, Int.natCast_zero, Int.add_zero, List.nil_append]) ?_
                  exact S_vret X (nle rfl) (nle rfl) dX12_clause_278 (hPo _ (Or.inl ⟨_, _, _, _, _, _, _, _, _, _, rfl, ls_mf (by omega) (by omega) (by omega) hq_110 (by omega) hq_156 (more_af hn1 (by omega) hq_181), by omega, by first | exact frm_0 | assumption | exact frm_r (by omega) (by omega) | exact frm_w (by assumption) (by omega) (by omega) | exact frm_p frm_0 (by omega) | exact frm_p (by assumption) (by omega) | exact frm_p (frm_w (by assumption) (by omega) (by omega)) (by omega), by first | exact frm_0 | assumption | exact frm_r (by omega) (by omega) | exact frm_w (by assumption) (by omega) (by omega) | exact frm_p frm_0 (by omega) | exact frm_p (by assumption) (by omega) | exact frm_p (frm_w (by assumption) (by omega) (by omega)) (by omega), by first | exact frp_0 | exact frp_1 frp_0 (by omega) | exact frp_1 (frp_1 frp_0 (by omega)) (by omega), by first | exact frp_0 | exact frp_1 frp_0 (by omega) | exact frp_1 (frp_1 frp_0 (by omega)) (by omega), by first | exact frp_0 | exact frp_1 frp_0 (by omega) | exact frp_1 (frp_1 frp_0 (by omega)) (by omega)⟩))
                ·
                  subst hu_189
                  refine ⟨rfl, ?_⟩
                  refine S_w (ws' := [(h0, ob 11 (uF (uF (uF f 3 (iv a2_186)) 4 (iv (-1))) 5 (iv 0))), (hT, ar 160 T), (hC, ar 1700 (wrL C (340 * tx + k) (List.map kC ts_187))), (hV, ar 1700 (wrL V (340 * tx + k) (List.map kV ts_187))), (hN, ar 5 (uZ Nk tx (k + ((ts_187).length : Int)))), (hL, ar 5 (uZ Lk tx j)), (hTf, ar 450 (uZ Tf ((90 * tx) + j) k)), (hSf, ar 450 Sf), (hEf, ar 450 Ef)]) rfl ?_
                  have hsk_199 := sk_in (T := T) (n := n) (a := a2_186) (by omega)
                  have hcm_199 := chM_or okT (a := sk T n a2_186) (by omega) (by omega)
                  refine S_aload_n X dX12_clause_179 rfl rfl ?_
                  refine S_callv X ((ref_or6 l) h0 hT f T n a2_186 0 hC hV hN C V Nk tx k ts_187 hf0 hf1 hf2 hf3 hf4 hf5 (by omega) (by omega) (by omega) (by omega) (by omega)) (is := [0, 1, 2, 3, 4]) rfl (run_V X lkX12_179 0 rfl rfl (is := [0, 1, 2, 3, 4]) (avs := []) (rest := []) rfl rfl (nle rfl) ⟨nle rfl, nle rfl⟩ ⟨nle rfl, nle rfl⟩ dX12_clause_180 (by decide) rfl) (fun u_200 hp_201 => ?_)
                  rcases hp_201 with ⟨a2_203, fl_204, k2_205, dp2_206, C2_207, V2_208, hu_210, hq_211, hfl_212, hr_213, hfC_214, hfV_215⟩ | ⟨a2_216, ts_217, hu_219, hq_220, hr2_221⟩
                  ·
                    subst hu_210
                    refine ⟨rfl, ?_⟩
                    refine S_w (ws' := [(h0, ob 11 (uF (uF (uF f 3 (iv a2_203)) 4 (iv fl_204)) 5 (iv dp2_206))), (hT, ar 160 T), (hC, ar 1700 C2_207), (hV, ar 1700 V2_208), (hN, ar 5 (uZ Nk tx k2_205)), (hL, ar 5 (uZ Lk tx j)), (hTf, ar 450 (uZ Tf ((90 * tx) + j) k)), (hSf, ar 450 Sf), (hEf, ar 450 Ef)]) rfl ?_
                    refine S_aload_n X dX12_clause_183 rfl rfl ?_
                    refine S_get X fgX12_28_11 0 rfl hf8 dX12_clause_184 ?_
                    refine S_iload_n X dX12_clause_187 rfl rfl ?_
                    refine S_aload_n X dX12_clause_188 rfl rfl ?_
                    refine S_get X fgX12_25_11 0 rfl hf7 dX12_clause_189 ?_
                    refine S_iload_n X dX12_clause_192 rfl rfl ?_
                    refine S_iald X 6 rfl (by omega) (by omega) (nle rfl) dX12_clause_193 ?_
                    rw [show (uZ Tf ((90 * tx) + j) k) ((90 * tx) + j) = k from uZ_at]
                    refine S_iast X 7 rfl (by omega) (by omega) (nle rfl) dX12_clause_194 ?_
                    refine S_w (ws' := [(h0, ob 11 (uF (uF (uF f 3 (iv a2_203)) 4 (iv fl_204)) 5 (iv dp2_206))), (hT, ar 160 T), (hC, ar 1700 C2_207), (hV, ar 1700 V2_208), (hN, ar 5 (uZ Nk tx k2_205)), (hL, ar 5 (uZ Lk tx j)), (hTf, ar 450 (uZ Tf ((90 * tx) + j) k)), (hSf, ar 450 (uZ Sf ((90 * tx) + j) k)), (hEf, ar 450 Ef)]) rfl ?_
                    refine S_iload_n X dX12_clause_195 rfl rfl ?_
                    refine S_if_eq (tgt := 250) X dX12_clause_196 (by decide) (by decide) (fun h9 => absurd h9 (by decide)) (fun _ => ?_)
                    refine S_aload_n X dX12_clause_199 rfl rfl ?_
                    refine S_get (v := iv fl_204) X fgX12_118_11 0 rfl rfl dX12_clause_200 ?_
                    refine S_iconst X dX12_clause_203 ?_
                    refine S_icmp_ne (tgt := 250) X dX12_clause_204 (by decide) (by omega) (by decide) (fun c_223 => ?_) (fun c_223 => by exfalso; omega)
                    refine S_aload_n X dX12_clause_250 rfl rfl ?_
                    refine S_get X fgX12_31_11 0 rfl hf9 dX12_clause_251 ?_
                    refine S_iload_n X dX12_clause_254 rfl rfl ?_
                    refine S_aload_n X dX12_clause_255 rfl rfl ?_
                    refine S_get X fgX12_19_11 0 rfl hf4 dX12_clause_256 ?_
                    refine S_aload_n X dX12_clause_259 rfl rfl ?_
                    refine S_get X fgX12_121_11 0 rfl hf5 dX12_clause_260 ?_
                    refine S_iald X 4 rfl (by omega) (by omega) (nle rfl) dX12_clause_263 ?_
                    rw [show (uZ Nk tx k2_205) tx = k2_205 from uZ_at]
                    refine S_iast X 8 rfl (by omega) (by omega) (nle rfl) dX12_clause_264 ?_
                    refine S_w (ws' := [(h0, ob 11 (uF (uF (uF f 3 (iv a2_203)) 4 (iv fl_204)) 5 (iv dp2_206))), (hT, ar 160 T), (hC, ar 1700 C2_207), (hV, ar 1700 V2_208), (hN, ar 5 (uZ Nk tx k2_205)), (hL, ar 5 (uZ Lk tx j)), (hTf, ar 450 (uZ Tf ((90 * tx) + j) k)), (hSf, ar 450 (uZ Sf ((90 * tx) + j) k)), (hEf, ar 450 (uZ Ef ((90 * tx) + j) k2_205))]) rfl ?_
                    refine S_aload_n X dX12_clause_265 rfl rfl ?_
                    refine S_get X fgX12_22_11 0 rfl hf6 dX12_clause_266 ?_
                    refine S_aload_n X dX12_clause_269 rfl rfl ?_
                    refine S_get X fgX12_121_11 0 rfl hf5 dX12_clause_270 ?_
                    refine S_dup2 X dX12_clause_273 ?_
                    refine S_iald X 5 rfl (by omega) (by omega) (nle rfl) dX12_clause_274 ?_
                    rw [show (uZ Lk tx j) tx = j from uZ_at]
                    refine S_iconst X dX12_clause_275 ?_
                    refine S_iadd X dX12_clause_276 ?_
                    refine S_iast X 5 rfl (by omega) (by omega) (nle rfl) dX12_clause_277 ?_
                    refine S_w (ws' := [(h0, ob 11 (uF (uF (uF f 3 (iv a2_203)) 4 (iv fl_204)) 5 (iv dp2_206))), (hT, ar 160 T), (hC, ar 1700 C2_207), (hV, ar 1700 V2_208), (hN, ar 5 (uZ Nk tx k2_205)), (hL, ar 5 (uZ (uZ Lk tx j) tx (j + 1))), (hTf, ar 450 (uZ Tf ((90 * tx) + j) k)), (hSf, ar 450 (uZ Sf ((90 * tx) + j) k)), (hEf, ar 450 (uZ Ef ((90 * tx) + j) k2_205))]) rfl ?_
                    refine S_w (ws' := [(h0, ob 11 (uF (uF (uF f 3 (iv a2_203)) 4 (iv fl_204)) 5 (iv dp2_206))), (hT, ar 160 T), (hC, ar 1700 C2_207), (hV, ar 1700 V2_208), (hN, ar 5 (uZ Nk tx k2_205)), (hL, ar 5 (uZ Lk tx (j + 1))), (hTf, ar 450 (uZ Tf ((90 * tx) + j) k)), (hSf, ar 450 (uZ Sf ((90 * tx) + j) k)), (hEf, ar 450 (uZ Ef ((90 * tx) + j) k2_205))]) (by simp only [uZ_same, List.length_nil, Int.natCast_zero, Int.add_zero, List.nil_append]) ?_
                    exact S_vret X (nle rfl) (nle rfl) dX12_clause_278 (hPo _ (Or.inl ⟨_, _, _, _, _, _, _, _, _, _, rfl, ls_mf (by omega) (by omega) (by omega) hq_110 (by omega) hq_156 (more_o hn1 (by omega) hq_190 hq_211), by omega, by first | exact frm_0 | assumption | exact frm_r (by omega) (by omega) | exact frm_w (by assumption) (by omega) (by omega) | exact frm_p frm_0 (by omega) | exact frm_p (by assumption) (by omega) | exact frm_p (frm_w (by assumption) (by omega) (by omega)) (by omega), by first | exact frm_0 | assumption | exact frm_r (by omega) (by omega) | exact frm_w (by assumption) (by omega) (by omega) | exact frm_p frm_0 (by omega) | exact frm_p (by assumption) (by omega) | exact frm_p (frm_w (by assumption) (by omega) (by omega)) (by omega), by first | exact frp_0 | exact frp_1 frp_0 (by omega) | exact frp_1 (frp_1 frp_0 (by omega)) (by omega), by first | exact frp_0 | exact frp_1 frp_0 (by omega) | exact frp_1 (frp_1 frp_0 (by omega)) (by omega), by first | exact frp_0 | exact frp_1 frp_0 (by omega) | exact frp_1 (frp_1 frp_0 (by omega)) (by omega)⟩))
                  ·
                    subst hu_219
                    refine ⟨rfl, ?_⟩
                    refine S_w (ws' := [(h0, ob 11 (uF (uF (uF f 3 (iv a2_216)) 4 (iv (-1))) 5 (iv 0))), (hT, ar 160 T), (hC, ar 1700 (wrL C (340 * tx + k) (List.map kC ts_217))), (hV, ar 1700 (wrL V (340 * tx + k) (List.map kV ts_217))), (hN, ar 5 (uZ Nk tx (k + ((ts_217).length : Int)))), (hL, ar 5 (uZ Lk tx j)), (hTf, ar 450 (uZ Tf ((90 * tx) + j) k)), (hSf, ar 450 Sf), (hEf, ar 450 Ef)]) rfl ?_
                    have hsk_224 := sk_in (T := T) (n := n) (a := a2_216) (by omega)
                    have hcm_224 := chM_or okT (a := sk T n a2_216) (by omega) (by omega)
                    refine S_aload_n X dX12_clause_183 rfl rfl ?_
                    refine S_get X fgX12_28_11 0 rfl hf8 dX12_clause_184 ?_
                    refine S_iload_n X dX12_clause_187 rfl rfl ?_
                    refine S_aload_n X dX12_clause_188 rfl rfl ?_
                    refine S_get X fgX12_25_11 0 rfl hf7 dX12_clause_189 ?_
                    refine S_iload_n X dX12_clause_192 rfl rfl ?_
                    refine S_iald X 6 rfl (by omega) (by omega) (nle rfl) dX12_clause_193 ?_
                    rw [show (uZ Tf ((90 * tx) + j) k) ((90 * tx) + j) = k from uZ_at]
                    refine S_iast X 7 rfl (by omega) (by omega) (nle rfl) dX12_clause_194 ?_
                    refine S_w (ws' := [(h0, ob 11 (uF (uF (uF f 3 (iv a2_216)) 4 (iv (-1))) 5 (iv 0))), (hT, ar 160 T), (hC, ar 1700 (wrL C (340 * tx + k) (List.map kC ts_217))), (hV, ar 1700 (wrL V (340 * tx + k) (List.map kV ts_217))), (hN, ar 5 (uZ Nk tx (k + ((ts_217).length : Int)))), (hL, ar 5 (uZ Lk tx j)), (hTf, ar 450 (uZ Tf ((90 * tx) + j) k)), (hSf, ar 450 (uZ Sf ((90 * tx) + j) k)), (hEf, ar 450 Ef)]) rfl ?_
                    refine S_iload_n X dX12_clause_195 rfl rfl ?_
                    refine S_if_eq (tgt := 250) X dX12_clause_196 (by decide) (by decide) (fun h9 => absurd h9 (by decide)) (fun _ => ?_)
                    refine S_aload_n X dX12_clause_199 rfl rfl ?_
                    refine S_get (v := iv (-1)) X fgX12_118_11 0 rfl rfl dX12_clause_200 ?_
                    refine S_iconst X dX12_clause_203 ?_
                    refine S_icmp_ne (tgt := 250) X dX12_clause_204 (by decide) (by decide) (by decide) (fun h9 => absurd h9 (by decide)) (fun _ => ?_)
                    refine S_aload_n X dX12_clause_207 rfl rfl ?_
                    refine S_calli X (kX12_look l h0 hT f T n a2_216 (-1) 0 hf0 hf1 (by omega) (by omega)) (is := [0, 1]) rfl (run_V X lkX12_130 0 rfl rfl (is := [0, 1]) (avs := []) (rest := []) rfl rfl (nle rfl) ⟨nle rfl, nle rfl⟩ ⟨nle rfl, nle rfl⟩ dX12_clause_208 (by decide) rfl) (fun z_229 u_227 hp_228 => ?_)
                    obtain ⟨hz_230, hu_231⟩ := hp_228
                    subst hz_230
                    subst hu_231
                    refine ⟨rfl, ?_⟩
                    refine S_w (ws' := [(h0, ob 11 (uF (uF (uF f 3 (iv (sk T n a2_216))) 4 (iv (-1))) 5 (iv 0))), (hT, ar 160 T), (hC, ar 1700 (wrL C (340 * tx + k) (List.map kC ts_217))), (hV, ar 1700 (wrL V (340 * tx + k) (List.map kV ts_217))), (hN, ar 5 (uZ Nk tx (k + ((ts_217).length : Int)))), (hL, ar 5 (uZ Lk tx j)), (hTf, ar 450 (uZ Tf ((90 * tx) + j) k)), (hSf, ar 450 (uZ Sf ((90 * tx) + j) k)), (hEf, ar 450 Ef)]) rfl ?_
                    refine S_bipush X dX12_clause_211 rfl ?_
                    refine S_icmp_eq (tgt := 221) X dX12_clause_213 (by decide) (by omega) (by decide) (fun c_232 => ?_) (fun c_232 => ?_)
                    ·
                      refine S_aload_n X dX12_clause_221 rfl rfl ?_
                      refine S_dup X dX12_clause_222 ?_
                      refine S_get (v := iv (sk T n a2_216)) X fgX12_111_11 0 rfl rfl dX12_clause_223 ?_
                      refine S_iconst X dX12_clause_226 ?_
                      refine S_iadd X dX12_clause_227 ?_
                      refine S_put X fpX12_111_11 0 rfl FT_i dX12_clause_228 ?_
                      refine S_w (ws' := [(h0, ob 11 (uF (uF (uF f 3 (iv ((sk T n a2_216) + 1))) 4 (iv (-1))) 5 (iv 0))), (hT, ar 160 T), (hC, ar 1700 (wrL C (340 * tx + k) (List.map kC ts_217))), (hV, ar 1700 (wrL V (340 * tx + k) (List.map kV ts_217))), (hN, ar 5 (uZ Nk tx (k + ((ts_217).length : Int)))), (hL, ar 5 (uZ Lk tx j)), (hTf, ar 450 (uZ Tf ((90 * tx) + j) k)), (hSf, ar 450 (uZ Sf ((90 * tx) + j) k)), (hEf, ar 450 Ef)]) (by simp only [List.set]; rw [uF_mv (j := 5) (k := 3) (by decide), uF_mv (j := 4) (k := 3) (by decide), uF_same (k := 3)]) ?_
                      refine S_aload_n X dX12_clause_231 rfl rfl ?_
                      refine S_get X fgX12_28_11 0 rfl hf8 dX12_clause_232 ?_
                      refine S_iload_n X dX12_clause_235 rfl rfl ?_
                      refine S_aload_n X dX12_clause_236 rfl rfl ?_
                      refine S_get X fgX12_19_11 0 rfl hf4 dX12_clause_237 ?_
                      refine S_aload_n X dX12_clause_240 rfl rfl ?_
                      refine S_get X fgX12_121_11 0 rfl hf5 dX12_clause_241 ?_
                      refine S_iald X 4 rfl (by omega) (by omega) (nle rfl) dX12_clause_244 ?_
                      rw [show (uZ Nk tx (k + ((ts_217).length : Int))) tx = (k + ((ts_217).length : Int)) from uZ_at]
                      refine S_iast X 7 rfl (by omega) (by omega) (nle rfl) dX12_clause_245 ?_
                      refine S_w (ws' := [(h0, ob 11 (uF (uF (uF f 3 (iv ((sk T n a2_216) + 1))) 4 (iv (-1))) 5 (iv 0))), (hT, ar 160 T), (hC, ar 1700 (wrL C (340 * tx + k) (List.map kC ts_217))), (hV, ar 1700 (wrL V (340 * tx + k) (List.map kV ts_217))), (hN, ar 5 (uZ Nk tx (k + ((ts_217).length : Int)))), (hL, ar 5 (uZ Lk tx j)), (hTf, ar 450 (uZ Tf ((90 * tx) + j) k)), (hSf, ar 450 (uZ (uZ Sf ((90 * tx) + j) k) ((90 * tx) + j) (k + ((ts_217).length : Int)))), (hEf, ar 450 Ef)]) rfl ?_
                      refine S_aload_n X dX12_clause_246 rfl rfl ?_
                      refine S_callv X ((ref_sum6 l) h0 hT f T n ((sk T n a2_216) + 1) 0 hC hV hN (wrL C (340 * tx + k) (List.map kC ts_217)) (wrL V (340 * tx + k) (List.map kV ts_217)) Nk tx (k + ((ts_217).length : Int)) hf0 hf1 hf2 hf3 hf4 hf5 (by omega) (by omega) (by omega) (by omega) (by omega)) (is := [0, 1, 2, 3, 4]) rfl (run_V X lkX12_151 0 rfl rfl (is := [0, 1, 2, 3, 4]) (avs := []) (rest := []) rfl rfl (nle rfl) ⟨nle rfl, nle rfl⟩ ⟨nle rfl, nle rfl⟩ dX12_clause_247 (by decide) rfl) (fun u_233 hp_234 => ?_)
                      rcases hp_234 with ⟨a2_236, fl_237, k2_238, dp2_239, C2_240, V2_241, hu_243, hq_244, hfl_245, hr_246, hfC_247, hfV_248⟩ | ⟨a2_249, ts_250, hu_252, hq_253⟩
                      ·
                        subst hu_243
                        refine ⟨rfl, ?_⟩
                        refine S_w (ws' := [(h0, ob 11 (uF (uF (uF f 3 (iv a2_236)) 4 (iv fl_237)) 5 (iv dp2_239))), (hT, ar 160 T), (hC, ar 1700 C2_240), (hV, ar 1700 V2_241), (hN, ar 5 (uZ Nk tx k2_238)), (hL, ar 5 (uZ Lk tx j)), (hTf, ar 450 (uZ Tf ((90 * tx) + j) k)), (hSf, ar 450 (uZ (uZ Sf ((90 * tx) + j) k) ((90 * tx) + j) (k + ((ts_217).length : Int)))), (hEf, ar 450 Ef)]) rfl ?_
                        refine S_aload_n X dX12_clause_250 rfl rfl ?_
                        refine S_get X fgX12_31_11 0 rfl hf9 dX12_clause_251 ?_
                        refine S_iload_n X dX12_clause_254 rfl rfl ?_
                        refine S_aload_n X dX12_clause_255 rfl rfl ?_
                        refine S_get X fgX12_19_11 0 rfl hf4 dX12_clause_256 ?_
                        refine S_aload_n X dX12_clause_259 rfl rfl ?_
                        refine S_get X fgX12_121_11 0 rfl hf5 dX12_clause_260 ?_
                        refine S_iald X 4 rfl (by omega) (by omega) (nle rfl) dX12_clause_263 ?_
                        rw [show (uZ Nk tx k2_238) tx = k2_238 from uZ_at]
                        refine S_iast X 8 rfl (by omega) (by omega) (nle rfl) dX12_clause_264 ?_
                        refine S_w (ws' := [(h0, ob 11 (uF (uF (uF f 3 (iv a2_236)) 4 (iv fl_237)) 5 (iv dp2_239))), (hT, ar 160 T), (hC, ar 1700 C2_240), (hV, ar 1700 V2_241), (hN, ar 5 (uZ Nk tx k2_238)), (hL, ar 5 (uZ Lk tx j)), (hTf, ar 450 (uZ Tf ((90 * tx) + j) k)), (hSf, ar 450 (uZ (uZ Sf ((90 * tx) + j) k) ((90 * tx) + j) (k + ((ts_217).length : Int)))), (hEf, ar 450 (uZ Ef ((90 * tx) + j) k2_238))]) rfl ?_
                        refine S_aload_n X dX12_clause_265 rfl rfl ?_
                        refine S_get X fgX12_22_11 0 rfl hf6 dX12_clause_266 ?_
                        refine S_aload_n X dX12_clause_269 rfl rfl ?_
                        refine S_get X fgX12_121_11 0 rfl hf5 dX12_clause_270 ?_
                        refine S_dup2 X dX12_clause_273 ?_
                        refine S_iald X 5 rfl (by omega) (by omega) (nle rfl) dX12_clause_274 ?_
                        rw [show (uZ Lk tx j) tx = j from uZ_at]
                        refine S_iconst X dX12_clause_275 ?_
                        refine S_iadd X dX12_clause_276 ?_
                        refine S_iast X 5 rfl (by omega) (by omega) (nle rfl) dX12_clause_277 ?_
                        refine S_w (ws' := [(h0, ob 11 (uF (uF (uF f 3 (iv a2_236)) 4 (iv fl_237)) 5 (iv dp2_239))), (hT, ar 160 T), (hC, ar 1700 C2_240), (hV, ar 1700 V2_241), (hN, ar 5 (uZ Nk tx k2_238)), (hL, ar 5 (uZ (uZ Lk tx j) tx (j + 1))), (hTf, ar 450 (uZ Tf ((90 * tx) + j) k)), (hSf, ar 450 (uZ (uZ Sf ((90 * tx) + j) k) ((90 * tx) + j) (k + ((ts_217).length : Int)))), (hEf, ar 450 (uZ Ef ((90 * tx) + j) k2_238))]) rfl ?_
                        refine S_w (ws' := [(h0, ob 11 (uF (uF (uF f 3 (iv a2_236)) 4 (iv fl_237)) 5 (iv dp2_239))), (hT, ar 160 T), (hC, ar 1700 C2_240), (hV, ar 1700 V2_241), (hN, ar 5 (uZ Nk tx k2_238)), (hL, ar 5 (uZ Lk tx (j + 1))), (hTf, ar 450 (uZ Tf ((90 * tx) + j) k)), (hSf, ar 450 (uZ (uZ Sf ((90 * tx) + j) k) ((90 * tx) + j) (k + ((ts_217).length : Int)))), (hEf, ar 450 (uZ Ef ((90 * tx) + j) k2_238))]) (by simp only [uZ_same, List.length_nil, Int.natCast_zero, Int.add_zero, List.nil_append]) ?_
                        exact S_vret X (nle rfl) (nle rfl) dX12_clause_278 (hPo _ (Or.inl ⟨_, _, _, _, _, _, _, _, _, _, rfl, ls_m (by omega) (by omega) (by omega) hq_110 (by omega) hq_156 (more_o hn1 (by omega) hq_190 hq_220) (ss_f (by omega) hq_244), by omega, by first | exact frm_0 | assumption | exact frm_r (by omega) (by omega) | exact frm_w (by assumption) (by omega) (by omega) | exact frm_p frm_0 (by omega) | exact frm_p (by assumption) (by omega) | exact frm_p (frm_w (by assumption) (by omega) (by omega)) (by omega), by first | exact frm_0 | assumption | exact frm_r (by omega) (by omega) | exact frm_w (by assumption) (by omega) (by omega) | exact frm_p frm_0 (by omega) | exact frm_p (by assumption) (by omega) | exact frm_p (frm_w (by assumption) (by omega) (by omega)) (by omega), by first | exact frp_0 | exact frp_1 frp_0 (by omega) | exact frp_1 (frp_1 frp_0 (by omega)) (by omega), by first | exact frp_0 | exact frp_1 frp_0 (by omega) | exact frp_1 (frp_1 frp_0 (by omega)) (by omega), by first | exact frp_0 | exact frp_1 frp_0 (by omega) | exact frp_1 (frp_1 frp_0 (by omega)) (by omega)⟩))
                      ·
                        subst hu_252
                        refine ⟨rfl, ?_⟩
                        refine S_w (ws' := [(h0, ob 11 (uF (uF (uF f 3 (iv a2_249)) 4 (iv (-1))) 5 (iv 0))), (hT, ar 160 T), (hC, ar 1700 (wrL (wrL C (340 * tx + k) (List.map kC ts_217)) (340 * tx + (k + ((ts_217).length : Int))) (List.map kC ts_250))), (hV, ar 1700 (wrL (wrL V (340 * tx + k) (List.map kV ts_217)) (340 * tx + (k + ((ts_217).length : Int))) (List.map kV ts_250))), (hN, ar 5 (uZ Nk tx ((k + ((ts_217).length : Int)) + ((ts_250).length : Int)))), (hL, ar 5 (uZ Lk tx j)), (hTf, ar 450 (uZ Tf ((90 * tx) + j) k)), (hSf, ar 450 (uZ (uZ Sf ((90 * tx) + j) k) ((90 * tx) + j) (k + ((ts_217).length : Int)))), (hEf, ar 450 Ef)]) rfl ?_
                        refine S_w (ws' := [(h0, ob 11 (uF (uF (uF f 3 (iv a2_249)) 4 (iv (-1))) 5 (iv 0))), (hT, ar 160 T), (hC, ar 1700 (wrL C (340 * tx + k) (List.map kC (ts_217 ++ ts_250)))), (hV, ar 1700 (wrL V (340 * tx + k) (List.map kV (ts_217 ++ ts_250)))), (hN, ar 5 (uZ Nk tx ((k + ((ts_217).length : Int)) + ((ts_250).length : Int)))), (hL, ar 5 (uZ Lk tx j)), (hTf, ar 450 (uZ Tf ((90 * tx) + j) k)), (hSf, ar 450 (uZ (uZ Sf ((90 * tx) + j) k) ((90 * tx) + j) (k + ((ts_217).length : Int)))), (hEf, ar 450 Ef)]) (by simp only [rW_app]) ?_
                        have ho_254 := ((pAS_ok (T := T) hn1 6).2 _ (by omega) (by omega)).2 _ hq_253
                        dsimp only at ho_254
                        refine S_aload_n X dX12_clause_250 rfl rfl ?_
                        refine S_get X fgX12_31_11 0 rfl hf9 dX12_clause_251 ?_
                        refine S_iload_n X dX12_clause_254 rfl rfl ?_
                        refine S_aload_n X dX12_clause_255 rfl rfl ?_
                        refine S_get X fgX12_19_11 0 rfl hf4 dX12_clause_256 ?_
                        refine S_aload_n X dX12_clause_259 rfl rfl ?_
                        refine S_get X fgX12_121_11 0 rfl hf5 dX12_clause_260 ?_
                        refine S_iald X 4 rfl (by omega) (by omega) (nle rfl) dX12_clause_263 ?_
                        rw [show (uZ Nk tx ((k + ((ts_217).length : Int)) + ((ts_250).length : Int))) tx = ((k + ((ts_217).length : Int)) + ((ts_250).length : Int)) from uZ_at]
                        refine S_iast X 8 rfl (by omega) (by omega) (nle rfl) dX12_clause_264 ?_
                        refine S_w (ws' := [(h0, ob 11 (uF (uF (uF f 3 (iv a2_249)) 4 (iv (-1))) 5 (iv 0))), (hT, ar 160 T), (hC, ar 1700 (wrL C (340 * tx + k) (List.map kC (ts_217 ++ ts_250)))), (hV, ar 1700 (wrL V (340 * tx + k) (List.map kV (ts_217 ++ ts_250)))), (hN, ar 5 (uZ Nk tx ((k + ((ts_217).length : Int)) + ((ts_250).length : Int)))), (hL, ar 5 (uZ Lk tx j)), (hTf, ar 450 (uZ Tf ((90 * tx) + j) k)), (hSf, ar 450 (uZ (uZ Sf ((90 * tx) + j) k) ((90 * tx) + j) (k + ((ts_217).length : Int)))), (hEf, ar 450 (uZ Ef ((90 * tx) + j) ((k + ((ts_217).length : Int)) + ((ts_250).length : Int))))]) rfl ?_
                        refine S_aload_n X dX12_clause_265 rfl rfl ?_
                        refine S_get X fgX12_22_11 0 rfl hf6 dX12_clause_266 ?_
                        refine S_aload_n X dX12_clause_269 rfl rfl ?_
                        refine S_get X fgX12_121_11 0 rfl hf5 dX12_clause_270 ?_
                        refine S_dup2 X dX12_clause_273 ?_
                        refine S_iald X 5 rfl (by omega) (by omega) (nle rfl) dX12_clause_274 ?_
                        rw [show (uZ Lk tx j) tx = j from uZ_at]
                        refine S_iconst X dX12_clause_275 ?_
                        refine S_iadd X dX12_clause_276 ?_
                        refine S_iast X 5 rfl (by omega) (by omega) (nle rfl) dX12_clause_277 ?_
                        refine S_w (ws' := [(h0, ob 11 (uF (uF (uF f 3 (iv a2_249)) 4 (iv (-1))) 5 (iv 0))), (hT, ar 160 T), (hC, ar 1700 (wrL C (340 * tx + k) (List.map kC (ts_217 ++ ts_250)))), (hV, ar 1700 (wrL V (340 * tx + k) (List.map kV (ts_217 ++ ts_250)))), (hN, ar 5 (uZ Nk tx ((k + ((ts_217).length : Int)) + ((ts_250).length : Int)))), (hL, ar 5 (uZ (uZ Lk tx j) tx (j + 1))), (hTf, ar 450 (uZ Tf ((90 * tx) + j) k)), (hSf, ar 450 (uZ (uZ Sf ((90 * tx) + j) k) ((90 * tx) + j) (k + ((ts_217).length : Int)))), (hEf, ar 450 (uZ Ef ((90 * tx) + j) ((k + ((ts_217).length : Int)) + ((ts_250).length : Int))))]) rfl ?_
                        refine S_w (ws' := [(h0, ob 11 (uF (uF (uF f 3 (iv a2_249)) 4 (iv (-1))) 5 (iv 0))), (hT, ar 160 T), (hC, ar 1700 (wrL C (340 * tx + k) (List.map kC (ts_217 ++ ts_250)))), (hV, ar 1700 (wrL V (340 * tx + k) (List.map kV (ts_217 ++ ts_250)))), (hN, ar 5 (uZ Nk tx (k + ((ts_217 : List Int).length : Int) + ((ts_250 : List Int).length : Int)))), (hL, ar 5 (uZ Lk tx (j + 1))), (hTf, ar 450 (uZ Tf ((90 * tx) + j) k)), (hSf, ar 450 (uZ Sf (90 * tx + j) (k + ((ts_217 : List Int).length : Int)))), (hEf, ar 450 (uZ Ef (90 * tx + j) (k + ((ts_217 : List Int).length : Int) + ((ts_250 : List Int).length : Int))))]) (by simp only [uZ_same, List.length_nil, Int.natCast_zero, Int.add_zero, List.nil_append]) ?_
                        exact S_vret X (nle rfl) (nle rfl) dX12_clause_278 (hPo _ (Or.inr ⟨_, ts_217, ts_250, rfl, ls_m (by omega) (by omega) (by omega) hq_110 (by omega) hq_156 (more_o hn1 (by omega) hq_190 hq_220) (ss_r (by omega) hq_253)⟩))
                    ·
                      refine S_aload_n X dX12_clause_216 rfl rfl ?_
                      refine S_callv X (kX12_bad l h0 f (sk T n a2_216) (-1) 0 (by omega)) (is := [0]) rfl (run_V X lkX12_127 0 rfl rfl (is := [0]) (avs := []) (rest := []) rfl rfl (nle rfl) ⟨nle rfl, nle rfl⟩ ⟨nle rfl, nle rfl⟩ dX12_clause_217 (by decide) rfl) (fun u_255 hp_256 => ?_)
                      have hu_259 := hp_256
                      subst hu_259
                      refine ⟨rfl, ?_⟩
                      refine S_w (ws' := [(h0, ob 11 (uF (uF (uF f 3 (iv (sk T n a2_216))) 4 (iv (sk T n a2_216))) 5 (iv 0))), (hT, ar 160 T), (hC, ar 1700 (wrL C (340 * tx + k) (List.map kC ts_217))), (hV, ar 1700 (wrL V (340 * tx + k) (List.map kV ts_217))), (hN, ar 5 (uZ Nk tx (k + ((ts_217).length : Int)))), (hL, ar 5 (uZ Lk tx j)), (hTf, ar 450 (uZ Tf ((90 * tx) + j) k)), (hSf, ar 450 (uZ Sf ((90 * tx) + j) k)), (hEf, ar 450 Ef)]) rfl ?_
                      exact S_vret X (nle rfl) (nle rfl) dX12_clause_220 (hPo _ (Or.inl ⟨_, _, _, _, _, _, _, _, _, _, rfl, ls_m (by omega) (by omega) (by omega) hq_110 (by omega) hq_156 (more_o hn1 (by omega) hq_190 hq_220) (ss_n (by omega)), by omega, by first | exact frm_0 | assumption | exact frm_r (by omega) (by omega) | exact frm_w (by assumption) (by omega) (by omega) | exact frm_p frm_0 (by omega) | exact frm_p (by assumption) (by omega) | exact frm_p (frm_w (by assumption) (by omega) (by omega)) (by omega), by first | exact frm_0 | assumption | exact frm_r (by omega) (by omega) | exact frm_w (by assumption) (by omega) (by omega) | exact frm_p frm_0 (by omega) | exact frm_p (by assumption) (by omega) | exact frm_p (frm_w (by assumption) (by omega) (by omega)) (by omega), by first | exact frp_0 | exact frp_1 frp_0 (by omega) | exact frp_1 (frp_1 frp_0 (by omega)) (by omega), by first | exact frp_0 | exact frp_1 frp_0 (by omega) | exact frp_1 (frp_1 frp_0 (by omega)) (by omega), by first | exact frp_0 | exact frp_1 frp_0 (by omega) | exact frp_1 (frp_1 frp_0 (by omega)) (by omega)⟩))
        ·
          refine S_iconst X dX12_clause_122 ?_
          refine S_goto (tgt := 127) X dX12_clause_123 (by decide) ?_
          refine S_istore_n X dX12_clause_127 rfl (nle rfl) ?_
          refine S_iload_n X dX12_clause_128 rfl rfl ?_
          refine S_if_eq (tgt := 139) X dX12_clause_129 (by decide) (by decide) (fun h9 => absurd h9 (by decide)) (fun _ => ?_)
          refine S_aload_n X dX12_clause_132 rfl rfl ?_
          refine S_callv X ((ref_cond6 l) h0 hT f T n (sk T n ((sk T n ((sk T n a) + 1)) + 1)) 0 hC hV hN C V Nk tx k hf0 hf1 hf2 hf3 hf4 hf5 (by omega) (by omega) (by omega) (by omega) (by omega)) (is := [0, 1, 2, 3, 4]) rfl (run_V X lkX12_170 0 rfl rfl (is := [0, 1, 2, 3, 4]) (avs := []) (rest := []) rfl rfl (nle rfl) ⟨nle rfl, nle rfl⟩ ⟨nle rfl, nle rfl⟩ dX12_clause_133 (by decide) rfl) (fun u_261 hp_262 => ?_)
          rcases hp_262 with ⟨a2_264, fl_265, k2_266, dp2_267, C2_268, V2_269, hu_271, hq_272, hfl_273, hr_274, hfC_275, hfV_276⟩ | ⟨a2_277, ts_278, hu_280, hq_281⟩
          ·
            subst hu_271
            refine ⟨rfl, ?_⟩
            refine S_w (ws' := [(h0, ob 11 (uF (uF (uF f 3 (iv a2_264)) 4 (iv fl_265)) 5 (iv dp2_267))), (hT, ar 160 T), (hC, ar 1700 C2_268), (hV, ar 1700 V2_269), (hN, ar 5 (uZ Nk tx k2_266)), (hL, ar 5 (uZ Lk tx j)), (hTf, ar 450 (uZ Tf ((90 * tx) + j) k)), (hSf, ar 450 Sf), (hEf, ar 450 Ef)]) rfl ?_
            refine S_goto (tgt := 183) X dX12_clause_136 (by decide) ?_
            refine S_aload_n X dX12_clause_183 rfl rfl ?_
            refine S_get X fgX12_28_11 0 rfl hf8 dX12_clause_184 ?_
            refine S_iload_n X dX12_clause_187 rfl rfl ?_
            refine S_aload_n X dX12_clause_188 rfl rfl ?_
            refine S_get X fgX12_25_11 0 rfl hf7 dX12_clause_189 ?_
            refine S_iload_n X dX12_clause_192 rfl rfl ?_
            refine S_iald X 6 rfl (by omega) (by omega) (nle rfl) dX12_clause_193 ?_
            rw [show (uZ Tf ((90 * tx) + j) k) ((90 * tx) + j) = k from uZ_at]
            refine S_iast X 7 rfl (by omega) (by omega) (nle rfl) dX12_clause_194 ?_
            refine S_w (ws' := [(h0, ob 11 (uF (uF (uF f 3 (iv a2_264)) 4 (iv fl_265)) 5 (iv dp2_267))), (hT, ar 160 T), (hC, ar 1700 C2_268), (hV, ar 1700 V2_269), (hN, ar 5 (uZ Nk tx k2_266)), (hL, ar 5 (uZ Lk tx j)), (hTf, ar 450 (uZ Tf ((90 * tx) + j) k)), (hSf, ar 450 (uZ Sf ((90 * tx) + j) k)), (hEf, ar 450 Ef)]) rfl ?_
            refine S_iload_n X dX12_clause_195 rfl rfl ?_
            refine S_if_eq (tgt := 250) X dX12_clause_196 (by decide) (by decide) (fun h9 => absurd h9 (by decide)) (fun _ => ?_)
            refine S_aload_n X dX12_clause_199 rfl rfl ?_
            refine S_get (v := iv fl_265) X fgX12_118_11 0 rfl rfl dX12_clause_200 ?_
            refine S_iconst X dX12_clause_203 ?_
            refine S_icmp_ne (tgt := 250) X dX12_clause_204 (by decide) (by omega) (by decide) (fun c_283 => ?_) (fun c_283 => by exfalso; omega)
            refine S_aload_n X dX12_clause_250 rfl rfl ?_
            refine S_get X fgX12_31_11 0 rfl hf9 dX12_clause_251 ?_
            refine S_iload_n X dX12_clause_254 rfl rfl ?_
            refine S_aload_n X dX12_clause_255 rfl rfl ?_
            refine S_get X fgX12_19_11 0 rfl hf4 dX12_clause_256 ?_
            refine S_aload_n X dX12_clause_259 rfl rfl ?_
            refine S_get X fgX12_121_11 0 rfl hf5 dX12_clause_260 ?_
            refine S_iald X 4 rfl (by omega) (by omega) (nle rfl) dX12_clause_263 ?_
            rw [show (uZ Nk tx k2_266) tx = k2_266 from uZ_at]
            refine S_iast X 8 rfl (by omega) (by omega) (nle rfl) dX12_clause_264 ?_
            refine S_w (ws' := [(h0, ob 11 (uF (uF (uF f 3 (iv a2_264)) 4 (iv fl_265)) 5 (iv dp2_267))), (hT, ar 160 T), (hC, ar 1700 C2_268), (hV, ar 1700 V2_269), (hN, ar 5 (uZ Nk tx k2_266)), (hL, ar 5 (uZ Lk tx j)), (hTf, ar 450 (uZ Tf ((90 * tx) + j) k)), (hSf, ar 450 (uZ Sf ((90 * tx) + j) k)), (hEf, ar 450 (uZ Ef ((90 * tx) + j) k2_266))]) rfl ?_
            refine S_aload_n X dX12_clause_265 rfl rfl ?_
            refine S_get X fgX12_22_11 0 rfl hf6 dX12_clause_266 ?_
            refine S_aload_n X dX12_clause_269 rfl rfl ?_
            refine S_get X fgX12_121_11 0 rfl hf5 dX12_clause_270 ?_
            refine S_dup2 X dX12_clause_273 ?_
            refine S_iald X 5 rfl (by omega) (by omega) (nle rfl) dX12_clause_274 ?_
            rw [show (uZ Lk tx j) tx = j from uZ_at]
            refine S_iconst X dX12_clause_275 ?_
            refine S_iadd X dX12_clause_276 ?_
            refine S_iast X 5 rfl (by omega) (by omega) (nle rfl) dX12_clause_277 ?_
            refine S_w (ws' := [(h0, ob 11 (uF (uF (uF f 3 (iv a2_264)) 4 (iv fl_265)) 5 (iv dp2_267))), (hT, ar 160 T), (hC, ar 1700 C2_268), (hV, ar 1700 V2_269), (hN, ar 5 (uZ Nk tx k2_266)), (hL, ar 5 (uZ (uZ Lk tx j) tx (j + 1))), (hTf, ar 450 (uZ Tf ((90 * tx) + j) k)), (hSf, ar 450 (uZ Sf ((90 * tx) + j) k)), (hEf, ar 450 (uZ Ef ((90 * tx) + j) k2_266))]) rfl ?_
            refine S_w (ws' := [(h0, ob 11 (uF (uF (uF f 3 (iv a2_264)) 4 (iv fl_265)) 5 (iv dp2_267))), (hT, ar 160 T), (hC, ar 1700 C2_268), (hV, ar 1700 V2_269), (hN, ar 5 (uZ Nk tx k2_266)), (hL, ar 5 (uZ Lk tx (j + 1))), (hTf, ar 450 (uZ Tf ((90 * tx) + j) k)), (hSf, ar 450 (uZ Sf ((90 * tx) + j) k)), (hEf, ar 450 (uZ Ef ((90 * tx) + j) k2_266))]) (by simp only [uZ_same, List.length_nil, Int.natCast_zero, Int.add_zero, List.nil_append]) ?_
            exact S_vret X (nle rfl) (nle rfl) dX12_clause_278 (hPo _ (Or.inl ⟨_, _, _, _, _, _, _, _, _, _, rfl, ls_tf (by omega) (by omega) (by omega) hq_272, by omega, by first | exact frm_0 | assumption | exact frm_r (by omega) (by omega) | exact frm_w (by assumption) (by omega) (by omega) | exact frm_p frm_0 (by omega) | exact frm_p (by assumption) (by omega) | exact frm_p (frm_w (by assumption) (by omega) (by omega)) (by omega), by first | exact frm_0 | assumption | exact frm_r (by omega) (by omega) | exact frm_w (by assumption) (by omega) (by omega) | exact frm_p frm_0 (by omega) | exact frm_p (by assumption) (by omega) | exact frm_p (frm_w (by assumption) (by omega) (by omega)) (by omega), by first | exact frp_0 | exact frp_1 frp_0 (by omega) | exact frp_1 (frp_1 frp_0 (by omega)) (by omega), by first | exact frp_0 | exact frp_1 frp_0 (by omega) | exact frp_1 (frp_1 frp_0 (by omega)) (by omega), by first | exact frp_0 | exact frp_1 frp_0 (by omega) | exact frp_1 (frp_1 frp_0 (by omega)) (by omega)⟩))
          ·
            subst hu_280
            refine ⟨rfl, ?_⟩
            refine S_w (ws' := [(h0, ob 11 (uF (uF (uF f 3 (iv a2_277)) 4 (iv (-1))) 5 (iv 0))), (hT, ar 160 T), (hC, ar 1700 (wrL C (340 * tx + k) (List.map kC ts_278))), (hV, ar 1700 (wrL V (340 * tx + k) (List.map kV ts_278))), (hN, ar 5 (uZ Nk tx (k + ((ts_278).length : Int)))), (hL, ar 5 (uZ Lk tx j)), (hTf, ar 450 (uZ Tf ((90 * tx) + j) k)), (hSf, ar 450 Sf), (hEf, ar 450 Ef)]) rfl ?_
            have ho_284 := (pCond_ok (T := T) hn1 6 (sk T n (sk T n (sk T n a + 1) + 1)) (by omega) (by omega)).2 _ hq_281
            dsimp only at ho_284
            have hsk_285 := sk_in (T := T) (n := n) (a := a2_277) (by omega)
            have hcm_285 := chM_or okT (a := sk T n a2_277) (by omega) (by omega)
            refine S_goto (tgt := 183) X dX12_clause_136 (by decide) ?_
            refine S_aload_n X dX12_clause_183 rfl rfl ?_
            refine S_get X fgX12_28_11 0 rfl hf8 dX12_clause_184 ?_
            refine S_iload_n X dX12_clause_187 rfl rfl ?_
            refine S_aload_n X dX12_clause_188 rfl rfl ?_
            refine S_get X fgX12_25_11 0 rfl hf7 dX12_clause_189 ?_
            refine S_iload_n X dX12_clause_192 rfl rfl ?_
            refine S_iald X 6 rfl (by omega) (by omega) (nle rfl) dX12_clause_193 ?_
            rw [show (uZ Tf ((90 * tx) + j) k) ((90 * tx) + j) = k from uZ_at]
            refine S_iast X 7 rfl (by omega) (by omega) (nle rfl) dX12_clause_194 ?_
            refine S_w (ws' := [(h0, ob 11 (uF (uF (uF f 3 (iv a2_277)) 4 (iv (-1))) 5 (iv 0))), (hT, ar 160 T), (hC, ar 1700 (wrL C (340 * tx + k) (List.map kC ts_278))), (hV, ar 1700 (wrL V (340 * tx + k) (List.map kV ts_278))), (hN, ar 5 (uZ Nk tx (k + ((ts_278).length : Int)))), (hL, ar 5 (uZ Lk tx j)), (hTf, ar 450 (uZ Tf ((90 * tx) + j) k)), (hSf, ar 450 (uZ Sf ((90 * tx) + j) k)), (hEf, ar 450 Ef)]) rfl ?_
            refine S_iload_n X dX12_clause_195 rfl rfl ?_
            refine S_if_eq (tgt := 250) X dX12_clause_196 (by decide) (by decide) (fun h9 => absurd h9 (by decide)) (fun _ => ?_)
            refine S_aload_n X dX12_clause_199 rfl rfl ?_
            refine S_get (v := iv (-1)) X fgX12_118_11 0 rfl rfl dX12_clause_200 ?_
            refine S_iconst X dX12_clause_203 ?_
            refine S_icmp_ne (tgt := 250) X dX12_clause_204 (by decide) (by decide) (by decide) (fun h9 => absurd h9 (by decide)) (fun _ => ?_)
            refine S_aload_n X dX12_clause_207 rfl rfl ?_
            refine S_calli X (kX12_look l h0 hT f T n a2_277 (-1) 0 hf0 hf1 (by omega) (by omega)) (is := [0, 1]) rfl (run_V X lkX12_130 0 rfl rfl (is := [0, 1]) (avs := []) (rest := []) rfl rfl (nle rfl) ⟨nle rfl, nle rfl⟩ ⟨nle rfl, nle rfl⟩ dX12_clause_208 (by decide) rfl) (fun z_290 u_288 hp_289 => ?_)
            obtain ⟨hz_291, hu_292⟩ := hp_289
            subst hz_291
            subst hu_292
            refine ⟨rfl, ?_⟩
            refine S_w (ws' := [(h0, ob 11 (uF (uF (uF f 3 (iv (sk T n a2_277))) 4 (iv (-1))) 5 (iv 0))), (hT, ar 160 T), (hC, ar 1700 (wrL C (340 * tx + k) (List.map kC ts_278))), (hV, ar 1700 (wrL V (340 * tx + k) (List.map kV ts_278))), (hN, ar 5 (uZ Nk tx (k + ((ts_278).length : Int)))), (hL, ar 5 (uZ Lk tx j)), (hTf, ar 450 (uZ Tf ((90 * tx) + j) k)), (hSf, ar 450 (uZ Sf ((90 * tx) + j) k)), (hEf, ar 450 Ef)]) rfl ?_
            refine S_bipush X dX12_clause_211 rfl ?_
            refine S_icmp_eq (tgt := 221) X dX12_clause_213 (by decide) (by omega) (by decide) (fun c_293 => ?_) (fun c_293 => ?_)
            ·
              refine S_aload_n X dX12_clause_221 rfl rfl ?_
              refine S_dup X dX12_clause_222 ?_
              refine S_get (v := iv (sk T n a2_277)) X fgX12_111_11 0 rfl rfl dX12_clause_223 ?_
              refine S_iconst X dX12_clause_226 ?_
              refine S_iadd X dX12_clause_227 ?_
              refine S_put X fpX12_111_11 0 rfl FT_i dX12_clause_228 ?_
              refine S_w (ws' := [(h0, ob 11 (uF (uF (uF f 3 (iv ((sk T n a2_277) + 1))) 4 (iv (-1))) 5 (iv 0))), (hT, ar 160 T), (hC, ar 1700 (wrL C (340 * tx + k) (List.map kC ts_278))), (hV, ar 1700 (wrL V (340 * tx + k) (List.map kV ts_278))), (hN, ar 5 (uZ Nk tx (k + ((ts_278).length : Int)))), (hL, ar 5 (uZ Lk tx j)), (hTf, ar 450 (uZ Tf ((90 * tx) + j) k)), (hSf, ar 450 (uZ Sf ((90 * tx) + j) k)), (hEf, ar 450 Ef)]) (by simp only [List.set]; rw [uF_mv (j := 5) (k := 3) (by decide), uF_mv (j := 4) (k := 3) (by decide), uF_same (k := 3)]) ?_
              refine S_aload_n X dX12_clause_231 rfl rfl ?_
              refine S_get X fgX12_28_11 0 rfl hf8 dX12_clause_232 ?_
              refine S_iload_n X dX12_clause_235 rfl rfl ?_
              refine S_aload_n X dX12_clause_236 rfl rfl ?_
              refine S_get X fgX12_19_11 0 rfl hf4 dX12_clause_237 ?_
              refine S_aload_n X dX12_clause_240 rfl rfl ?_
              refine S_get X fgX12_121_11 0 rfl hf5 dX12_clause_241 ?_
              refine S_iald X 4 rfl (by omega) (by omega) (nle rfl) dX12_clause_244 ?_
              rw [show (uZ Nk tx (k + ((ts_278).length : Int))) tx = (k + ((ts_278).length : Int)) from uZ_at]
              refine S_iast X 7 rfl (by omega) (by omega) (nle rfl) dX12_clause_245 ?_
              refine S_w (ws' := [(h0, ob 11 (uF (uF (uF f 3 (iv ((sk T n a2_277) + 1))) 4 (iv (-1))) 5 (iv 0))), (hT, ar 160 T), (hC, ar 1700 (wrL C (340 * tx + k) (List.map kC ts_278))), (hV, ar 1700 (wrL V (340 * tx + k) (List.map kV ts_278))), (hN, ar 5 (uZ Nk tx (k + ((ts_278).length : Int)))), (hL, ar 5 (uZ Lk tx j)), (hTf, ar 450 (uZ Tf ((90 * tx) + j) k)), (hSf, ar 450 (uZ (uZ Sf ((90 * tx) + j) k) ((90 * tx) + j) (k + ((ts_278).length : Int)))), (hEf, ar 450 Ef)]) rfl ?_
              refine S_aload_n X dX12_clause_246 rfl rfl ?_
              refine S_callv X ((ref_sum6 l) h0 hT f T n ((sk T n a2_277) + 1) 0 hC hV hN (wrL C (340 * tx + k) (List.map kC ts_278)) (wrL V (340 * tx + k) (List.map kV ts_278)) Nk tx (k + ((ts_278).length : Int)) hf0 hf1 hf2 hf3 hf4 hf5 (by omega) (by omega) (by omega) (by omega) (by omega)) (is := [0, 1, 2, 3, 4]) rfl (run_V X lkX12_151 0 rfl rfl (is := [0, 1, 2, 3, 4]) (avs := []) (rest := []) rfl rfl (nle rfl) ⟨nle rfl, nle rfl⟩ ⟨nle rfl, nle rfl⟩ dX12_clause_247 (by decide) rfl) (fun u_294 hp_295 => ?_)
              rcases hp_295 with ⟨a2_297, fl_298, k2_299, dp2_300, C2_301, V2_302, hu_304, hq_305, hfl_306, hr_307, hfC_308, hfV_309⟩ | ⟨a2_310, ts_311, hu_313, hq_314⟩
              ·
                subst hu_304
                refine ⟨rfl, ?_⟩
                refine S_w (ws' := [(h0, ob 11 (uF (uF (uF f 3 (iv a2_297)) 4 (iv fl_298)) 5 (iv dp2_300))), (hT, ar 160 T), (hC, ar 1700 C2_301), (hV, ar 1700 V2_302), (hN, ar 5 (uZ Nk tx k2_299)), (hL, ar 5 (uZ Lk tx j)), (hTf, ar 450 (uZ Tf ((90 * tx) + j) k)), (hSf, ar 450 (uZ (uZ Sf ((90 * tx) + j) k) ((90 * tx) + j) (k + ((ts_278).length : Int)))), (hEf, ar 450 Ef)]) rfl ?_
                refine S_aload_n X dX12_clause_250 rfl rfl ?_
                refine S_get X fgX12_31_11 0 rfl hf9 dX12_clause_251 ?_
                refine S_iload_n X dX12_clause_254 rfl rfl ?_
                refine S_aload_n X dX12_clause_255 rfl rfl ?_
                refine S_get X fgX12_19_11 0 rfl hf4 dX12_clause_256 ?_
                refine S_aload_n X dX12_clause_259 rfl rfl ?_
                refine S_get X fgX12_121_11 0 rfl hf5 dX12_clause_260 ?_
                refine S_iald X 4 rfl (by omega) (by omega) (nle rfl) dX12_clause_263 ?_
                rw [show (uZ Nk tx k2_299) tx = k2_299 from uZ_at]
                refine S_iast X 8 rfl (by omega) (by omega) (nle rfl) dX12_clause_264 ?_
                refine S_w (ws' := [(h0, ob 11 (uF (uF (uF f 3 (iv a2_297)) 4 (iv fl_298)) 5 (iv dp2_300))), (hT, ar 160 T), (hC, ar 1700 C2_301), (hV, ar 1700 V2_302), (hN, ar 5 (uZ Nk tx k2_299)), (hL, ar 5 (uZ Lk tx j)), (hTf, ar 450 (uZ Tf ((90 * tx) + j) k)), (hSf, ar 450 (uZ (uZ Sf ((90 * tx) + j) k) ((90 * tx) + j) (k + ((ts_278).length : Int)))), (hEf, ar 450 (uZ Ef ((90 * tx) + j) k2_299))]) rfl ?_
                refine S_aload_n X dX12_clause_265 rfl rfl ?_
                refine S_get X fgX12_22_11 0 rfl hf6 dX12_clause_266 ?_
                refine S_aload_n X dX12_clause_269 rfl rfl ?_
                refine S_get X fgX12_121_11 0 rfl hf5 dX12_clause_270 ?_
                refine S_dup2 X dX12_clause_273 ?_
                refine S_iald X 5 rfl (by omega) (by omega) (nle rfl) dX12_clause_274 ?_
                rw [show (uZ Lk tx j) tx = j from uZ_at]
                refine S_iconst X dX12_clause_275 ?_
                refine S_iadd X dX12_clause_276 ?_
                refine S_iast X 5 rfl (by omega) (by omega) (nle rfl) dX12_clause_277 ?_
                refine S_w (ws' := [(h0, ob 11 (uF (uF (uF f 3 (iv a2_297)) 4 (iv fl_298)) 5 (iv dp2_300))), (hT, ar 160 T), (hC, ar 1700 C2_301), (hV, ar 1700 V2_302), (hN, ar 5 (uZ Nk tx k2_299)), (hL, ar 5 (uZ (uZ Lk tx j) tx (j + 1))), (hTf, ar 450 (uZ Tf ((90 * tx) + j) k)), (hSf, ar 450 (uZ (uZ Sf ((90 * tx) + j) k) ((90 * tx) + j) (k + ((ts_278).length : Int)))), (hEf, ar 450 (uZ Ef ((90 * tx) + j) k2_299))]) rfl ?_
                refine S_w (ws' := [(h0, ob 11 (uF (uF (uF f 3 (iv a2_297)) 4 (iv fl_298)) 5 (iv dp2_300))), (hT, ar 160 T), (hC, ar 1700 C2_301), (hV, ar 1700 V2_302), (hN, ar 5 (uZ Nk tx k2_299)), (hL, ar 5 (uZ Lk tx (j + 1))), (hTf, ar 450 (uZ Tf ((90 * tx) + j) k)), (hSf, ar 450 (uZ (uZ Sf ((90 * tx) + j) k) ((90 * tx) + j) (k + ((ts_278).length : Int)))), (hEf, ar 450 (uZ Ef ((90 * tx) + j) k2_299))]) (by simp only [uZ_same, List.length_nil, Int.natCast_zero, Int.add_zero, List.nil_append]) ?_
                exact S_vret X (nle rfl) (nle rfl) dX12_clause_278 (hPo _ (Or.inl ⟨_, _, _, _, _, _, _, _, _, _, rfl, ls_t (by omega) (by omega) (by omega) hq_281 (ss_f (by omega) hq_305), by omega, by first | exact frm_0 | assumption | exact frm_r (by omega) (by omega) | exact frm_w (by assumption) (by omega) (by omega) | exact frm_p frm_0 (by omega) | exact frm_p (by assumption) (by omega) | exact frm_p (frm_w (by assumption) (by omega) (by omega)) (by omega), by first | exact frm_0 | assumption | exact frm_r (by omega) (by omega) | exact frm_w (by assumption) (by omega) (by omega) | exact frm_p frm_0 (by omega) | exact frm_p (by assumption) (by omega) | exact frm_p (frm_w (by assumption) (by omega) (by omega)) (by omega), by first | exact frp_0 | exact frp_1 frp_0 (by omega) | exact frp_1 (frp_1 frp_0 (by omega)) (by omega), by first | exact frp_0 | exact frp_1 frp_0 (by omega) | exact frp_1 (frp_1 frp_0 (by omega)) (by omega), by first | exact frp_0 | exact frp_1 frp_0 (by omega) | exact frp_1 (frp_1 frp_0 (by omega)) (by omega)⟩))
              ·
                subst hu_313
                refine ⟨rfl, ?_⟩
                refine S_w (ws' := [(h0, ob 11 (uF (uF (uF f 3 (iv a2_310)) 4 (iv (-1))) 5 (iv 0))), (hT, ar 160 T), (hC, ar 1700 (wrL (wrL C (340 * tx + k) (List.map kC ts_278)) (340 * tx + (k + ((ts_278).length : Int))) (List.map kC ts_311))), (hV, ar 1700 (wrL (wrL V (340 * tx + k) (List.map kV ts_278)) (340 * tx + (k + ((ts_278).length : Int))) (List.map kV ts_311))), (hN, ar 5 (uZ Nk tx ((k + ((ts_278).length : Int)) + ((ts_311).length : Int)))), (hL, ar 5 (uZ Lk tx j)), (hTf, ar 450 (uZ Tf ((90 * tx) + j) k)), (hSf, ar 450 (uZ (uZ Sf ((90 * tx) + j) k) ((90 * tx) + j) (k + ((ts_278).length : Int)))), (hEf, ar 450 Ef)]) rfl ?_
                refine S_w (ws' := [(h0, ob 11 (uF (uF (uF f 3 (iv a2_310)) 4 (iv (-1))) 5 (iv 0))), (hT, ar 160 T), (hC, ar 1700 (wrL C (340 * tx + k) (List.map kC (ts_278 ++ ts_311)))), (hV, ar 1700 (wrL V (340 * tx + k) (List.map kV (ts_278 ++ ts_311)))), (hN, ar 5 (uZ Nk tx ((k + ((ts_278).length : Int)) + ((ts_311).length : Int)))), (hL, ar 5 (uZ Lk tx j)), (hTf, ar 450 (uZ Tf ((90 * tx) + j) k)), (hSf, ar 450 (uZ (uZ Sf ((90 * tx) + j) k) ((90 * tx) + j) (k + ((ts_278).length : Int)))), (hEf, ar 450 Ef)]) (by simp only [rW_app]) ?_
                have ho_315 := ((pAS_ok (T := T) hn1 6).2 _ (by omega) (by omega)).2 _ hq_314
                dsimp only at ho_315
                refine S_aload_n X dX12_clause_250 rfl rfl ?_
                refine S_get X fgX12_31_11 0 rfl hf9 dX12_clause_251 ?_
                refine S_iload_n X dX12_clause_254 rfl rfl ?_
                refine S_aload_n X dX12_clause_255 rfl rfl ?_
                refine S_get X fgX12_19_11 0 rfl hf4 dX12_clause_256 ?_
                refine S_aload_n X dX12_clause_259 rfl rfl ?_
                refine S_get X fgX12_121_11 0 rfl hf5 dX12_clause_260 ?_
                refine S_iald X 4 rfl (by omega) (by omega) (nle rfl) dX12_clause_263 ?_
                rw [show (uZ Nk tx ((k + ((ts_278).length : Int)) + ((ts_311).length : Int))) tx = ((k + ((ts_278).length : Int)) + ((ts_311).length : Int)) from uZ_at]
                refine S_iast X 8 rfl (by omega) (by omega) (nle rfl) dX12_clause_264 ?_
                refine S_w (ws' := [(h0, ob 11 (uF (uF (uF f 3 (iv a2_310)) 4 (iv (-1))) 5 (iv 0))), (hT, ar 160 T), (hC, ar 1700 (wrL C (340 * tx + k) (List.map kC (ts_278 ++ ts_311)))), (hV, ar 1700 (wrL V (340 * tx + k) (List.map kV (ts_278 ++ ts_311)))), (hN, ar 5 (uZ Nk tx ((k + ((ts_278).length : Int)) + ((ts_311).length : Int)))), (hL, ar 5 (uZ Lk tx j)), (hTf, ar 450 (uZ Tf ((90 * tx) + j) k)), (hSf, ar 450 (uZ (uZ Sf ((90 * tx) + j) k) ((90 * tx) + j) (k + ((ts_278).length : Int)))), (hEf, ar 450 (uZ Ef ((90 * tx) + j) ((k + ((ts_278).length : Int)) + ((ts_311).length : Int))))]) rfl ?_
                refine S_aload_n X dX12_clause_265 rfl rfl ?_
                refine S_get X fgX12_22_11 0 rfl hf6 dX12_clause_266 ?_
                refine S_aload_n X dX12_clause_269 rfl rfl ?_
                refine S_get X fgX12_121_11 0 rfl hf5 dX12_clause_270 ?_
                refine S_dup2 X dX12_clause_273 ?_
                refine S_iald X 5 rfl (by omega) (by omega) (nle rfl) dX12_clause_274 ?_
                rw [show (uZ Lk tx j) tx = j from uZ_at]
                refine S_iconst X dX12_clause_275 ?_
                refine S_iadd X dX12_clause_276 ?_
                refine S_iast X 5 rfl (by omega) (by omega) (nle rfl) dX12_clause_277 ?_
                refine S_w (ws' := [(h0, ob 11 (uF (uF (uF f 3 (iv a2_310)) 4 (iv (-1))) 5 (iv 0))), (hT, ar 160 T), (hC, ar 1700 (wrL C (340 * tx + k) (List.map kC (ts_278 ++ ts_311)))), (hV, ar 1700 (wrL V (340 * tx + k) (List.map kV (ts_278 ++ ts_311)))), (hN, ar 5 (uZ Nk tx ((k + ((ts_278).length : Int)) + ((ts_311).length : Int)))), (hL, ar 5 (uZ (uZ Lk tx j) tx (j + 1))), (hTf, ar 450 (uZ Tf ((90 * tx) + j) k)), (hSf, ar 450 (uZ (uZ Sf ((90 * tx) + j) k) ((90 * tx) + j) (k + ((ts_278).length : Int)))), (hEf, ar 450 (uZ Ef ((90 * tx) + j) ((k + ((ts_278).length : Int)) + ((ts_311).length : Int))))]) rfl ?_
                refine S_w (ws' := [(h0, ob 11 (uF (uF (uF f 3 (iv a2_310)) 4 (iv (-1))) 5 (iv 0))), (hT, ar 160 T), (hC, ar 1700 (wrL C (340 * tx + k) (List.map kC (ts_278 ++ ts_311)))), (hV, ar 1700 (wrL V (340 * tx + k) (List.map kV (ts_278 ++ ts_311)))), (hN, ar 5 (uZ Nk tx (k + ((ts_278 : List Int).length : Int) + ((ts_311 : List Int).length : Int)))), (hL, ar 5 (uZ Lk tx (j + 1))), (hTf, ar 450 (uZ Tf ((90 * tx) + j) k)), (hSf, ar 450 (uZ Sf (90 * tx + j) (k + ((ts_278 : List Int).length : Int)))), (hEf, ar 450 (uZ Ef (90 * tx + j) (k + ((ts_278 : List Int).length : Int) + ((ts_311 : List Int).length : Int))))]) (by simp only [uZ_same, List.length_nil, Int.natCast_zero, Int.add_zero, List.nil_append]) ?_
                exact S_vret X (nle rfl) (nle rfl) dX12_clause_278 (hPo _ (Or.inr ⟨_, ts_278, ts_311, rfl, ls_t (by omega) (by omega) (by omega) hq_281 (ss_r (by omega) hq_314)⟩))
            ·
              refine S_aload_n X dX12_clause_216 rfl rfl ?_
              refine S_callv X (kX12_bad l h0 f (sk T n a2_277) (-1) 0 (by omega)) (is := [0]) rfl (run_V X lkX12_127 0 rfl rfl (is := [0]) (avs := []) (rest := []) rfl rfl (nle rfl) ⟨nle rfl, nle rfl⟩ ⟨nle rfl, nle rfl⟩ dX12_clause_217 (by decide) rfl) (fun u_316 hp_317 => ?_)
              have hu_320 := hp_317
              subst hu_320
              refine ⟨rfl, ?_⟩
              refine S_w (ws' := [(h0, ob 11 (uF (uF (uF f 3 (iv (sk T n a2_277))) 4 (iv (sk T n a2_277))) 5 (iv 0))), (hT, ar 160 T), (hC, ar 1700 (wrL C (340 * tx + k) (List.map kC ts_278))), (hV, ar 1700 (wrL V (340 * tx + k) (List.map kV ts_278))), (hN, ar 5 (uZ Nk tx (k + ((ts_278).length : Int)))), (hL, ar 5 (uZ Lk tx j)), (hTf, ar 450 (uZ Tf ((90 * tx) + j) k)), (hSf, ar 450 (uZ Sf ((90 * tx) + j) k)), (hEf, ar 450 Ef)]) rfl ?_
              exact S_vret X (nle rfl) (nle rfl) dX12_clause_220 (hPo _ (Or.inl ⟨_, _, _, _, _, _, _, _, _, _, rfl, ls_t (by omega) (by omega) (by omega) hq_281 (ss_n (by omega)), by omega, by first | exact frm_0 | assumption | exact frm_r (by omega) (by omega) | exact frm_w (by assumption) (by omega) (by omega) | exact frm_p frm_0 (by omega) | exact frm_p (by assumption) (by omega) | exact frm_p (frm_w (by assumption) (by omega) (by omega)) (by omega), by first | exact frm_0 | assumption | exact frm_r (by omega) (by omega) | exact frm_w (by assumption) (by omega) (by omega) | exact frm_p frm_0 (by omega) | exact frm_p (by assumption) (by omega) | exact frm_p (frm_w (by assumption) (by omega) (by omega)) (by omega), by first | exact frp_0 | exact frp_1 frp_0 (by omega) | exact frp_1 (frp_1 frp_0 (by omega)) (by omega), by first | exact frp_0 | exact frp_1 frp_0 (by omega) | exact frp_1 (frp_1 frp_0 (by omega)) (by omega), by first | exact frp_0 | exact frp_1 frp_0 (by omega) | exact frp_1 (frp_1 frp_0 (by omega)) (by omega)⟩))
    ·
      refine S_aload_n X dX12_clause_66 rfl rfl ?_
      refine S_callv X (kX12_bad l h0 f (sk T n ((sk T n a) + 1)) (-1) 0 (by omega)) (is := [0]) rfl (run_V X lkX12_127 0 rfl rfl (is := [0]) (avs := []) (rest := []) rfl rfl (nle rfl) ⟨nle rfl, nle rfl⟩ ⟨nle rfl, nle rfl⟩ dX12_clause_67 (by decide) rfl) (fun u_321 hp_322 => ?_)
      have hu_325 := hp_322
      subst hu_325
      refine ⟨rfl, ?_⟩
      refine S_w (ws' := [(h0, ob 11 (uF (uF (uF f 3 (iv (sk T n ((sk T n a) + 1)))) 4 (iv (sk T n ((sk T n a) + 1)))) 5 (iv 0))), (hT, ar 160 T), (hC, ar 1700 C), (hV, ar 1700 V), (hN, ar 5 (uZ Nk tx k)), (hL, ar 5 (uZ Lk tx j)), (hTf, ar 450 Tf), (hSf, ar 450 Sf), (hEf, ar 450 Ef)]) rfl ?_
      refine S_aload_n X dX12_clause_70 rfl rfl ?_
      refine S_dup X dX12_clause_71 ?_
      refine S_get (v := iv (sk T n ((sk T n a) + 1))) X fgX12_111_11 0 rfl rfl dX12_clause_72 ?_
      refine S_iconst X dX12_clause_75 ?_
      refine S_iadd X dX12_clause_76 ?_
      refine S_put X fpX12_111_11 0 rfl FT_i dX12_clause_77 ?_
      refine S_w (ws' := [(h0, ob 11 (uF (uF (uF f 3 (iv ((sk T n ((sk T n a) + 1)) + 1))) 4 (iv (sk T n ((sk T n a) + 1)))) 5 (iv 0))), (hT, ar 160 T), (hC, ar 1700 C), (hV, ar 1700 V), (hN, ar 5 (uZ Nk tx k)), (hL, ar 5 (uZ Lk tx j)), (hTf, ar 450 Tf), (hSf, ar 450 Sf), (hEf, ar 450 Ef)]) (by simp only [List.set]; rw [uF_mv (j := 5) (k := 3) (by decide), uF_mv (j := 4) (k := 3) (by decide), uF_same (k := 3)]) ?_
      refine S_aload_n X dX12_clause_80 rfl rfl ?_
      refine S_get (v := iv (sk T n ((sk T n a) + 1))) X fgX12_118_11 0 rfl rfl dX12_clause_81 ?_
      refine S_iconst X dX12_clause_84 ?_
      refine S_icmp_eq (tgt := 89) X dX12_clause_85 (by decide) (by omega) (by decide) (fun c_326 => by exfalso; omega) (fun c_326 => ?_)
      exact S_vret X (nle rfl) (nle rfl) dX12_clause_88 (hPo _ (Or.inl ⟨_, _, _, _, _, _, _, _, _, _, rfl, ls_c (by omega) (by omega), by omega, by first | exact frm_0 | assumption | exact frm_r (by omega) (by omega) | exact frm_w (by assumption) (by omega) (by omega) | exact frm_p frm_0 (by omega) | exact frm_p (by assumption) (by omega) | exact frm_p (frm_w (by assumption) (by omega) (by omega)) (by omega), by first | exact frm_0 | assumption | exact frm_r (by omega) (by omega) | exact frm_w (by assumption) (by omega) (by omega) | exact frm_p frm_0 (by omega) | exact frm_p (by assumption) (by omega) | exact frm_p (frm_w (by assumption) (by omega) (by omega)) (by omega), by first | exact frp_0 | exact frp_1 frp_0 (by omega) | exact frp_1 (frp_1 frp_0 (by omega)) (by omega), by first | exact frp_0 | exact frp_1 frp_0 (by omega) | exact frp_1 (frp_1 frp_0 (by omega)) (by omega), by first | exact frp_0 | exact frp_1 frp_0 (by omega) | exact frp_1 (frp_1 frp_0 (by omega)) (by omega)⟩))
  ·
    refine S_aload_n X dX12_clause_35 rfl rfl ?_
    refine S_callv X (kX12_bad l h0 f (sk T n a) (-1) 0 (by omega)) (is := [0]) rfl (run_V X lkX12_127 0 rfl rfl (is := [0]) (avs := []) (rest := []) rfl rfl (nle rfl) ⟨nle rfl, nle rfl⟩ ⟨nle rfl, nle rfl⟩ dX12_clause_36 (by decide) rfl) (fun u_327 hp_328 => ?_)
    have hu_331 := hp_328
    subst hu_331
    refine ⟨rfl, ?_⟩
    refine S_w (ws' := [(h0, ob 11 (uF (uF (uF f 3 (iv (sk T n a))) 4 (iv (sk T n a))) 5 (iv 0))), (hT, ar 160 T), (hC, ar 1700 C), (hV, ar 1700 V), (hN, ar 5 (uZ Nk tx k)), (hL, ar 5 (uZ Lk tx j)), (hTf, ar 450 Tf), (hSf, ar 450 Sf), (hEf, ar 450 Ef)]) rfl ?_
    refine S_aload_n X dX12_clause_39 rfl rfl ?_
    refine S_dup X dX12_clause_40 ?_
    refine S_get (v := iv (sk T n a)) X fgX12_111_11 0 rfl rfl dX12_clause_41 ?_
    refine S_iconst X dX12_clause_44 ?_
    refine S_iadd X dX12_clause_45 ?_
    refine S_put X fpX12_111_11 0 rfl FT_i dX12_clause_46 ?_
    refine S_w (ws' := [(h0, ob 11 (uF (uF (uF f 3 (iv ((sk T n a) + 1))) 4 (iv (sk T n a))) 5 (iv 0))), (hT, ar 160 T), (hC, ar 1700 C), (hV, ar 1700 V), (hN, ar 5 (uZ Nk tx k)), (hL, ar 5 (uZ Lk tx j)), (hTf, ar 450 Tf), (hSf, ar 450 Sf), (hEf, ar 450 Ef)]) (by simp only [List.set]; rw [uF_mv (j := 5) (k := 3) (by decide), uF_mv (j := 4) (k := 3) (by decide), uF_same (k := 3)]) ?_
    refine S_aload_n X dX12_clause_49 rfl rfl ?_
    refine S_get (v := iv (sk T n a)) X fgX12_118_11 0 rfl rfl dX12_clause_50 ?_
    refine S_iconst X dX12_clause_53 ?_
    refine S_icmp_ne (tgt := 70) X dX12_clause_54 (by decide) (by omega) (by decide) (fun c_332 => ?_) (fun c_332 => by exfalso; omega)
    refine S_aload_n X dX12_clause_70 rfl rfl ?_
    refine S_dup X dX12_clause_71 ?_
    refine S_get (v := iv ((sk T n a) + 1)) X fgX12_111_11 0 rfl rfl dX12_clause_72 ?_
    refine S_iconst X dX12_clause_75 ?_
    refine S_iadd X dX12_clause_76 ?_
    refine S_put X fpX12_111_11 0 rfl FT_i dX12_clause_77 ?_
    refine S_w (ws' := [(h0, ob 11 (uF (uF (uF f 3 (iv (((sk T n a) + 1) + 1))) 4 (iv (sk T n a))) 5 (iv 0))), (hT, ar 160 T), (hC, ar 1700 C), (hV, ar 1700 V), (hN, ar 5 (uZ Nk tx k)), (hL, ar 5 (uZ Lk tx j)), (hTf, ar 450 Tf), (hSf, ar 450 Sf), (hEf, ar 450 Ef)]) (by simp only [List.set]; rw [uF_mv (j := 5) (k := 3) (by decide), uF_mv (j := 4) (k := 3) (by decide), uF_same (k := 3)]) ?_
    refine S_aload_n X dX12_clause_80 rfl rfl ?_
    refine S_get (v := iv (sk T n a)) X fgX12_118_11 0 rfl rfl dX12_clause_81 ?_
    refine S_iconst X dX12_clause_84 ?_
    refine S_icmp_eq (tgt := 89) X dX12_clause_85 (by decide) (by omega) (by decide) (fun c_333 => by exfalso; omega) (fun c_333 => ?_)
    exact S_vret X (nle rfl) (nle rfl) dX12_clause_88 (hPo _ (Or.inl ⟨_, _, _, _, _, _, _, _, _, _, rfl, ls_y (by omega), by omega, by first | exact frm_0 | assumption | exact frm_r (by omega) (by omega) | exact frm_w (by assumption) (by omega) (by omega) | exact frm_p frm_0 (by omega) | exact frm_p (by assumption) (by omega) | exact frm_p (frm_w (by assumption) (by omega) (by omega)) (by omega), by first | exact frm_0 | assumption | exact frm_r (by omega) (by omega) | exact frm_w (by assumption) (by omega) (by omega) | exact frm_p frm_0 (by omega) | exact frm_p (by assumption) (by omega) | exact frm_p (frm_w (by assumption) (by omega) (by omega)) (by omega), by first | exact frp_0 | exact frp_1 frp_0 (by omega) | exact frp_1 (frp_1 frp_0 (by omega)) (by omega), by first | exact frp_0 | exact frp_1 frp_0 (by omega) | exact frp_1 (frp_1 frp_0 (by omega)) (by omega), by first | exact frp_0 | exact frp_1 frp_0 (by omega) | exact frp_1 (frp_1 frp_0 (by omega)) (by omega)⟩))
