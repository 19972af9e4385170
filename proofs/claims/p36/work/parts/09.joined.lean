/- 23.ref4.lean.txt -/
section pt_23ref4
theorem ref_as (l : Launch) : ∀ K : Nat, C_X12_atom l K (3 * K + 6) ∧ C_X12_term l K (3 * K + 7) ∧ C_X12_sum l K (3 * K + 8) := by
  intro K
  induction K with
  | zero =>
    have h1 := kX12_atom l 0 5 (by omega) (fun K2 h => absurd h (by omega))
    have h2 := kX12_term l 0 6 (by omega) h1
    exact ⟨h1, h2, kX12_sum l 0 7 (by omega) h2⟩
  | succ K ih =>
    have h1 := kX12_atom l (K + 1) (3 * K + 8) (by omega) (fun K2 h => by obtain rfl : K = K2 := by omega
                                                                          exact ih.2.2)
    have h2 := kX12_term l (K + 1) (3 * K + 9) (by omega) h1
    exact ⟨h1, h2, kX12_sum l (K + 1) (3 * K + 10) (by omega) h2⟩
theorem ref_cmp (l : Launch) (K : Nat) : C_X12_compare l K (3 * K + 9) := kX12_compare l K (3 * K + 8) (by omega) (ref_as l K).2.2
theorem ref_and (l : Launch) {K d : Nat} (hd : 5 ≤ d) (h : C_X12_unit l K d) : C_X12_goOnAnd_N l K (d + 1) := kX12_goOnAnd_N l K d hd d (by omega) h
theorem ref_or (l : Launch) {K d : Nat} (hd : 5 ≤ d) (h : C_X12_unit l K d) : C_X12_goOnOr_N l K (d + 2) := kX12_goOnOr_N l K (d + 1) (by omega) d (by omega) h (d + 1) (by omega) (ref_and l hd h)
theorem ref_cond (l : Launch) {K d : Nat} (hd : 5 ≤ d) (h : C_X12_unit l K d) : C_X12_condition l K (d + 3) := kX12_condition l K (d + 2) (by omega) d (by omega) h (d + 1) (by omega) (ref_and l hd h) (d + 2) (by omega) (ref_or l hd h)
theorem ref_unit (l : Launch) : ∀ K : Nat, C_X12_unit l K (4 * K + 10) := by
  intro K
  induction K with
  | zero => exact kX12_unit l 0 9 (by omega) 8 (by omega) (ref_as l 0).2.2 9 (by omega) (ref_cmp l 0) 0 (by omega) (fun K2 h => absurd h (by omega)) 0 (by omega) (fun K2 h => absurd h (by omega))
  | succ K ih =>
    refine kX12_unit l (K + 1) (4 * K + 13) (by omega) (3 * (K + 1) + 8) (by omega) (ref_as l (K + 1)).2.2 (3 * (K + 1) + 9) (by omega) (ref_cmp l (K + 1)) (4 * K + 10) (by omega) (fun K2 h => ?_) (4 * K + 13) (by omega) (fun K2 h => ?_)
    · obtain rfl : K = K2 := by omega
      exact ih
    · obtain rfl : K = K2 := by omega
      exact ref_cond l (by omega) ih
theorem ref_sum6 (l : Launch) : C_X12_sum l 6 26 := (ref_as l 6).2.2
theorem ref_cmp6 (l : Launch) : C_X12_compare l 6 27 := ref_cmp l 6
theorem ref_and6 (l : Launch) : C_X12_goOnAnd_N l 6 35 := ref_and l (by omega) (ref_unit l 6)
theorem ref_or6 (l : Launch) : C_X12_goOnOr_N l 6 36 := ref_or l (by omega) (ref_unit l 6)
theorem ref_cond6 (l : Launch) : C_X12_condition l 6 37 := ref_cond l (by omega) (ref_unit l 6)
theorem ls_y {T : Int → Int} {n a : Int} (h : ¬ ch T n (sk T n a) = 121) : pLawS T n a = .inl (sk T n a) := by unfold pLawS; rw [if_neg h]
theorem ls_c {T : Int → Int} {n a : Int} (h : ch T n (sk T n a) = 121) (h2 : ¬ ch T n (sk T n (sk T n a + 1)) = 58) : pLawS T n a = .inl (sk T n (sk T n a + 1)) := by unfold pLawS; rw [if_pos h, if_neg h2]
theorem ls_tf {T : Int → Int} {n a f : Int} (h : ch T n (sk T n a) = 121) (h2 : ch T n (sk T n (sk T n a + 1)) = 58) (h3 : ch T n (sk T n (sk T n (sk T n a + 1) + 1)) = 33 ∨ ch T n (sk T n (sk T n (sk T n a + 1) + 1)) = 40) (h4 : pCond T n 6 (sk T n (sk T n (sk T n a + 1) + 1)) = .inl f) : pLawS T n a = .inl f := by unfold pLawS; rw [if_pos h, if_pos h2, if_pos h3, h4]
theorem ls_t {T : Int → Int} {n a b : Int} {c : List Int} {r : LSR} (h : ch T n (sk T n a) = 121) (h2 : ch T n (sk T n (sk T n a + 1)) = 58) (h3 : ch T n (sk T n (sk T n (sk T n a + 1) + 1)) = 33 ∨ ch T n (sk T n (sk T n (sk T n a + 1) + 1)) = 40) (h4 : pCond T n 6 (sk T n (sk T n (sk T n a + 1) + 1)) = .inr (b, c)) (h5 : sumS T n b c = r) : pLawS T n a = r := by unfold pLawS; rw [if_pos h, if_pos h2, if_pos h3, h4]; exact h5
theorem ls_sf {T : Int → Int} {n a f : Int} (h : ch T n (sk T n a) = 121) (h2 : ch T n (sk T n (sk T n a + 1)) = 58) (h3 : ¬ (ch T n (sk T n (sk T n (sk T n a + 1) + 1)) = 33 ∨ ch T n (sk T n (sk T n (sk T n a + 1) + 1)) = 40)) (h4 : pSum T n 6 (sk T n (sk T n (sk T n a + 1) + 1)) = .inl f) : pLawS T n a = .inl f := by unfold pLawS; rw [if_pos h, if_pos h2, if_neg h3, h4]
theorem ls_s {T : Int → Int} {n a b : Int} {c : List Int} (h : ch T n (sk T n a) = 121) (h2 : ch T n (sk T n (sk T n a + 1)) = 58) (h3 : ¬ (ch T n (sk T n (sk T n (sk T n a + 1) + 1)) = 33 ∨ ch T n (sk T n (sk T n (sk T n a + 1) + 1)) = 40)) (h4 : pSum T n 6 (sk T n (sk T n (sk T n a + 1) + 1)) = .inr (b, c)) (h5 : ¬ (ch T n (sk T n b) = 61 ∨ ch T n (sk T n b) = 60 ∨ ch T n (sk T n b) = 62)) : pLawS T n a = .inr (sk T n b, [], c) := by unfold pLawS; rw [if_pos h, if_pos h2, if_neg h3, h4]; exact if_neg h5
theorem ls_cf {T : Int → Int} {n a b f : Int} {c : List Int} (h : ch T n (sk T n a) = 121) (h2 : ch T n (sk T n (sk T n a + 1)) = 58) (h3 : ¬ (ch T n (sk T n (sk T n (sk T n a + 1) + 1)) = 33 ∨ ch T n (sk T n (sk T n (sk T n a + 1) + 1)) = 40)) (h4 : pSum T n 6 (sk T n (sk T n (sk T n a + 1) + 1)) = .inr (b, c)) (h5 : ch T n (sk T n b) = 61 ∨ ch T n (sk T n b) = 60 ∨ ch T n (sk T n b) = 62) (h6 : cmpG T n 6 (sk T n b) = .inl f) : pLawS T n a = .inl f := by unfold pLawS; rw [if_pos h, if_pos h2, if_neg h3, h4]; dsimp only; rw [if_pos h5, h6]
theorem ls_mf {T : Int → Int} {n a b b2 f : Int} {c c2 : List Int} (h : ch T n (sk T n a) = 121) (h2 : ch T n (sk T n (sk T n a + 1)) = 58) (h3 : ¬ (ch T n (sk T n (sk T n (sk T n a + 1) + 1)) = 33 ∨ ch T n (sk T n (sk T n (sk T n a + 1) + 1)) = 40)) (h4 : pSum T n 6 (sk T n (sk T n (sk T n a + 1) + 1)) = .inr (b, c)) (h5 : ch T n (sk T n b) = 61 ∨ ch T n (sk T n b) = 60 ∨ ch T n (sk T n b) = 62) (h6 : cmpG T n 6 (sk T n b) = .inr (b2, c2)) (h7 : moreL T n (pUnit T n 6) 161 false b2 (c ++ c2) = .inl f) : pLawS T n a = .inl f := by unfold pLawS; rw [if_pos h, if_pos h2, if_neg h3, h4]; dsimp only; rw [if_pos h5, h6]; dsimp only; rw [h7]
theorem ls_m {T : Int → Int} {n a b b2 b3 : Int} {c c2 c3 : List Int} {r : LSR} (h : ch T n (sk T n a) = 121) (h2 : ch T n (sk T n (sk T n a + 1)) = 58) (h3 : ¬ (ch T n (sk T n (sk T n (sk T n a + 1) + 1)) = 33 ∨ ch T n (sk T n (sk T n (sk T n a + 1) + 1)) = 40)) (h4 : pSum T n 6 (sk T n (sk T n (sk T n a + 1) + 1)) = .inr (b, c)) (h5 : ch T n (sk T n b) = 61 ∨ ch T n (sk T n b) = 60 ∨ ch T n (sk T n b) = 62) (h6 : cmpG T n 6 (sk T n b) = .inr (b2, c2)) (h7 : moreL T n (pUnit T n 6) 161 false b2 (c ++ c2) = .inr (b3, c3)) (h8 : sumS T n b3 c3 = r) : pLawS T n a = r := by unfold pLawS; rw [if_pos h, if_pos h2, if_neg h3, h4]; dsimp only; rw [if_pos h5, h6]; dsimp only; rw [h7]; exact h8
theorem more_af {T : Int → Int} {n b e : Int} {ts : List Int} (hn : n ≤ 160) (h0 : 0 ≤ b ∧ b ≤ n) (h2 : loopL T n 38 38 (pUnit T n 6) 161 b ts = .inl e) : moreL T n (pUnit T n 6) 161 false b ts = .inl e := by rw [pMore_C hn 6 b ts h0.1 h0.2, h2]
theorem more_o {T : Int → Int} {n b c : Int} {ts us : List Int} {r : LR} (hn : n ≤ 160) (h0 : 0 ≤ b ∧ b ≤ n) (h2 : loopL T n 38 38 (pUnit T n 6) 161 b ts = .inr (c, us)) (h3 : loopL T n 124 124 (pCj T n 6) 161 c us = r) : moreL T n (pUnit T n 6) 161 false b ts = r := by rw [pMore_C hn 6 b ts h0.1 h0.2, h2]; exact h3
theorem ss_n {T : Int → Int} {n a : Int} {c : List Int} (h : ¬ ch T n (sk T n a) = 63) : sumS T n a c = .inl (sk T n a) := by unfold sumS; rw [if_neg h]
theorem ss_f {T : Int → Int} {n a f : Int} {c : List Int} (h : ch T n (sk T n a) = 63) (h2 : pSum T n 6 (sk T n a + 1) = .inl f) : sumS T n a c = .inl f := by unfold sumS; rw [if_pos h, h2]
theorem ss_r {T : Int → Int} {n a b : Int} {c s : List Int} (h : ch T n (sk T n a) = 63) (h2 : pSum T n 6 (sk T n a + 1) = .inr (b, s)) : sumS T n a c = .inr (b, c, s) := by unfold sumS; rw [if_pos h, h2]
theorem cmpG_sk {T : Int → Int} {n a : Int} {k : Nat} : cmpG T n k (sk T n a) = cmpG T n k a := by unfold cmpG; rw [sk_idem]
theorem rK_l {k : Int} {a b : List Int} : k + ((a ++ b).length : Int) = k + (a.length : Int) + (b.length : Int) := rK_app.symm
/-- nothing outside text tx of the pieces has changed -/
def frp (tx : Int) (C C2 : Int → Int) : Prop := ∀ i, ¬ (90 * tx ≤ i ∧ i < 90 * tx + 90) → C2 i = C i
theorem frp_0 {tx : Int} {C : Int → Int} : frp tx C C := fun _ _ => rfl
theorem frp_1 {tx k c : Int} {C C2 : Int → Int} (h : frp tx C C2) (hk : 0 ≤ k ∧ k < 90) : frp tx C (uZ C2 (90 * tx + k) c) := fun i hi => (uZ_ne (by omega)).trans (h i hi)
set_option maxHeartbeats 4000000 in
set_option maxRecDepth 100000 in
theorem kX12_clause (l : Launch) (h0 : Nat) (hT : Nat) (f : Nat → AV) (T : Int → Int) (n : Int) (a : Int) (hC : Nat) (hV : Nat) (hN : Nat) (C : Int → Int) (V : Int → Int) (Nk : Int → Int) (tx : Int) (k : Int) (hL : Nat) (hTf : Nat) (hSf : Nat) (hEf : Nat) (Lk : Int → Int) (Tf : Int → Int) (Sf : Int → Int) (Ef : Int → Int) (j : Int) (hf0 : f 1 = rv hT) (hf1 : f 2 = iv n) (hf2 : f 6 = rv hC) (hf3 : f 7 = rv hV) (hf4 : f 8 = rv hN) (hf5 : f 14 = iv tx) (hf6 : f 9 = rv hL) (hf7 : f 10 = rv hTf) (hf8 : f 11 = rv hSf) (hf9 : f 12 = rv hEf) (okT : okT T n) (ha : 0 ≤ a ∧ a ≤ n) (ht : 0 ≤ tx ∧ tx ≤ 4) (hk : 0 ≤ k ∧ k ≤ a) (hj : 0 ≤ j ∧ 2 * j ≤ a) : AMv l yX12_clause cX12_clause 3 38 0 0 [rv h0] [(h0, ob 11 (uF (uF (uF f 3 (iv a)) 4 (iv (-1))) 5 (iv 0))), (hT, ar 160 T), (hC, ar 1700 C), (hV, ar 1700 V), (hN, ar 5 (uZ Nk tx k)), (hL, ar 5 (uZ Lk tx j)), (hTf, ar 450 Tf), (hSf, ar 450 Sf), (hEf, ar 450 Ef)] (fun u => (∃ a2 : Int, ∃ fl : Int, ∃ k2 : Int, ∃ dp2 : Int, ∃ j2 : Int, ∃ C2 : Int → Int, ∃ V2 : Int → Int, ∃ Tf2 : Int → Int, ∃ Sf2 : Int → Int, ∃ Ef2 : Int → Int, u = [(h0, ob 11 (uF (uF (uF f 3 (iv a2)) 4 (iv fl)) 5 (iv dp2))), (hT, ar 160 T), (hC, ar 1700 C2), (hV, ar 1700 V2), (hN, ar 5 (uZ Nk tx k2)), (hL, ar 5 (uZ Lk tx j2)), (hTf, ar 450 Tf2), (hSf, ar 450 Sf2), (hEf, ar 450 Ef2)] ∧ pLawS T n a = .inl fl ∧ (0 ≤ fl ∧ fl ≤ n) ∧ frm tx C C2 ∧ frm tx V V2 ∧ frp tx Tf Tf2 ∧ frp tx Sf Sf2 ∧ frp tx Ef Ef2) ∨ (∃ a2 : Int, ∃ c : List Int, ∃ s : List Int, u = [(h0, ob 11 (uF (uF (uF f 3 (iv a2)) 4 (iv (-1))) 5 (iv 0))), (hT, ar 160 T), (hC, ar 1700 (wrL C (340 * tx + k) (List.map kC (c ++ s)))), (hV, ar 1700 (wrL V (340 * tx + k) (List.map kV (c ++ s)))), (hN, ar 5 (uZ Nk tx (k + (c.length : Int) + (s.length : Int)))), (hL, ar 5 (uZ Lk tx (j + 1))), (hTf, ar 450 (uZ Tf (90 * tx + j) k)), (hSf, ar 450 (uZ Sf (90 * tx + j) (k + (c.length : Int)))), (hEf, ar 450 (uZ Ef (90 * tx + j) (k + (c.length : Int) + (s.length : Int))))] ∧ pLawS T n a = .inr (a2, c, s))) := by
  refine AMv.of2 rfl (nle rfl) ?_
  intro D G A p e s m args below meth c Po hPo hnm X
  obtain ⟨hn0, hn1, hT2⟩ := id okT
  have hsk := sk_in (T := T) ha.2
  have hcm := chM_or okT (a := sk T n a) (by omega) (by omega)
  refine S_bipush X dX12_clause_0 rfl ?_
  refine S_aload_n X dX12_clause_2 rfl rfl ?_
  refine S_get X fgX12_121_11 0 rfl hf5 dX12_clause_3 ?_
  refine S_imul X dX12_clause_6 ?_
  refine S_aload_n X dX12_clause_7 rfl rfl ?_
  refine S_get X fgX12_22_11 0 rfl hf6 dX12_clause_8 ?_
  refine S_aload_n X dX12_clause_11 rfl rfl ?_
  refine S_get X fgX12_121_11 0 rfl hf5 dX12_clause_12 ?_
  refine S_iald X 5 rfl (by omega) (by omega) (nle rfl) dX12_clause_15 ?_
  rw [show (uZ Lk tx j) tx = j from uZ_at]
  refine S_iadd X dX12_clause_16 ?_
  refine S_istore_n X dX12_clause_17 rfl (nle rfl) ?_
  refine S_aload_n X dX12_clause_18 rfl rfl ?_
  refine S_get (v := iv (-1)) X fgX12_118_11 0 rfl rfl dX12_clause_19 ?_
  refine S_iconst X dX12_clause_22 ?_
  refine S_icmp_ne (tgt := 39) X dX12_clause_23 (by decide) (by decide) (by decide) (fun h9 => absurd h9 (by decide)) (fun _ => ?_)
  refine S_aload_n X dX12_clause_26 rfl rfl ?_
  refine S_calli X (kX12_look l h0 hT f T n a (-1) 0 hf0 hf1 (by omega) (by omega)) (is := [0, 1]) rfl (run_V X lkX12_130 0 rfl rfl (is := [0, 1]) (avs := []) (rest := []) rfl rfl (nle rfl) ⟨nle rfl, nle rfl⟩ ⟨nle rfl, nle rfl⟩ dX12_clause_27 (by decide) rfl) (fun z_4 u_2 hp_3 => ?_)
  obtain ⟨hz_5, hu_6⟩ := hp_3
  subst hz_5
  subst hu_6
  refine ⟨rfl, ?_⟩
  refine S_w (ws' := [(h0, ob 11 (uF (uF (uF f 3 (iv (sk T n a))) 4 (iv (-1))) 5 (iv 0))), (hT, ar 160 T), (hC, ar 1700 C), (hV, ar 1700 V), (hN, ar 5 (uZ Nk tx k)), (hL, ar 5 (uZ Lk tx j)), (hTf, ar 450 Tf), (hSf, ar 450 Sf), (hEf, ar 450 Ef)]) rfl ?_
  refine S_bipush X dX12_clause_30 rfl ?_
  refine S_icmp_eq (tgt := 39) X dX12_clause_32 (by decide) (by omega) (by decide) (fun c_7 => ?_) (fun c_7 => ?_)
  ·
    refine S_aload_n X dX12_clause_39 rfl rfl ?_
    refine S_dup X dX12_clause_40 ?_
    refine S_get (v := iv (sk T n a)) X fgX12_111_11 0 rfl rfl dX12_clause_41 ?_
    refine S_iconst X dX12_clause_44 ?_
    refine S_iadd X dX12_clause_45 ?_
    refine S_put X fpX12_111_11 0 rfl FT_i dX12_clause_46 ?_
    refine S_w (ws' := [(h0, ob 11 (uF (uF (uF f 3 (iv ((sk T n a) + 1))) 4 (iv (-1))) 5 (iv 0))), (hT, ar 160 T), (hC, ar 1700 C), (hV, ar 1700 V), (hN, ar 5 (uZ Nk tx k)), (hL, ar 5 (uZ Lk tx j)), (hTf, ar 450 Tf), (hSf, ar 450 Sf), (hEf, ar 450 Ef)]) (by simp only [List.set]; rw [uF_mv (j := 5) (k := 3) (by decide), uF_mv (j := 4) (k := 3) (by decide), uF_same (k := 3)]) ?_
    refine S_aload_n X dX12_clause_49 rfl rfl ?_
    refine S_get (v := iv (-1)) X fgX12_118_11 0 rfl rfl dX12_clause_50 ?_
    refine S_iconst X dX12_clause_53 ?_
    refine S_icmp_ne (tgt := 70) X dX12_clause_54 (by decide) (by decide) (by decide) (fun h9 => absurd h9 (by decide)) (fun _ => ?_)
    refine S_aload_n X dX12_clause_57 rfl rfl ?_
    refine S_calli X (kX12_look l h0 hT f T n ((sk T n a) + 1) (-1) 0 hf0 hf1 (by omega) (by omega)) (is := [0, 1]) rfl (run_V X lkX12_130 0 rfl rfl (is := [0, 1]) (avs := []) (rest := []) rfl rfl (nle rfl) ⟨nle rfl, nle rfl⟩ ⟨nle rfl, nle rfl⟩ dX12_clause_58 (by decide) rfl) (fun z_11 u_9 hp_10 => ?_)
    obtain ⟨hz_12, hu_13⟩ := hp_10
    subst hz_12
    subst hu_13
    refine ⟨rfl, ?_⟩
    refine S_w (ws' := [(h0, ob 11 (uF (uF (uF f 3 (iv (sk T n ((sk T n a) + 1)))) 4 (iv (-1))) 5 (iv 0))), (hT, ar 160 T), (hC, ar 1700 C), (hV, ar 1700 V), (hN, ar 5 (uZ Nk tx k)), (hL, ar 5 (uZ Lk tx j)), (hTf, ar 450 Tf), (hSf, ar 450 Sf), (hEf, ar 450 Ef)]) rfl ?_
    have hsk_x := sk_in (T := T) (n := n) (a := (sk T n a + 1)) (by omega)
    have hcm_x := chM_or okT (a := sk T n (sk T n a + 1)) (by omega) (by omega)
    refine S_bipush X dX12_clause_61 rfl ?_
    refine S_icmp_eq (tgt := 70) X dX12_clause_63 (by decide) (by omega) (by decide) (fun c_14 => ?_) (fun c_14 => ?_)
    ·
      refine S_aload_n X dX12_clause_70 rfl rfl ?_
      refine S_dup X dX12_clause_71 ?_
      refine S_get (v := iv (sk T n ((sk T n a) + 1))) X fgX12_111_11 0 rfl rfl dX12_clause_72 ?_
      refine S_iconst X dX12_clause_75 ?_
      refine S_iadd X dX12_clause_76 ?_
      refine S_put X fpX12_111_11 0 rfl FT_i dX12_clause_77 ?_
      refine S_w (ws' := [(h0, ob 11 (uF (uF (uF f 3 (iv ((sk T n ((sk T n a) + 1)) + 1))) 4 (iv (-1))) 5 (iv 0))), (hT, ar 160 T), (hC, ar 1700 C), (hV, ar 1700 V), (hN, ar 5 (uZ Nk tx k)), (hL, ar 5 (uZ Lk tx j)), (hTf, ar 450 Tf), (hSf, ar 450 Sf), (hEf, ar 450 Ef)]) (by simp only [List.set]; rw [uF_mv (j := 5) (k := 3) (by decide), uF_mv (j := 4) (k := 3) (by decide), uF_same (k := 3)]) ?_
      refine S_aload_n X dX12_clause_80 rfl rfl ?_
      refine S_get (v := iv (-1)) X fgX12_118_11 0 rfl rfl dX12_clause_81 ?_
      refine S_iconst X dX12_clause_84 ?_
      refine S_icmp_eq (tgt := 89) X dX12_clause_85 (by decide) (by decide) (by decide) (fun _ => ?_) (fun h9 => absurd h9 (by decide))
      refine S_aload_n X dX12_clause_89 rfl rfl ?_
      refine S_get X fgX12_25_11 0 rfl hf7 dX12_clause_90 ?_
      refine S_iload_n X dX12_clause_93 rfl rfl ?_
      refine S_aload_n X dX12_clause_94 rfl rfl ?_
      refine S_get X fgX12_19_11 0 rfl hf4 dX12_clause_95 ?_
      refine S_aload_n X dX12_clause_98 rfl rfl ?_
      refine S_get X fgX12_121_11 0 rfl hf5 dX12_clause_99 ?_
      refine S_iald X 4 rfl (by omega) (by omega) (nle rfl) dX12_clause_102 ?_
      rw [show (uZ Nk tx k) tx = k from uZ_at]
      refine S_iast X 6 rfl (by omega) (by omega) (nle rfl) dX12_clause_103 ?_
      refine S_w (ws' := [(h0, ob 11 (uF (uF (uF f 3 (iv ((sk T n ((sk T n a) + 1)) + 1))) 4 (iv (-1))) 5 (iv 0))), (hT, ar 160 T), (hC, ar 1700 C), (hV, ar 1700 V), (hN, ar 5 (uZ Nk tx k)), (hL, ar 5 (uZ Lk tx j)), (hTf, ar 450 (uZ Tf ((90 * tx) + j) k)), (hSf, ar 450 Sf), (hEf, ar 450 Ef)]) rfl ?_
      refine S_aload_n X dX12_clause_104 rfl rfl ?_
      refine S_calli X (kX12_look l h0 hT f T n ((sk T n ((sk T n a) + 1)) + 1) (-1) 0 hf0 hf1 (by omega) (by omega)) (is := [0, 1]) rfl (run_V X lkX12_130 0 rfl rfl (is := [0, 1]) (avs := []) (rest := []) rfl rfl (nle rfl) ⟨nle rfl, nle rfl⟩ ⟨nle rfl, nle rfl⟩ dX12_clause_105 (by decide) rfl) (fun z_18 u_16 hp_17 => ?_)
      obtain ⟨hz_19, hu_20⟩ := hp_17
      subst hz_19
      subst hu_20
      refine ⟨rfl, ?_⟩
      refine S_w (ws' := [(h0, ob 11 (uF (uF (uF f 3 (iv (sk T n ((sk T n ((sk T n a) + 1)) + 1)))) 4 (iv (-1))) 5 (iv 0))), (hT, ar 160 T), (hC, ar 1700 C), (hV, ar 1700 V), (hN, ar 5 (uZ Nk tx k)), (hL, ar 5 (uZ Lk tx j)), (hTf, ar 450 (uZ Tf ((90 * tx) + j) k)), (hSf, ar 450 Sf), (hEf, ar 450 Ef)]) rfl ?_
      have hsk_y := sk_in (T := T) (n := n) (a := (sk T n (sk T n a + 1) + 1)) (by omega)
      have hcm_y := chM_or okT (a := sk T n (sk T n (sk T n a + 1) + 1)) (by omega) (by omega)
      refine S_bipush X dX12_clause_108 rfl ?_
      refine S_icmp_eq (tgt := 122) X dX12_clause_110 (by decide) (by omega) (by decide) (fun c_21 => ?_) (fun c_21 => ?_)
      ·
        refine S_iconst X dX12_clause_122 ?_
        refine S_goto (tgt := 127) X dX12_clause_123 (by decide) ?_
        refine S_istore_n X dX12_clause_127 rfl (nle rfl) ?_
        refine S_iload_n X dX12_clause_128 rfl rfl ?_
        refine S_if_eq (tgt := 139) X dX12_clause_129 (by decide) (by decide) (fun h9 => absurd h9 (by decide)) (fun _ => ?_)
        refine S_aload_n X dX12_clause_132 rfl rfl ?_
        refine S_callv X ((ref_cond6 l) h0 hT f T n (sk T n ((sk T n ((sk T n a) + 1)) + 1)) 0 hC hV hN C V Nk tx k hf0 hf1 hf2 hf3 hf4 hf5 (by omega) (by omega) (by omega) (by omega) (by omega)) (is := [0, 1, 2, 3, 4]) rfl (run_V X lkX12_170 0 rfl rfl (is := [0, 1, 2, 3, 4]) (avs := []) (rest := []) rfl rfl (nle rfl) ⟨nle rfl, nle rfl⟩ ⟨nle rfl, nle rfl⟩ dX12_clause_133 (by decide) rfl) (fun u_23 hp_24 => ?_)
        rcases hp_24 with ⟨a2_26, fl_27, k2_28, dp2_29, C2_30, V2_31, hu_33, hq_34, hfl_35, hr_36, hfC_37, hfV_38⟩ | ⟨a2_39, ts_40, hu_42, hq_43⟩
        ·
          subst hu_33
          refine ⟨rfl, ?_⟩
          refine S_w (ws' := [(h0, ob 11 (uF (uF (uF f 3 (iv a2_26)) 4 (iv fl_27)) 5 (iv dp2_29))), (hT, ar 160 T), (hC, ar 1700 C2_30), (hV, ar 1700 V2_31), (hN, ar 5 (uZ Nk tx k2_28)), (hL, ar 5 (uZ Lk tx j)), (hTf, ar 450 (uZ Tf ((90 * tx) + j) k)), (hSf, ar 450 Sf), (hEf, ar 450 Ef)]) rfl ?_
          refine S_goto (tgt := 183) X dX12_clause_136 (by decide) ?_
          refine S_aload_n X dX12_clause_183 rfl rfl ?_
          refine S_get X fgX12_28_11 0 rfl hf8 dX12_clause_184 ?_
          refine S_iload_n X dX12_clause_187 rfl rfl ?_
          refine S_aload_n X dX12_clause_188 rfl rfl ?_
          refine S_get X fgX12_25_11 0 rfl hf7 dX12_clause_189 ?_
          refine S_iload_n X dX12_clause_192 rfl rfl ?_
          refine S_iald X 6 rfl (by omega) (by omega) (nle rfl) dX12_clause_193 ?_
          rw [show (uZ Tf ((90 * tx) + j) k) ((90 * tx) + j) = k from uZ_at]
          refine S_iast X 7 rfl (by omega) (by omega) (nle rfl) dX12_clause_194 ?_
          refine S_w (ws' := [(h0, ob 11 (uF (uF (uF f 3 (iv a2_26)) 4 (iv fl_27)) 5 (iv dp2_29))), (hT, ar 160 T), (hC, ar 1700 C2_30), (hV, ar 1700 V2_31), (hN, ar 5 (uZ Nk tx k2_28)), (hL, ar 5 (uZ Lk tx j)), (hTf, ar 450 (uZ Tf ((90 * tx) + j) k)), (hSf, ar 450 (uZ Sf ((90 * tx) + j) k)), (hEf, ar 450 Ef)]) rfl ?_
          refine S_iload_n X dX12_clause_195 rfl rfl ?_
          refine S_if_eq (tgt := 250) X dX12_clause_196 (by decide) (by decide) (fun h9 => absurd h9 (by decide)) (fun _ => ?_)
          refine S_aload_n X dX12_clause_199 rfl rfl ?_
          refine S_get (v := iv fl_27) X fgX12_118_11 0 rfl rfl dX12_clause_200 ?_
          refine S_iconst X dX12_clause_203 ?_
          refine S_icmp_ne (tgt := 250) X dX12_clause_204 (by decide) (by omega) (by decide) (fun c_45 => ?_) (fun c_45 => by exfalso; omega)
          refine S_aload_n X dX12_clause_250 rfl rfl ?_
          refine S_get X fgX12_31_11 0 rfl hf9 dX12_clause_251 ?_
          refine S_iload_n X dX12_clause_254 rfl rfl ?_
          refine S_aload_n X dX12_clause_255 rfl rfl ?_
          refine S_get X fgX12_19_11 0 rfl hf4 dX12_clause_256 ?_
          refine S_aload_n X dX12_clause_259 rfl rfl ?_
          refine S_get X fgX12_121_11 0 rfl hf5 dX12_clause_260 ?_
          refine S_iald X 4 rfl (by omega) (by omega) (nle rfl) dX12_clause_263 ?_
          rw [show (uZ Nk tx k2_28) tx = k2_28 from uZ_at]
          refine S_iast X 8 rfl (by omega) (by omega) (nle rfl) dX12_clause_264 ?_
          refine S_w (ws' := [(h0, ob 11 (uF (uF (uF f 3 (iv a2_26)) 4 (iv fl_27)) 5 (iv dp2_29))), (hT, ar 160 T), (hC, ar 1700 C2_30), (hV, ar 1700 V2_31), (hN, ar 5 (uZ Nk tx k2_28)), (hL, ar 5 (uZ Lk tx j)), (hTf, ar 450 (uZ Tf ((90 * tx) + j) k)), (hSf, ar 450 (uZ Sf ((90 * tx) + j) k)), (hEf, ar 450 (uZ Ef ((90 * tx) + j) k2_28))]) rfl ?_
          refine S_aload_n X dX12_clause_265 rfl rfl ?_
          refine S_get X fgX12_22_11 0 rfl hf6 dX12_clause_266 ?_
          refine S_aload_n X dX12_clause_269 rfl rfl ?_
          refine S_get X fgX12_121_11 0 rfl hf5 dX12_clause_270 ?_
          refine S_dup2 X dX12_clause_273 ?_
          refine S_iald X 5 rfl (by omega) (by omega) (nle rfl) dX12_clause_274 ?_
          rw [show (uZ Lk tx j) tx = j from uZ_at]
          refine S_iconst X dX12_clause_275 ?_
          refine S_iadd X dX12_clause_276 ?_
          refine S_iast X 5 rfl (by omega) (by omega) (nle rfl) dX12_clause_277 ?_
          refine S_w (ws' := [(h0, ob 11 (uF (uF (uF f 3 (iv a2_26)) 4 (iv fl_27)) 5 (iv dp2_29))), (hT, ar 160 T), (hC, ar 1700 C2_30), (hV, ar 1700 V2_31), (hN, ar 5 (uZ Nk tx k2_28)), (hL, ar 5 (uZ (uZ Lk tx j) tx (j + 1))), (hTf, ar 450 (uZ Tf ((90 * tx) + j) k)), (hSf, ar 450 (uZ Sf ((90 * tx) + j) k)), (hEf, ar 450 (uZ Ef ((90 * tx) + j) k2_28))]) rfl ?_
          refine S_w (ws' := [(h0, ob 11 (uF (uF (uF f 3 (iv a2_26)) 4 (iv fl_27)) 5 (iv dp2_29))), (hT, ar 160 T), (hC, ar 1700 C2_30), (hV, ar 1700 V2_31), (hN, ar 5 (uZ Nk tx k2_28)), (hL, ar 5 (uZ Lk tx (j + 1))), (hTf, ar 450 (uZ Tf ((90 * tx) + j) k)), (hSf, ar 450 (uZ Sf ((90 * tx) + j) k)), (hEf, ar 450 (uZ Ef ((90 * tx) + j) k2_28))]) (by simp only [uZ_same, List.length_nil, Int.natCast_zero, Int.add_zero, List.nil_append]) ?_
          exact S_vret X (nle rfl) (nle rfl) dX12_clause_278 (hPo _ (Or.inl ⟨_, _, _, _, _, _, _, _, _, _, rfl, ls_tf (by omega) (by omega) (by omega) hq_34, by omega, by first | exact frm_0 | assumption | exact frm_r (by omega) (by omega) | exact frm_w (by assumption) (by omega) (by omega) | exact frm_p frm_0 (by omega) | exact frm_p (by assumption) (by omega) | exact frm_p (frm_w (by assumption) (by omega) (by omega)) (by omega), by first | exact frm_0 | assumption | exact frm_r (by omega) (by omega) | exact frm_w (by assumption) (by omega) (by omega) | exact frm_p frm_0 (by omega) | exact frm_p (by assumption) (by omega) | exact frm_p (frm_w (by assumption) (by omega) (by omega)) (by omega), by first | exact frp_0 | exact frp_1 frp_0 (by omega) | exact frp_1 (frp_1 frp_0 (by omega)) (by omega), by first | exact frp_0 | exact frp_1 frp_0 (by omega) | exact frp_1 (frp_1 frp_0 (by omega)) (by omega), by first | exact frp_0 | exact frp_1 frp_0 (by omega) | exact frp_1 (frp_1 frp_0 (by omega)) (by omega)⟩))
        ·
          subst hu_42
          refine ⟨rfl, ?_⟩
          refine S_w (ws' := [(h0, ob 11 (uF (uF (uF f 3 (iv a2_39)) 4 (iv (-1))) 5 (iv 0))), (hT, ar 160 T), (hC, ar 1700 (wrL C (340 * tx + k) (List.map kC ts_40))), (hV, ar 1700 (wrL V (340 * tx + k) (List.map kV ts_40))), (hN, ar 5 (uZ Nk tx (k + ((ts_40).length : Int)))), (hL, ar 5 (uZ Lk tx j)), (hTf, ar 450 (uZ Tf ((90 * tx) + j) k)), (hSf, ar 450 Sf), (hEf, ar 450 Ef)]) rfl ?_
          have ho_46 := (pCond_ok (T := T) hn1 6 (sk T n (sk T n (sk T n a + 1) + 1)) (by omega) (by omega)).2 _ hq_43
          dsimp only at ho_46
          have hsk_47 := sk_in (T := T) (n := n) (a := a2_39) (by omega)
          have hcm_47 := chM_or okT (a := sk T n a2_39) (by omega) (by omega)
          refine S_goto (tgt := 183) X dX12_clause_136 (by decide) ?_
          refine S_aload_n X dX12_clause_183 rfl rfl ?_
          refine S_get X fgX12_28_11 0 rfl hf8 dX12_clause_184 ?_
          refine S_iload_n X dX12_clause_187 rfl rfl ?_
          refine S_aload_n X dX12_clause_188 rfl rfl ?_
          refine S_get X fgX12_25_11 0 rfl hf7 dX12_clause_189 ?_
          refine S_iload_n X dX12_clause_192 rfl rfl ?_
          refine S_iald X 6 rfl (by omega) (by omega) (nle rfl) dX12_clause_193 ?_
          rw [show (uZ Tf ((90 * tx) + j) k) ((90 * tx) + j) = k from uZ_at]
          refine S_iast X 7 rfl (by omega) (by omega) (nle rfl) dX12_clause_194 ?_
          refine S_w (ws' := [(h0, ob 11 (uF (uF (uF f 3 (iv a2_39)) 4 (iv (-1))) 5 (iv 0))), (hT, ar 160 T), (hC, ar 1700 (wrL C (340 * tx + k) (List.map kC ts_40))), (hV, ar 1700 (wrL V (340 * tx + k) (List.map kV ts_40))), (hN, ar 5 (uZ Nk tx (k + ((ts_40).length : Int)))), (hL, ar 5 (uZ Lk tx j)), (hTf, ar 450 (uZ Tf ((90 * tx) + j) k)), (hSf, ar 450 (uZ Sf ((90 * tx) + j) k)), (hEf, ar 450 Ef)]) rfl ?_
          refine S_iload_n X dX12_clause_195 rfl rfl ?_
          refine S_if_eq (tgt := 250) X dX12_clause_196 (by decide) (by decide) (fun h9 => absurd h9 (by decide)) (fun _ => ?_)
          refine S_aload_n X dX12_clause_199 rfl rfl ?_
          refine S_get (v := iv (-1)) X fgX12_118_11 0 rfl rfl dX12_clause_200 ?_
          refine S_iconst X dX12_clause_203 ?_
          refine S_icmp_ne (tgt := 250) X dX12_clause_204 (by decide) (by decide) (by decide) (fun h9 => absurd h9 (by decide)) (fun _ => ?_)
          refine S_aload_n X dX12_clause_207 rfl rfl ?_
          refine S_calli X (kX12_look l h0 hT f T n a2_39 (-1) 0 hf0 hf1 (by omega) (by omega)) (is := [0, 1]) rfl (run_V X lkX12_130 0 rfl rfl (is := [0, 1]) (avs := []) (rest := []) rfl rfl (nle rfl) ⟨nle rfl, nle rfl⟩ ⟨nle rfl, nle rfl⟩ dX12_clause_208 (by decide) rfl) (fun z_52 u_50 hp_51 => ?_)
          obtain ⟨hz_53, hu_54⟩ := hp_51
          subst hz_53
          subst hu_54
          refine ⟨rfl, ?_⟩
          refine S_w (ws' := [(h0, ob 11 (uF (uF (uF f 3 (iv (sk T n a2_39))) 4 (iv (-1))) 5 (iv 0))), (hT, ar 160 T), (hC, ar 1700 (wrL C (340 * tx + k) (List.map kC ts_40))), (hV, ar 1700 (wrL V (340 * tx + k) (List.map kV ts_40))), (hN, ar 5 (uZ Nk tx (k + ((ts_40).length : Int)))), (hL, ar 5 (uZ Lk tx j)), (hTf, ar 450 (uZ Tf ((90 * tx) + j) k)), (hSf, ar 450 (uZ Sf ((90 * tx) + j) k)), (hEf, ar 450 Ef)]) rfl ?_
          refine S_bipush X dX12_clause_211 rfl ?_
          refine S_icmp_eq (tgt := 221) X dX12_clause_213 (by decide) (by omega) (by decide) (fun c_55 => ?_) (fun c_55 => ?_)
          ·
            refine S_aload_n X dX12_clause_221 rfl rfl ?_
            refine S_dup X dX12_clause_222 ?_
            refine S_get (v := iv (sk T n a2_39)) X fgX12_111_11 0 rfl rfl dX12_clause_223 ?_
            refine S_iconst X dX12_clause_226 ?_
            refine S_iadd X dX12_clause_227 ?_
            refine S_put X fpX12_111_11 0 rfl FT_i dX12_clause_228 ?_
            refine S_w (ws' := [(h0, ob 11 (uF (uF (uF f 3 (iv ((sk T n a2_39) + 1))) 4 (iv (-1))) 5 (iv 0))), (hT, ar 160 T), (hC, ar 1700 (wrL C (340 * tx + k) (List.map kC ts_40))), (hV, ar 1700 (wrL V (340 * tx + k) (List.map kV ts_40))), (hN, ar 5 (uZ Nk tx (k + ((ts_40).length : Int)))), (hL, ar 5 (uZ Lk tx j)), (hTf, ar 450 (uZ Tf ((90 * tx) + j) k)), (hSf, ar 450 (uZ Sf ((90 * tx) + j) k)), (hEf, ar 450 Ef)]) (by simp only [List.set]; rw [uF_mv (j := 5) (k := 3) (by decide), uF_mv (j := 4) (k := 3) (by decide), uF_same (k := 3)]) ?_
            refine S_aload_n X dX12_clause_231 rfl rfl ?_
            refine S_get X fgX12_28_11 0 rfl hf8 dX12_clause_232 ?_
            refine S_iload_n X dX12_clause_235 rfl rfl ?_
            refine S_aload_n X dX12_clause_236 rfl rfl ?_
            refine S_get X fgX12_19_11 0 rfl hf4 dX12_clause_237 ?_
            refine S_aload_n X dX12_clause_240 rfl rfl ?_
            refine S_get X fgX12_121_11 0 rfl hf5 dX12_clause_241 ?_
            refine S_iald X 4 rfl (by omega) (by omega) (nle rfl) dX12_clause_244 ?_
            rw [show (uZ Nk tx (k + ((ts_40).length : Int))) tx = (k + ((ts_40).length : Int)) from uZ_at]
            refine S_iast X 7 rfl (by omega) (by omega) (nle rfl) dX12_clause_245 ?_
            refine S_w (ws' := [(h0, ob 11 (uF (uF (uF f 3 (iv ((sk T n a2_39) + 1))) 4 (iv (-1))) 5 (iv 0))), (hT, ar 160 T), (hC, ar 1700 (wrL C (340 * tx + k) (List.map kC ts_40))), (hV, ar 1700 (wrL V (340 * tx + k) (List.map kV ts_40))), (hN, ar 5 (uZ Nk tx (k + ((ts_40).length : Int)))), (hL, ar 5 (uZ Lk tx j)), (hTf, ar 450 (uZ Tf ((90 * tx) + j) k)), (hSf, ar 450 (uZ (uZ Sf ((90 * tx) + j) k) ((90 * tx) + j) (k + ((ts_40).length : Int)))), (hEf, ar 450 Ef)]) rfl ?_
            refine S_aload_n X dX12_clause_246 rfl rfl ?_
            refine S_callv X ((ref_sum6 l) h0 hT f T n ((sk T n a2_39) + 1) 0 hC hV hN (wrL C (340 * tx + k) (List.map kC ts_40)) (wrL V (340 * tx + k) (List.map kV ts_40)) Nk tx (k + ((ts_40).length : Int)) hf0 hf1 hf2 hf3 hf4 hf5 (by omega) (by omega) (by omega) (by omega) (by omega)) (is := [0, 1, 2, 3, 4]) rfl (run_V X lkX12_151 0 rfl rfl (is := [0, 1, 2, 3, 4]) (avs := []) (rest := []) rfl rfl (nle rfl) ⟨nle rfl, nle rfl⟩ ⟨nle rfl, nle rfl⟩ dX12_clause_247 (by decide) rfl) (fun u_56 hp_57 => ?_)
            rcases hp_57 with ⟨a2_59, fl_60, k2_61, dp2_62, C2_63, V2_64, hu_66, hq_67, hfl_68, hr_69, hfC_70, hfV_71⟩ | ⟨a2_72, ts_73, hu_75, hq_76⟩
            ·
              subst hu_66
              refine ⟨rfl, ?_⟩
              refine S_w (ws' := [(h0, ob 11 (uF (uF (uF f 3 (iv a2_59)) 4 (iv fl_60)) 5 (iv dp2_62))), (hT, ar 160 T), (hC, ar 1700 C2_63), (hV, ar 1700 V2_64), (hN, ar 5 (uZ Nk tx k2_61)), (hL, ar 5 (uZ Lk tx j)), (hTf, ar 450 (uZ Tf ((90 * tx) + j) k)), (hSf, ar 450 (uZ (uZ Sf ((90 * tx) + j) k) ((90 * tx) + j) (k + ((ts_40).length : Int)))), (hEf, ar 450 Ef)]) rfl ?_
              refine S_aload_n X dX12_clause_250 rfl rfl ?_
              refine S_get X fgX12_31_11 0 rfl hf9 dX12_clause_251 ?_
              refine S_iload_n X dX12_clause_254 rfl rfl ?_
              refine S_aload_n X dX12_clause_255 rfl rfl ?_
              refine S_get X fgX12_19_11 0 rfl hf4 dX12_clause_256 ?_
              refine S_aload_n X dX12_clause_259 rfl rfl ?_
              refine S_get X fgX12_121_11 0 rfl hf5 dX12_clause_260 ?_
              refine S_iald X 4 rfl (by omega) (by omega) (nle rfl) dX12_clause_263 ?_
              rw [show (uZ Nk tx k2_61) tx = k2_61 from uZ_at]
              refine S_iast X 8 rfl (by omega) (by omega) (nle rfl) dX12_clause_264 ?_
              refine S_w (ws' := [(h0, ob 11 (uF (uF (uF f 3 (iv a2_59)) 4 (iv fl_60)) 5 (iv dp2_62))), (hT, ar 160 T), (hC, ar 1700 C2_63), (hV, ar 1700 V2_64), (hN, ar 5 (uZ Nk tx k2_61)), (hL, ar 5 (uZ Lk tx j)), (hTf, ar 450 (uZ Tf ((90 * tx) + j) k)), (hSf, ar 450 (uZ (uZ Sf ((90 * tx) + j) k) ((90 * tx) + j) (k + ((ts_40).length : Int)))), (hEf, ar 450 (uZ Ef ((90 * tx) + j) k2_61))]) rfl ?_
              refine S_aload_n X dX12_clause_265 rfl rfl ?_
              refine S_get X fgX12_22_11 0 rfl hf6 dX12_clause_266 ?_
              refine S_aload_n X dX12_clause_269 rfl rfl ?_
              refine S_get X fgX12_121_11 0 rfl hf5 dX12_clause_270 ?_
              refine S_dup2 X dX12_clause_273 ?_
              refine S_iald X 5 rfl (by omega) (by omega) (nle rfl) dX12_clause_274 ?_
              rw [show (uZ Lk tx j) tx = j from uZ_at]
              refine S_iconst X dX12_clause_275 ?_
              refine S_iadd X dX12_clause_276 ?_
              refine S_iast X 5 rfl (by omega) (by omega) (nle rfl) dX12_clause_277 ?_
              refine S_w (ws' := [(h0, ob 11 (uF (uF (uF f 3 (iv a2_59)) 4 (iv fl_60)) 5 (iv dp2_62))), (hT, ar 160 T), (hC, ar 1700 C2_63), (hV, ar 1700 V2_64), (hN, ar 5 (uZ Nk tx k2_61)), (hL, ar 5 (uZ (uZ Lk tx j) tx (j + 1))), (hTf, ar 450 (uZ Tf ((90 * tx) + j) k)), (hSf, ar 450 (uZ (uZ Sf ((90 * tx) + j) k) ((90 * tx) + j) (k + ((ts_40).length : Int)))), (hEf, ar 450 (uZ Ef ((90 * tx) + j) k2_61))]) rfl ?_
              refine S_w (ws' := [(h0, ob 11 (uF (uF (uF f 3 (iv a2_59)) 4 (iv fl_60)) 5 (iv dp2_62))), (hT, ar 160 T), (hC, ar 1700 C2_63), (hV, ar 1700 V2_64), (hN, ar 5 (uZ Nk tx k2_61)), (hL, ar 5 (uZ Lk tx (j + 1))), (hTf, ar 450 (uZ Tf ((90 * tx) + j) k)), (hSf, ar 450 (uZ (uZ Sf ((90 * tx) + j) k) ((90 * tx) + j) (k + ((ts_40).length : Int)))), (hEf, ar 450 (uZ Ef ((90 * tx) + j) k2_61))]) (by simp only [uZ_same, List.length_nil, Int.natCast_zero, Int.add_zero, List.nil_append]) ?_
              exact S_vret X (nle rfl) (nle rfl) dX12_clause_278 (hPo _ (Or.inl ⟨_, _, _, _, _, _, _, _, _, _, rfl, ls_t (by omega) (by omega) (by omega) hq_43 (ss_f (by omega) hq_67), by omega, by first | exact frm_0 | assumption | exact frm_r (by omega) (by omega) | exact frm_w (by assumption) (by omega) (by omega) | exact frm_p frm_0 (by omega) | exact frm_p (by assumption) (by omega) | exact frm_p (frm_w (by assumption) (by omega) (by omega)) (by omega), by first | exact frm_0 | assumption | exact frm_r (by omega) (by omega) | exact frm_w (by assumption) (by omega) (by omega) | exact frm_p frm_0 (by omega) | exact frm_p (by assumption) (by omega) | exact frm_p (frm_w (by assumption) (by omega) (by omega)) (by omega), by first | exact frp_0 | exact frp_1 frp_0 (by omega) | exact frp_1 (frp_1 frp_0 (by omega)) (by omega), by first | exact frp_0 | exact frp_1 frp_0 (by omega) | exact frp_1 (frp_1 frp_0 (by omega)) (by omega), by first | exact frp_0 | exact frp_1 frp_0 (by omega) | exact frp_1 (frp_1 frp_0 (by omega)) (by omega)⟩))
            ·
              subst hu_75
              refine ⟨rfl, ?_⟩
              refine S_w (ws' := [(h0, ob 11 (uF (uF (uF f 3 (iv a2_72)) 4 (iv (-1))) 5 (iv 0))), (hT, ar 160 T), (hC, ar 1700 (wrL (wrL C (340 * tx + k) (List.map kC ts_40)) (340 * tx + (k + ((ts_40).length : Int))) (List.map kC ts_73))), (hV, ar 1700 (wrL (wrL V (340 * tx + k) (List.map kV ts_40)) (340 * tx + (k + ((ts_40).length : Int))) (List.map kV ts_73))), (hN, ar 5 (uZ Nk tx ((k + ((ts_40).length : Int)) + ((ts_73).length : Int)))), (hL, ar 5 (uZ Lk tx j)), (hTf, ar 450 (uZ Tf ((90 * tx) + j) k)), (hSf, ar 450 (uZ (uZ Sf ((90 * tx) + j) k) ((90 * tx) + j) (k + ((ts_40).length : Int)))), (hEf, ar 450 Ef)]) rfl ?_
              refine S_w (ws' := [(h0, ob 11 (uF (uF (uF f 3 (iv a2_72)) 4 (iv (-1))) 5 (iv 0))), (hT, ar 160 T), (hC, ar 1700 (wrL C (340 * tx + k) (List.map kC (ts_40 ++ ts_73)))), (hV, ar 1700 (wrL V (340 * tx + k) (List.map kV (ts_40 ++ ts_73)))), (hN, ar 5 (uZ Nk tx ((k + ((ts_40).length : Int)) + ((ts_73).length : Int)))), (hL, ar 5 (uZ Lk tx j)), (hTf, ar 450 (uZ Tf ((90 * tx) + j) k)), (hSf, ar 450 (uZ (uZ Sf ((90 * tx) + j) k) ((90 * tx) + j) (k + ((ts_40).length : Int)))), (hEf, ar 450 Ef)]) (by simp only [rW_app]) ?_
              have ho_77 := ((pAS_ok (T := T) hn1 6).2 _ (by omega) (by omega)).2 _ hq_76
              dsimp only at ho_77
              refine S_aload_n X dX12_clause_250 rfl rfl ?_
              refine S_get X fgX12_31_11 0 rfl hf9 dX12_clause_251 ?_
              refine S_iload_n X dX12_clause_254 rfl rfl ?_
              refine S_aload_n X dX12_clause_255 rfl rfl ?_
              refine S_get X fgX12_19_11 0 rfl hf4 dX12_clause_256 ?_
              refine S_aload_n X dX12_clause_259 rfl rfl ?_
              refine S_get X fgX12_121_11 0 rfl hf5 dX12_clause_260 ?_
              refine S_iald X 4 rfl (by omega) (by omega) (nle rfl) dX12_clause_263 ?_
              rw [show (uZ Nk tx ((k + ((ts_40).length : Int)) + ((ts_73).length : Int))) tx = ((k + ((ts_40).length : Int)) + ((ts_73).length : Int)) from uZ_at]
              refine S_iast X 8 rfl (by omega) (by omega) (nle rfl) dX12_clause_264 ?_
              refine S_w (ws' := [(h0, ob 11 (uF (uF (uF f 3 (iv a2_72)) 4 (iv (-1))) 5 (iv 0))), (hT, ar 160 T), (hC, ar 1700 (wrL C (340 * tx + k) (List.map kC (ts_40 ++ ts_73)))), (hV, ar 1700 (wrL V (340 * tx + k) (List.map kV (ts_40 ++ ts_73)))), (hN, ar 5 (uZ Nk tx ((k + ((ts_40).length : Int)) + ((ts_73).length : Int)))), (hL, ar 5 (uZ Lk tx j)), (hTf, ar 450 (uZ Tf ((90 * tx) + j) k)), (hSf, ar 450 (uZ (uZ Sf ((90 * tx) + j) k) ((90 * tx) + j) (k + ((ts_40).length : Int)))), (hEf, ar 450 (uZ Ef ((90 * tx) + j) ((k + ((ts_40).length : Int)) + ((ts_73).length : Int))))]) rfl ?_
              refine S_aload_n X dX12_clause_265 rfl rfl ?_
              refine S_get X fgX12_22_11 0 rfl hf6 dX12_clause_266 ?_
              refine S_aload_n X dX12_clause_269 rfl rfl ?_
              refine S_get X fgX12_121_11 0 rfl hf5 dX12_clause_270 ?_
              refine S_dup2 X dX12_clause_273 ?_
              refine S_iald X 5 rfl (by omega) (by omega) (nle rfl) dX12_clause_274 ?_
              rw [show (uZ Lk tx j) tx = j from uZ_at]
              refine S_iconst X dX12_clause_275 ?_
              refine S_iadd X dX12_clause_276 ?_
              refine S_iast X 5 rfl (by omega) (by omega) (nle rfl) dX12_clause_277 ?_
              refine S_w (ws' := [(h0, ob 11 (uF (uF (uF f 3 (iv a2_72)) 4 (iv (-1))) 5 (iv 0))), (hT, ar 160 T), (hC, ar 1700 (wrL C (340 * tx + k) (List.map kC (ts_40 ++ ts_73)))), (hV, ar 1700 (wrL V (340 * tx + k) (List.map kV (ts_40 ++ ts_73)))), (hN, ar 5 (uZ Nk tx ((k + ((ts_40).length : Int)) + ((ts_73).length : Int)))), (hL, ar 5 (uZ (uZ Lk tx j) tx (j + 1))), (hTf, ar 450 (uZ Tf ((90 * tx) + j) k)), (hSf, ar 450 (uZ (uZ Sf ((90 * tx) + j) k) ((90 * tx) + j) (k + ((ts_40).length : Int)))), (hEf, ar 450 (uZ Ef ((90 * tx) + j) ((k + ((ts_40).length : Int)) + ((ts_73).length : Int))))]) rfl ?_
              refine S_w (ws' := [(h0, ob 11 (uF (uF (uF f 3 (iv a2_72)) 4 (iv (-1))) 5 (iv 0))), (hT, ar 160 T), (hC, ar 1700 (wrL C (340 * tx + k) (List.map kC (ts_40 ++ ts_73)))), (hV, ar 1700 (wrL V (340 * tx + k) (List.map kV (ts_40 ++ ts_73)))), (hN, ar 5 (uZ Nk tx (k + ((ts_40 : List Int).length : Int) + ((ts_73 : List Int).length : Int)))), (hL, ar 5 (uZ Lk tx (j + 1))), (hTf, ar 450 (uZ Tf ((90 * tx) + j) k)), (hSf, ar 450 (uZ Sf (90 * tx + j) (k + ((ts_40 : List Int).length : Int)))), (hEf, ar 450 (uZ Ef (90 * tx + j) (k + ((ts_40 : List Int).length : Int) + ((ts_73 : List Int).length : Int))))]) (by simp only [uZ_same, List.length_nil, Int.natCast_zero, Int.add_zero, List.nil_append]) ?_
              exact S_vret X (nle rfl) (nle rfl) dX12_clause_278 (hPo _ (Or.inr ⟨_, ts_40, ts_73, rfl, ls_t (by omega) (by omega) (by omega) hq_43 (ss_r (by omega) hq_76)⟩))
          ·
            refine S_aload_n X dX12_clause_216 rfl rfl ?_
            refine S_callv X (kX12_bad l h0 f (sk T n a2_39) (-1) 0 (by omega)) (is := [0]) rfl (run_V X lkX12_127 0 rfl rfl (is := [0]) (avs := []) (rest := []) rfl rfl (nle rfl) ⟨nle rfl, nle rfl⟩ ⟨nle rfl, nle rfl⟩ dX12_clause_217 (by decide) rfl) (fun u_78 hp_79 => ?_)
            have hu_82 := hp_79
            subst hu_82
            refine ⟨rfl, ?_⟩
            refine S_w (ws' := [(h0, ob 11 (uF (uF (uF f 3 (iv (sk T n a2_39))) 4 (iv (sk T n a2_39))) 5 (iv 0))), (hT, ar 160 T), (hC, ar 1700 (wrL C (340 * tx + k) (List.map kC ts_40))), (hV, ar 1700 (wrL V (340 * tx + k) (List.map kV ts_40))), (hN, ar 5 (uZ Nk tx (k + ((ts_40).length : Int)))), (hL, ar 5 (uZ Lk tx j)), (hTf, ar 450 (uZ Tf ((90 * tx) + j) k)), (hSf, ar 450 (uZ Sf ((90 * tx) + j) k)), (hEf, ar 450 Ef)]) rfl ?_
            exact S_vret X (nle rfl) (nle rfl) dX12_clause_220 (hPo _ (Or.inl ⟨_, _, _, _, _, _, _, _, _, _, rfl, ls_t (by omega) (by omega) (by omega) hq_43 (ss_n (by omega)), by omega, by first | exact frm_0 | assumption | exact frm_r (by omega) (by omega) | exact frm_w (by assumption) (by omega) (by omega) | exact frm_p frm_0 (by omega) | exact frm_p (by assumption) (by omega) | exact frm_p (frm_w (by assumption) (by omega) (by omega)) (by omega), by first | exact frm_0 | assumption | exact frm_r (by omega) (by omega) | exact frm_w (by assumption) (by omega) (by omega) | exact frm_p frm_0 (by omega) | exact frm_p (by assumption) (by omega) | exact frm_p (frm_w (by assumption) (by omega) (by omega)) (by omega), by first | exact frp_0 | exact frp_1 frp_0 (by omega) | exact frp_1 (frp_1 frp_0 (by omega)) (by omega), by first | exact frp_0 | exact frp_1 frp_0 (by omega) | exact frp_1 (frp_1 frp_0 (by omega)) (by omega), by first | exact frp_0 | exact frp_1 frp_0 (by omega) | exact frp_1 (frp_1 frp_0 (by omega)) (by omega)⟩))
      ·
        refine S_aload_n X dX12_clause_113 rfl rfl ?_
        refine S_calli X (kX12_look l h0 hT f T n (sk T n ((sk T n ((sk T n a) + 1)) + 1)) (-1) 0 hf0 hf1 (by omega) (by omega)) (is := [0, 1]) rfl (run_V X lkX12_130 0 rfl rfl (is := [0, 1]) (avs := []) (rest := []) rfl rfl (nle rfl) ⟨nle rfl, nle rfl⟩ ⟨nle rfl, nle rfl⟩ dX12_clause_114 (by decide) rfl) (fun z_85 u_83 hp_84 => ?_)
        obtain ⟨hz_86, hu_87⟩ := hp_84
        subst hz_86
        subst hu_87
        refine ⟨rfl, ?_⟩
        refine S_w (ws' := [(h0, ob 11 (uF (uF (uF f 3 (iv (sk T n (sk T n ((sk T n ((sk T n a) + 1)) + 1))))) 4 (iv (-1))) 5 (iv 0))), (hT, ar 160 T), (hC, ar 1700 C), (hV, ar 1700 V), (hN, ar 5 (uZ Nk tx k)), (hL, ar 5 (uZ Lk tx j)), (hTf, ar 450 (uZ Tf ((90 * tx) + j) k)), (hSf, ar 450 Sf), (hEf, ar 450 Ef)]) rfl ?_
        rw [sk_idem (a := sk T n (sk T n a + 1) + 1)]
        refine S_bipush X dX12_clause_117 rfl ?_
        refine S_icmp_ne (tgt := 126) X dX12_clause_119 (by decide) (by omega) (by decide) (fun c_88 => ?_) (fun c_88 => ?_)
        ·
          refine S_iconst X dX12_clause_126 ?_
          refine S_istore_n X dX12_clause_127 rfl (nle rfl) ?_
          refine S_iload_n X dX12_clause_128 rfl rfl ?_
          refine S_if_eq (tgt := 139) X dX12_clause_129 (by decide) (by decide) (fun _ => ?_) (fun h9 => absurd h9 (by decide))
          refine S_aload_n X dX12_clause_139 rfl rfl ?_
          refine S_callv X ((ref_sum6 l) h0 hT f T n (sk T n ((sk T n ((sk T n a) + 1)) + 1)) 0 hC hV hN C V Nk tx k hf0 hf1 hf2 hf3 hf4 hf5 (by omega) (by omega) (by omega) (by omega) (by omega)) (is := [0, 1, 2, 3, 4]) rfl (run_V X lkX12_151 0 rfl rfl (is := [0, 1, 2, 3, 4]) (avs := []) (rest := []) rfl rfl (nle rfl) ⟨nle rfl, nle rfl⟩ ⟨nle rfl, nle rfl⟩ dX12_clause_140 (by decide) rfl) (fun u_90 hp_91 => ?_)
          rcases hp_91 with ⟨a2_93, fl_94, k2_95, dp2_96, C2_97, V2_98, hu_100, hq_101, hfl_102, hr_103, hfC_104, hfV_105⟩ | ⟨a2_106, ts_107, hu_109, hq_110⟩
          ·
            subst hu_100
            refine ⟨rfl, ?_⟩
            refine S_w (ws' := [(h0, ob 11 (uF (uF (uF f 3 (iv a2_93)) 4 (iv fl_94)) 5 (iv dp2_96))), (hT, ar 160 T), (hC, ar 1700 C2_97), (hV, ar 1700 V2_98), (hN, ar 5 (uZ Nk tx k2_95)), (hL, ar 5 (uZ Lk tx j)), (hTf, ar 450 (uZ Tf ((90 * tx) + j) k)), (hSf, ar 450 Sf), (hEf, ar 450 Ef)]) rfl ?_
            refine S_aload_n X dX12_clause_143 rfl rfl ?_
            refine S_get (v := iv fl_94) X fgX12_118_11 0 rfl rfl dX12_clause_144 ?_
            refine S_iconst X dX12_clause_147 ?_
            refine S_icmp_ne (tgt := 165) X dX12_clause_148 (by decide) (by omega) (by decide) (fun c_111 => ?_) (fun c_111 => by exfalso; omega)
            refine S_iconst X dX12_clause_165 ?_
            refine S_istore_n X dX12_clause_166 rfl (nle rfl) ?_
            refine S_iload_n X dX12_clause_167 rfl rfl ?_
            refine S_if_eq (tgt := 183) X dX12_clause_168 (by decide) (by decide) (fun _ => ?_) (fun h9 => absurd h9 (by decide))
            refine S_aload_n X dX12_clause_183 rfl rfl ?_
            refine S_get X fgX12_28_11 0 rfl hf8 dX12_clause_184 ?_
            refine S_iload_n X dX12_clause_187 rfl rfl ?_
            refine S_aload_n X dX12_clause_188 rfl rfl ?_
            refine S_get X fgX12_25_11 0 rfl hf7 dX12_clause_189 ?_
            refine S_iload_n X dX12_clause_192 rfl rfl ?_
            refine S_iald X 6 rfl (by omega) (by omega) (nle rfl) dX12_clause_193 ?_
            rw [show (uZ Tf ((90 * tx) + j) k) ((90 * tx) + j) = k from uZ_at]
            refine S_iast X 7 rfl (by omega) (by omega) (nle rfl) dX12_clause_194 ?_
            refine S_w (ws' := [(h0, ob 11 (uF (uF (uF f 3 (iv a2_93)) 4 (iv fl_94)) 5 (iv dp2_96))), (hT, ar 160 T), (hC, ar 1700 C2_97), (hV, ar 1700 V2_98), (hN, ar 5 (uZ Nk tx k2_95)), (hL, ar 5 (uZ Lk tx j)), (hTf, ar 450 (uZ Tf ((90 * tx) + j) k)), (hSf, ar 450 (uZ Sf ((90 * tx) + j) k)), (hEf, ar 450 Ef)]) rfl ?_
            refine S_iload_n X dX12_clause_195 rfl rfl ?_
            refine S_if_eq (tgt := 250) X dX12_clause_196 (by decide) (by decide) (fun _ => ?_) (fun h9 => absurd h9 (by decide))
            refine S_aload_n X dX12_clause_250 rfl rfl ?_
            refine S_get X fgX12_31_11 0 rfl hf9 dX12_clause_251 ?_
            refine S_iload_n X dX12_clause_254 rfl rfl ?_
            refine S_aload_n X dX12_clause_255 rfl rfl ?_
            refine S_get X fgX12_19_11 0 rfl hf4 dX12_clause_256 ?_
            refine S_aload_n X dX12_clause_259 rfl rfl ?_
            refine S_get X fgX12_121_11 0 rfl hf5 dX12_clause_260 ?_
            refine S_iald X 4 rfl (by omega) (by omega) (nle rfl) dX12_clause_263 ?_
            rw [show (uZ Nk tx k2_95) tx = k2_95 from uZ_at]
            refine S_iast X 8 rfl (by omega) (by omega) (nle rfl) dX12_clause_264 ?_
            refine S_w (ws' := [(h0, ob 11 (uF (uF (uF f 3 (iv a2_93)) 4 (iv fl_94)) 5 (iv dp2_96))), (hT, ar 160 T), (hC, ar 1700 C2_97), (hV, ar 1700 V2_98), (hN, ar 5 (uZ Nk tx k2_95)), (hL, ar 5 (uZ Lk tx j)), (hTf, ar 450 (uZ Tf ((90 * tx) + j) k)), (hSf, ar 450 (uZ Sf ((90 * tx) + j) k)), (hEf, ar 450 (uZ Ef ((90 * tx) + j) k2_95))]) rfl ?_
            refine S_aload_n X dX12_clause_265 rfl rfl ?_
            refine S_get X fgX12_22_11 0 rfl hf6 dX12_clause_266 ?_
            refine S_aload_n X dX12_clause_269 rfl rfl ?_
            refine S_get X fgX12_121_11 0 rfl hf5 dX12_clause_270 ?_
            refine S_dup2 X dX12_clause_273 ?_
            refine S_iald X 5 rfl (by omega) (by omega) (nle rfl) dX12_clause_274 ?_
            rw [show (uZ Lk tx j) tx = j from uZ_at]
            refine S_iconst X dX12_clause_275 ?_
            refine S_iadd X dX12_clause_276 ?_
            refine S_iast X 5 rfl (by omega) (by omega) (nle rfl) dX12_clause_277 ?_
            refine S_w (ws' := [(h0, ob 11 (uF (uF (uF f 3 (iv a2_93)) 4 (iv fl_94)) 5 (iv dp2_96))), (hT, ar 160 T), (hC, ar 1700 C2_97), (hV, ar 1700 V2_98), (hN, ar 5 (uZ Nk tx k2_95)), (hL, ar 5 (uZ (uZ Lk tx j) tx (j + 1))), (hTf, ar 450 (uZ Tf ((90 * tx) + j) k)), (hSf, ar 450 (uZ Sf ((90 * tx) + j) k)), (hEf, ar 450 (uZ Ef ((90 * tx) + j) k2_95))]) rfl ?_
            refine S_w (ws' := [(h0, ob 11 (uF (uF (uF f 3 (iv a2_93)) 4 (iv fl_94)) 5 (iv dp2_96))), (hT, ar 160 T), (hC, ar 1700 C2_97), (hV, ar 1700 V2_98), (hN, ar 5 (uZ Nk tx k2_95)), (hL, ar 5 (uZ Lk tx (j + 1))), (hTf, ar 450 (uZ Tf ((90 * tx) + j) k)), (hSf, ar 450 (uZ Sf ((90 * tx) + j) k)), (hEf, ar 450 (uZ Ef ((90 * tx) + j) k2_95))]) (by simp only [uZ_same, List.length_nil, Int.natCast_zero, Int.add_zero, List.nil_append]) ?_
            exact S_vret X (nle rfl) (nle rfl) dX12_clause_278 (hPo _ (Or.inl ⟨_, _, _, _, _, _, _, _, _, _, rfl, ls_sf (by omega) (by omega) (by omega) hq_101, by omega, by first | exact frm_0 | assumption | exact frm_r (by omega) (by omega) | exact frm_w (by assumption) (by omega) (by omega) | exact frm_p frm_0 (by omega) | exact frm_p (by assumption) (by omega) | exact frm_p (frm_w (by assumption) (by omega) (by omega)) (by omega), by first | exact frm_0 | assumption | exact frm_r (by omega) (by omega) | exact frm_w (by assumption) (by omega) (by omega) | exact frm_p frm_0 (by omega) | exact frm_p (by assumption) (by omega) | exact frm_p (frm_w (by assumption) (by omega) (by omega)) (by omega), by first | exact frp_0 | exact frp_1 frp_0 (by omega) | exact frp_1 (frp_1 frp_0 (by omega)) (by omega), by first | exact frp_0 | exact frp_1 frp_0 (by omega) | exact frp_1 (frp_1 frp_0 (by omega)) (by omega), by first | exact frp_0 | exact frp_1 frp_0 (by omega) | exact frp_1 (frp_1 frp_0 (by omega)) (by omega)⟩))
          ·
            subst hu_109
            refine ⟨rfl, ?_⟩
            refine S_w (ws' := [(h0, ob 11 (uF (uF (uF f 3 (iv a2_106)) 4 (iv (-1))) 5 (iv 0))), (hT, ar 160 T), (hC, ar 1700 (wrL C (340 * tx + k) (List.map kC ts_107))), (hV, ar 1700 (wrL V (340 * tx + k) (List.map kV ts_107))), (hN, ar 5 (uZ Nk tx (k + ((ts_107).length : Int)))), (hL, ar 5 (uZ Lk tx j)), (hTf, ar 450 (uZ Tf ((90 * tx) + j) k)), (hSf, ar 450 Sf), (hEf, ar 450 Ef)]) rfl ?_
            have ho_114 := ((pAS_ok (T := T) hn1 6).2 (sk T n (sk T n (sk T n a + 1) + 1)) (by omega) (by omega)).2 _ hq_110
            dsimp only at ho_114
            have hsk_115 := sk_in (T := T) (n := n) (a := a2_106) (by omega)
            have hcm_115 := chM_or okT (a := sk T n a2_106) (by omega) (by omega)
            refine S_aload_n X dX12_clause_143 rfl rfl ?_
            refine S_get (v := iv (-1)) X fgX12_118_11 0 rfl rfl dX12_clause_144 ?_
            refine S_iconst X dX12_clause_147 ?_
            refine S_icmp_ne (tgt := 165) X dX12_clause_148 (by decide) (by decide) (by decide) (fun h9 => absurd h9 (by decide)) (fun _ => ?_)
            refine S_aload_n X dX12_clause_151 rfl rfl ?_
            refine S_calli X (kX12_look l h0 hT f T n a2_106 (-1) 0 hf0 hf1 (by omega) (by omega)) (is := [0, 1]) rfl (run_V X lkX12_130 0 rfl rfl (is := [0, 1]) (avs := []) (rest := []) rfl rfl (nle rfl) ⟨nle rfl, nle rfl⟩ ⟨nle rfl, nle rfl⟩ dX12_clause_152 (by decide) rfl) (fun z_119 u_117 hp_118 => ?_)
            obtain ⟨hz_120, hu_121⟩ := hp_118
            subst hz_120
            subst hu_121
            refine ⟨rfl, ?_⟩
            refine S_w (ws' := [(h0, ob 11 (uF (uF (uF f 3 (iv (sk T n a2_106))) 4 (iv (-1))) 5 (iv 0))), (hT, ar 160 T), (hC, ar 1700 (wrL C (340 * tx + k) (List.map kC ts_107))), (hV, ar 1700 (wrL V (340 * tx + k) (List.map kV ts_107))), (hN, ar 5 (uZ Nk tx (k + ((ts_107).length : Int)))), (hL, ar 5 (uZ Lk tx j)), (hTf, ar 450 (uZ Tf ((90 * tx) + j) k)), (hSf, ar 450 Sf), (hEf, ar 450 Ef)]) rfl ?_
            refine S_calli X (kX12_isSign l (chM T n (sk T n a2_106)) (by omega)) (is := []) rfl (run_S X lkX12_164 (is := []) (avs := [iv (chM T n (sk T n a2_106))]) (rest := []) rfl rfl (nle rfl) ⟨nle rfl, nle rfl⟩ ⟨nle rfl, nle rfl⟩ dX12_clause_155 (by decide) rfl) (fun z_124 u_122 hp_123 => ?_)
            rcases hp_123 with ⟨hz_125, hu_126, hd_127⟩ | ⟨hz_128, hu_129, hd_130⟩
            ·
              subst hz_125
              subst hu_126
              refine ⟨rfl, ?_⟩
              refine S_w (ws' := [(h0, ob 11 (uF (uF (uF f 3 (iv (sk T n a2_106))) 4 (iv (-1))) 5 (iv 0))), (hT, ar 160 T), (hC, ar 1700 (wrL C (340 * tx + k) (List.map kC ts_107))), (hV, ar 1700 (wrL V (340 * tx + k) (List.map kV ts_107))), (hN, ar 5 (uZ Nk tx (k + ((ts_107).length : Int)))), (hL, ar 5 (uZ Lk tx j)), (hTf, ar 450 (uZ Tf ((90 * tx) + j) k)), (hSf, ar 450 Sf), (hEf, ar 450 Ef)]) rfl ?_
              refine S_if_eq (tgt := 165) X dX12_clause_158 (by decide) (by decide) (fun _ => ?_) (fun h9 => absurd h9 (by decide))
              refine S_iconst X dX12_clause_165 ?_
              refine S_istore_n X dX12_clause_166 rfl (nle rfl) ?_
              refine S_iload_n X dX12_clause_167 rfl rfl ?_
              refine S_if_eq (tgt := 183) X dX12_clause_168 (by decide) (by decide) (fun _ => ?_) (fun h9 => absurd h9 (by decide))
              refine S_aload_n X dX12_clause_183 rfl rfl ?_
              refine S_get X fgX12_28_11 0 rfl hf8 dX12_clause_184 ?_
              refine S_iload_n X dX12_clause_187 rfl rfl ?_
              refine S_aload_n X dX12_clause_188 rfl rfl ?_
              refine S_get X fgX12_25_11 0 rfl hf7 dX12_clause_189 ?_
              refine S_iload_n X dX12_clause_192 rfl rfl ?_
              refine S_iald X 6 rfl (by omega) (by omega) (nle rfl) dX12_clause_193 ?_
              rw [show (uZ Tf ((90 * tx) + j) k) ((90 * tx) + j) = k from uZ_at]
              refine S_iast X 7 rfl (by omega) (by omega) (nle rfl) dX12_clause_194 ?_
              refine S_w (ws' := [(h0, ob 11 (uF (uF (uF f 3 (iv (sk T n a2_106))) 4 (iv (-1))) 5 (iv 0))), (hT, ar 160 T), (hC, ar 1700 (wrL C (340 * tx + k) (List.map kC ts_107))), (hV, ar 1700 (wrL V (340 * tx + k) (List.map kV ts_107))), (hN, ar 5 (uZ Nk tx (k + ((ts_107).length : Int)))), (hL, ar 5 (uZ Lk tx j)), (hTf, ar 450 (uZ Tf ((90 * tx) + j) k)), (hSf, ar 450 (uZ Sf ((90 * tx) + j) k)), (hEf, ar 450 Ef)]) rfl ?_
              refine S_iload_n X dX12_clause_195 rfl rfl ?_
              refine S_if_eq (tgt := 250) X dX12_clause_196 (by decide) (by decide) (fun _ => ?_) (fun h9 => absurd h9 (by decide))
              refine S_aload_n X dX12_clause_250 rfl rfl ?_
              refine S_get X fgX12_31_11 0 rfl hf9 dX12_clause_251 ?_
              refine S_iload_n X dX12_clause_254 rfl rfl ?_
              refine S_aload_n X dX12_clause_255 rfl rfl ?_
              refine S_get X fgX12_19_11 0 rfl hf4 dX12_clause_256 ?_
              refine S_aload_n X dX12_clause_259 rfl rfl ?_
              refine S_get X fgX12_121_11 0 rfl hf5 dX12_clause_260 ?_
              refine S_iald X 4 rfl (by omega) (by omega) (nle rfl) dX12_clause_263 ?_
              rw [show (uZ Nk tx (k + ((ts_107).length : Int))) tx = (k + ((ts_107).length : Int)) from uZ_at]
              refine S_iast X 8 rfl (by omega) (by omega) (nle rfl) dX12_clause_264 ?_
              refine S_w (ws' := [(h0, ob 11 (uF (uF (uF f 3 (iv (sk T n a2_106))) 4 (iv (-1))) 5 (iv 0))), (hT, ar 160 T), (hC, ar 1700 (wrL C (340 * tx + k) (List.map kC ts_107))), (hV, ar 1700 (wrL V (340 * tx + k) (List.map kV ts_107))), (hN, ar 5 (uZ Nk tx (k + ((ts_107).length : Int)))), (hL, ar 5 (uZ Lk tx j)), (hTf, ar 450 (uZ Tf ((90 * tx) + j) k)), (hSf, ar 450 (uZ Sf ((90 * tx) + j) k)), (hEf, ar 450 (uZ Ef ((90 * tx) + j) (k + ((ts_107).length : Int))))]) rfl ?_
              refine S_aload_n X dX12_clause_265 rfl rfl ?_
              refine S_get X fgX12_22_11 0 rfl hf6 dX12_clause_266 ?_
              refine S_aload_n X dX12_clause_269 rfl rfl ?_
              refine S_get X fgX12_121_11 0 rfl hf5 dX12_clause_270 ?_
              refine S_dup2 X dX12_clause_273 ?_
              refine S_iald X 5 rfl (by omega) (by omega) (nle rfl) dX12_clause_274 ?_
              rw [show (uZ Lk tx j) tx = j from uZ_at]
              refine S_iconst X dX12_clause_275 ?_
              refine S_iadd X dX12_clause_276 ?_
              refine S_iast X 5 rfl (by omega) (by omega) (nle rfl) dX12_clause_277 ?_
              refine S_w (ws' := [(h0, ob 11 (uF (uF (uF f 3 (iv (sk T n a2_106))) 4 (iv (-1))) 5 (iv 0))), (hT, ar 160 T), (hC, ar 1700 (wrL C (340 * tx + k) (List.map kC ts_107))), (hV, ar 1700 (wrL V (340 * tx + k) (List.map kV ts_107))), (hN, ar 5 (uZ Nk tx (k + ((ts_107).length : Int)))), (hL, ar 5 (uZ (uZ Lk tx j) tx (j + 1))), (hTf, ar 450 (uZ Tf ((90 * tx) + j) k)), (hSf, ar 450 (uZ Sf ((90 * tx) + j) k)), (hEf, ar 450 (uZ Ef ((90 * tx) + j) (k + ((ts_107).length : Int))))]) rfl ?_
              refine S_w (ws' := [(h0, ob 11 (uF (uF (uF f 3 (iv (sk T n a2_106))) 4 (iv (-1))) 5 (iv 0))), (hT, ar 160 T), (hC, ar 1700 (wrL C (340 * tx + k) (List.map kC (([] : List Int) ++ ts_107)))), (hV, ar 1700 (wrL V (340 * tx + k) (List.map kV (([] : List Int) ++ ts_107)))), (hN, ar 5 (uZ Nk tx (k + (([] : List Int).length : Int) + ((ts_107 : List Int).length : Int)))), (hL, ar 5 (uZ Lk tx (j + 1))), (hTf, ar 450 (uZ Tf ((90 * tx) + j) k)), (hSf, ar 450 (uZ Sf (90 * tx + j) (k + (([] : List Int).length : Int)))), (hEf, ar 450 (uZ Ef (90 * tx + j) (k + (([] : List Int).length : Int) + ((ts_107 : List Int).length : Int))))]) (by simp only [uZ_same, List.length_nil, Int.natCast_zero, Int.add_zero, List.nil_append]) ?_
              exact S_vret X (nle rfl) (nle rfl) dX12_clause_278 (hPo _ (Or.inr ⟨_, [], ts_107, rfl, ls_s (by omega) (by omega) (by omega) hq_110 (by omega)⟩))
            ·
              subst hz_128
              subst hu_129
              refine ⟨rfl, ?_⟩
              refine S_w (ws' := [(h0, ob 11 (uF (uF (uF f 3 (iv (sk T n a2_106))) 4 (iv (-1))) 5 (iv 0))), (hT, ar 160 T), (hC, ar 1700 (wrL C (340 * tx + k) (List.map kC ts_107))), (hV, ar 1700 (wrL V (340 * tx + k) (List.map kV ts_107))), (hN, ar 5 (uZ Nk tx (k + ((ts_107).length : Int)))), (hL, ar 5 (uZ Lk tx j)), (hTf, ar 450 (uZ Tf ((90 * tx) + j) k)), (hSf, ar 450 Sf), (hEf, ar 450 Ef)]) rfl ?_
              refine S_if_eq (tgt := 165) X dX12_clause_158 (by decide) (by decide) (fun h9 => absurd h9 (by decide)) (fun _ => ?_)
              refine S_iconst X dX12_clause_161 ?_
              refine S_goto (tgt := 166) X dX12_clause_162 (by decide) ?_
              refine S_istore_n X dX12_clause_166 rfl (nle rfl) ?_
              refine S_iload_n X dX12_clause_167 rfl rfl ?_
              refine S_if_eq (tgt := 183) X dX12_clause_168 (by decide) (by decide) (fun h9 => absurd h9 (by decide)) (fun _ => ?_)
              refine S_aload_n X dX12_clause_171 rfl rfl ?_
              refine S_callv X ((ref_cmp6 l) h0 hT f T n (sk T n a2_106) 0 hC hV hN (wrL C (340 * tx + k) (List.map kC ts_107)) (wrL V (340 * tx + k) (List.map kV ts_107)) Nk tx (k + ((ts_107).length : Int)) hf0 hf1 hf2 hf3 hf4 hf5 (by omega) (by omega) (by omega) (by omega) (by omega)) (is := [0, 1, 2, 3, 4]) rfl (run_V X lkX12_173 0 rfl rfl (is := [0, 1, 2, 3, 4]) (avs := []) (rest := []) rfl rfl (nle rfl) ⟨nle rfl, nle rfl⟩ ⟨nle rfl, nle rfl⟩ dX12_clause_172 (by decide) rfl) (fun u_136 hp_137 => ?_)
              rcases hp_137 with ⟨a2_139, fl_140, k2_141, dp2_142, C2_143, V2_144, hu_146, hq_147, hfl_148, hr_149, hfC_150, hfV_151⟩ | ⟨a2_152, ts_153, hu_155, hq_156⟩
              ·
                subst hu_146
                refine ⟨rfl, ?_⟩
                refine S_w (ws' := [(h0, ob 11 (uF (uF (uF f 3 (iv a2_139)) 4 (iv fl_140)) 5 (iv dp2_142))), (hT, ar 160 T), (hC, ar 1700 C2_143), (hV, ar 1700 V2_144), (hN, ar 5 (uZ Nk tx k2_141)), (hL, ar 5 (uZ Lk tx j)), (hTf, ar 450 (uZ Tf ((90 * tx) + j) k)), (hSf, ar 450 Sf), (hEf, ar 450 Ef)]) rfl ?_
                refine S_aload_n X dX12_clause_175 rfl rfl ?_
                refine S_callv X (kX12_goOnAnd_E l h0 f a2_139 fl_140 dp2_142 (by omega) (by omega)) (is := [0]) rfl (run_V X lkX12_176 0 rfl rfl (is := [0]) (avs := []) (rest := []) rfl rfl (nle rfl) ⟨nle rfl, nle rfl⟩ ⟨nle rfl, nle rfl⟩ dX12_clause_176 (by decide) rfl) (fun u_157 hp_158 => ?_)
                have hu_161 := hp_158
                subst hu_161
                refine ⟨rfl, ?_⟩
                refine S_w (ws' := [(h0, ob 11 (uF (uF (uF f 3 (iv a2_139)) 4 (iv fl_140)) 5 (iv dp2_142))), (hT, ar 160 T), (hC, ar 1700 C2_143), (hV, ar 1700 V2_144), (hN, ar 5 (uZ Nk tx k2_141)), (hL, ar 5 (uZ Lk tx j)), (hTf, ar 450 (uZ Tf ((90 * tx) + j) k)), (hSf, ar 450 Sf), (hEf, ar 450 Ef)]) rfl ?_
                refine S_aload_n X dX12_clause_179 rfl rfl ?_
                refine S_callv X (kX12_goOnOr_E l h0 f a2_139 fl_140 dp2_142 (by omega) (by omega)) (is := [0]) rfl (run_V X lkX12_179 0 rfl rfl (is := [0]) (avs := []) (rest := []) rfl rfl (nle rfl) ⟨nle rfl, nle rfl⟩ ⟨nle rfl, nle rfl⟩ dX12_clause_180 (by decide) rfl) (fun u_162 hp_163 => ?_)
                have hu_166 := hp_163
                subst hu_166
                refine ⟨rfl, ?_⟩
                refine S_w (ws' := [(h0, ob 11 (uF (uF (uF f 3 (iv a2_139)) 4 (iv fl_140)) 5 (iv dp2_142))), (hT, ar 160 T), (hC, ar 1700 C2_143), (hV, ar 1700 V2_144), (hN, ar 5 (uZ Nk tx k2_141)), (hL, ar 5 (uZ Lk tx j)), (hTf, ar 450 (uZ Tf ((90 * tx) + j) k)), (hSf, ar 450 Sf), (hEf, ar 450 Ef)]) rfl ?_
                refine S_aload_n X dX12_clause_183 rfl rfl ?_
                refine S_get X fgX12_28_11 0 rfl hf8 dX12_clause_184 ?_
                refine S_iload_n X dX12_clause_187 rfl rfl ?_
                refine S_aload_n X dX12_clause_188 rfl rfl ?_
                refine S_get X fgX12_25_11 0 rfl hf7 dX12_clause_189 ?_
                refine S_iload_n X dX12_clause_192 rfl rfl ?_
                refine S_iald X 6 rfl (by omega) (by omega) (nle rfl) dX12_clause_193 ?_
                rw [show (uZ Tf ((90 * tx) + j) k) ((90 * tx) + j) = k from uZ_at]
                refine S_iast X 7 rfl (by omega) (by omega) (nle rfl) dX12_clause_194 ?_
                refine S_w (ws' := [(h0, ob 11 (uF (uF (uF f 3 (iv a2_139)) 4 (iv fl_140)) 5 (iv dp2_142))), (hT, ar 160 T), (hC, ar 1700 C2_143), (hV, ar 1700 V2_144), (hN, ar 5 (uZ Nk tx k2_141)), (hL, ar 5 (uZ Lk tx j)), (hTf, ar 450 (uZ Tf ((90 * tx) + j) k)), (hSf, ar 450 (uZ Sf ((90 * tx) + j) k)), (hEf, ar 450 Ef)]) rfl ?_
                refine S_iload_n X dX12_clause_195 rfl rfl ?_
                refine S_if_eq (tgt := 250) X dX12_clause_196 (by decide) (by decide) (fun h9 => absurd h9 (by decide)) (fun _ => ?_)
                refine S_aload_n X dX12_clause_199 rfl rfl ?_
                refine S_get (v := iv fl_140) X fgX12_118_11 0 rfl rfl dX12_clause_200 ?_
                refine S_iconst X dX12_clause_203 ?_
                refine S_icmp_ne (tgt := 250) X dX12_clause_204 (by decide) (by omega) (by decide) (fun c_168 => ?_) (fun c_168 => by exfalso; omega)
                refine S_aload_n X dX12_clause_250 rfl rfl ?_
                refine S_get X fgX12_31_11 0 rfl hf9 dX12_clause_251 ?_
                refine S_iload_n X dX12_clause_254 rfl rfl ?_
                refine S_aload_n X dX12_clause_255 rfl rfl ?_
                refine S_get X fgX12_19_11 0 rfl hf4 dX12_clause_256 ?_
                refine S_aload_n X dX12_clause_259 rfl rfl ?_
                refine S_get X fgX12_121_11 0 rfl hf5 dX12_clause_260 ?_
                refine S_iald X 4 rfl (by omega) (by omega) (nle rfl) dX12_clause_263 ?_
                rw [show (uZ Nk tx k2_141) tx = k2_141 from uZ_at]
                refine S_iast X 8 rfl (by omega) (by omega) (nle rfl) dX12_clause_264 ?_
                refine S_w (ws' := [(h0, ob 11 (uF (uF (uF f 3 (iv a2_139)) 4 (iv fl_140)) 5 (iv dp2_142))), (hT, ar 160 T), (hC, ar 1700 C2_143), (hV, ar 1700 V2_144), (hN, ar 5 (uZ Nk tx k2_141)), (hL, ar 5 (uZ Lk tx j)), (hTf, ar 450 (uZ Tf ((90 * tx) + j) k)), (hSf, ar 450 (uZ Sf ((90 * tx) + j) k)), (hEf, ar 450 (uZ Ef ((90 * tx) + j) k2_141))]) rfl ?_
                refine S_aload_n X dX12_clause_265 rfl rfl ?_
                refine S_get X fgX12_22_11 0 rfl hf6 dX12_clause_266 ?_
                refine S_aload_n X dX12_clause_269 rfl rfl ?_
                refine S_get X fgX12_121_11 0 rfl hf5 dX12_clause_270 ?_
                refine S_dup2 X dX12_clause_273 ?_
                refine S_iald X 5 rfl (by omega) (by omega) (nle rfl) dX12_clause_274 ?_
                rw [show (uZ Lk tx j) tx = j from uZ_at]
                refine S_iconst X dX12_clause_275 ?_
                refine S_iadd X dX12_clause_276 ?_
                refine S_iast X 5 rfl (by omega) (by omega) (nle rfl) dX12_clause_277 ?_
                refine S_w (ws' := [(h0, ob 11 (uF (uF (uF f 3 (iv a2_139)) 4 (iv fl_140)) 5 (iv dp2_142))), (hT, ar 160 T), (hC, ar 1700 C2_143), (hV, ar 1700 V2_144), (hN, ar 5 (uZ Nk tx k2_141)), (hL, ar 5 (uZ (uZ Lk tx j) tx (j + 1))), (hTf, ar 450 (uZ Tf ((90 * tx) + j) k)), (hSf, ar 450 (uZ Sf ((90 * tx) + j) k)), (hEf, ar 450 (uZ Ef ((90 * tx) + j) k2_141))]) rfl ?_
                refine S_w (ws' := [(h0, ob 11 (uF (uF (uF f 3 (iv a2_139)) 4 (iv fl_140)) 5 (iv dp2_142))), (hT, ar 160 T), (hC, ar 1700 C2_143), (hV, ar 1700 V2_144), (hN, ar 5 (uZ Nk tx k2_141)), (hL, ar 5 (uZ Lk tx (j + 1))), (hTf, ar 450 (uZ Tf ((90 * tx) + j) k)), (hSf, ar 450 (uZ Sf ((90 * tx) + j) k)), (hEf, ar 450 (uZ Ef ((90 * tx) + j) k2_141))]) (by simp only [uZ_same, List.length_nil, Int.natCast_zero, Int.add_zero, List.nil_append]) ?_
                exact S_vret X (nle rfl) (nle rfl) dX12_clause_278 (hPo _ (Or.inl ⟨_, _, _, _, _, _, _, _, _, _, rfl, ls_cf (by omega) (by omega) (by omega) hq_110 (by omega) hq_147, by omega, by first | exact frm_0 | assumption | exact frm_r (by omega) (by omega) | exact frm_w (by assumption) (by omega) (by omega) | exact frm_p frm_0 (by omega) | exact frm_p (by assumption) (by omega) | exact frm_p (frm_w (by assumption) (by omega) (by omega)) (by omega), by first | exact frm_0 | assumption | exact frm_r (by omega) (by omega) | exact frm_w (by assumption) (by omega) (by omega) | exact frm_p frm_0 (by omega) | exact frm_p (by assumption) (by omega) | exact frm_p (frm_w (by assumption) (by omega) (by omega)) (by omega), by first | exact frp_0 | exact frp_1 frp_0 (by omega) | exact frp_1 (frp_1 frp_0 (by omega)) (by omega), by first | exact frp_0 | exact frp_1 frp_0 (by omega) | exact frp_1 (frp_1 frp_0 (by omega)) (by omega), by first | exact frp_0 | exact frp_1 frp_0 (by omega) | exact frp_1 (frp_1 frp_0 (by omega)) (by omega)⟩))
              ·
                subst hu_155
                refine ⟨rfl, ?_⟩
                refine S_w (ws' := [(h0, ob 11 (uF (uF (uF f 3 (iv a2_152)) 4 (iv (-1))) 5 (iv 0))), (hT, ar 160 T), (hC, ar 1700 (wrL (wrL C (340 * tx + k) (List.map kC ts_107)) (340 * tx + (k + ((ts_107).length : Int))) (List.map kC ts_153))), (hV, ar 1700 (wrL (wrL V (340 * tx + k) (List.map kV ts_107)) (340 * tx + (k + ((ts_107).length : Int))) (List.map kV ts_153))), (hN, ar 5 (uZ Nk tx ((k + ((ts_107).length : Int)) + ((ts_153).length : Int)))), (hL, ar 5 (uZ Lk tx j)), (hTf, ar 450 (uZ Tf ((90 * tx) + j) k)), (hSf, ar 450 Sf), (hEf, ar 450 Ef)]) rfl ?_
                refine S_w (ws' := [(h0, ob 11 (uF (uF (uF f 3 (iv a2_152)) 4 (iv (-1))) 5 (iv 0))), (hT, ar 160 T), (hC, ar 1700 (wrL C (340 * tx + k) (List.map kC (ts_107 ++ ts_153)))), (hV, ar 1700 (wrL V (340 * tx + k) (List.map kV (ts_107 ++ ts_153)))), (hN, ar 5 (uZ Nk tx (k + ((ts_107 ++ ts_153).length : Int)))), (hL, ar 5 (uZ Lk tx j)), (hTf, ar 450 (uZ Tf ((90 * tx) + j) k)), (hSf, ar 450 Sf), (hEf, ar 450 Ef)]) (by simp only [rW_app, rK_app]) ?_
                have ho_169 := (cmpG_ok (T := T) hn1 6 (sk T n a2_106) (by omega) (by omega)).2 _ hq_156
                dsimp only at ho_169
                have hln_169 : (((ts_107 ++ ts_153).length : Nat) : Int) = _ := congrArg Nat.cast List.length_append
                rw [Int.natCast_add] at hln_169
                refine S_aload_n X dX12_clause_175 rfl rfl ?_
                refine S_callv X ((ref_and6 l) h0 hT f T n a2_152 0 hC hV hN C V Nk tx k (ts_107 ++ ts_153) hf0 hf1 hf2 hf3 hf4 hf5 (by omega) (by omega) (by omega) (by omega) (by omega)) (is := [0, 1, 2, 3, 4]) rfl (run_V X lkX12_176 0 rfl rfl (is := [0, 1, 2, 3, 4]) (avs := []) (rest := []) rfl rfl (nle rfl) ⟨nle rfl, nle rfl⟩ ⟨nle rfl, nle rfl⟩ dX12_clause_176 (by decide) rfl) (fun u_170 hp_171 => ?_)
                rcases hp_171 with ⟨a2_173, fl_174, k2_175, dp2_176, C2_177, V2_178, hu_180, hq_181, hfl_182, hr_183, hfC_184, hfV_185⟩ | ⟨a2_186, ts_187, hu_189, hq_190, hr2_191⟩
                ·
                  subst hu_180
                  refine ⟨rfl, ?_⟩
                  refine S_w (ws' := [(h0, ob 11 (uF (uF (uF f 3 (iv a2_173)) 4 (iv fl_174)) 5 (iv dp2_176))), (hT, ar 160 T), (hC, ar 1700 C2_177), (hV, ar 1700 V2_178), (hN, ar 5 (uZ Nk tx k2_175)), (hL, ar 5 (uZ Lk tx j)), (hTf, ar 450 (uZ Tf ((90 * tx) + j) k)), (hSf, ar 450 Sf), (hEf, ar 450 Ef)]) rfl ?_
                  refine S_aload_n X dX12_clause_179 rfl rfl ?_
                  refine S_callv X (kX12_goOnOr_E l h0 f a2_173 fl_174 dp2_176 (by omega) (by omega)) (is := [0]) rfl (run_V X lkX12_179 0 rfl rfl (is := [0]) (avs := []) (rest := []) rfl rfl (nle rfl) ⟨nle rfl, nle rfl⟩ ⟨nle rfl, nle rfl⟩ dX12_clause_180 (by decide) rfl) (fun u_192 hp_193 => ?_)
                  have hu_196 := hp_193
                  subst hu_196
                  refine ⟨rfl, ?_⟩
                  refine S_w (ws' := [(h0, ob 11 (uF (uF (uF f 3 (iv a2_173)) 4 (iv fl_174)) 5 (iv dp2_176))), (hT, ar 160 T), (hC, ar 1700 C2_177), (hV, ar 1700 V2_178), (hN, ar 5 (uZ Nk tx k2_175)), (hL, ar 5 (uZ Lk tx j)), (hTf, ar 450 (uZ Tf ((90 * tx) + j) k)), (hSf, ar 450 Sf), (hEf, ar 450 Ef)]) rfl ?_
                  refine S_aload_n X dX12_clause_183 rfl rfl ?_
                  refine S_get X fgX12_28_11 0 rfl hf8 dX12_clause_184 ?_
                  refine S_iload_n X dX12_clause_187 rfl rfl ?_
                  refine S_aload_n X dX12_clause_188 rfl rfl ?_
                  refine S_get X fgX12_25_11 0 rfl hf7 dX12_clause_189 ?_
                  refine S_iload_n X dX12_clause_192 rfl rfl ?_
                  refine S_iald X 6 rfl (by omega) (by omega) (nle rfl) dX12_clause_193 ?_
                  rw [show (uZ Tf ((90 * tx) + j) k) ((90 * tx) + j) = k from uZ_at]
                  refine S_iast X 7 rfl (by omega) (by omega) (nle rfl) dX12_clause_194 ?_
                  refine S_w (ws' := [(h0, ob 11 (uF (uF (uF f 3 (iv a2_173)) 4 (iv fl_174)) 5 (iv dp2_176))), (hT, ar 160 T), (hC, ar 1700 C2_177), (hV, ar 1700 V2_178), (hN, ar 5 (uZ Nk tx k2_175)), (hL, ar 5 (uZ Lk tx j)), (hTf, ar 450 (uZ Tf ((90 * tx) + j) k)), (hSf, ar 450 (uZ Sf ((90 * tx) + j) k)), (hEf, ar 450 Ef)]) rfl ?_
                  refine S_iload_n X dX12_clause_195 rfl rfl ?_
                  refine S_if_eq (tgt := 250) X dX12_clause_196 (by decide) (by decide) (fun h9 => absurd h9 (by decide)) (fun _ => ?_)
                  refine S_aload_n X dX12_clause_199 rfl rfl ?_
                  refine S_get (v := iv fl_174) X fgX12_118_11 0 rfl rfl dX12_clause_200 ?_
                  refine S_iconst X dX12_clause_203 ?_
                  refine S_icmp_ne (tgt := 250) X dX12_clause_204 (by decide) (by omega) (by decide) (fun c_198 => ?_) (fun c_198 => by exfalso; omega)
                  refine S_aload_n X dX12_clause_250 rfl rfl ?_
                  refine S_get X fgX12_31_11 0 rfl hf9 dX12_clause_251 ?_
                  refine S_iload_n X dX12_clause_254 rfl rfl ?_
                  refine S_aload_n X dX12_clause_255 rfl rfl ?_
                  refine S_get X fgX12_19_11 0 rfl hf4 dX12_clause_256 ?_
                  refine S_aload_n X dX12_clause_259 rfl rfl ?_
                  refine S_get X fgX12_121_11 0 rfl hf5 dX12_clause_260 ?_
                  refine S_iald X 4 rfl (by omega) (by omega) (nle rfl) dX12_clause_263 ?_
                  rw [show (uZ Nk tx k2_175) tx = k2_175 from uZ_at]
                  refine S_iast X 8 rfl (by omega) (by omega) (nle rfl) dX12_clause_264 ?_
                  refine S_w (ws' := [(h0, ob 11 (uF (uF (uF f 3 (iv a2_173)) 4 (iv fl_174)) 5 (iv dp2_176))), (hT, ar 160 T), (hC, ar 1700 C2_177), (hV, ar 1700 V2_178), (hN, ar 5 (uZ Nk tx k2_175)), (hL, ar 5 (uZ Lk tx j)), (hTf, ar 450 (uZ Tf ((90 * tx) + j) k)), (hSf, ar 450 (uZ Sf ((90 * tx) + j) k)), (hEf, ar 450 (uZ Ef ((90 * tx) + j) k2_175))]) rfl ?_
                  refine S_aload_n X dX12_clause_265 rfl rfl ?_
                  refine S_get X fgX12_22_11 0 rfl hf6 dX12_clause_266 ?_
                  refine S_aload_n X dX12_clause_269 rfl rfl ?_
                  refine S_get X fgX12_121_11 0 rfl hf5 dX12_clause_270 ?_
                  refine S_dup2 X dX12_clause_273 ?_
                  refine S_iald X 5 rfl (by omega) (by omega) (nle rfl) dX12_clause_274 ?_
                  rw [show (uZ Lk tx j) tx = j from uZ_at]
                  refine S_iconst X dX12_clause_275 ?_
                  refine S_iadd X dX12_clause_276 ?_
                  refine S_iast X 5 rfl (by omega) (by omega) (nle rfl) dX12_clause_277 ?_
                  refine S_w (ws' := [(h0, ob 11 (uF (uF (uF f 3 (iv a2_173)) 4 (iv fl_174)) 5 (iv dp2_176))), (hT, ar 160 T), (hC, ar 1700 C2_177), (hV, ar 1700 V2_178), (hN, ar 5 (uZ Nk tx k2_175)), (hL, ar 5 (uZ (uZ Lk tx j) tx (j + 1))), (hTf, ar 450 (uZ Tf ((90 * tx) + j) k)), (hSf, ar 450 (uZ Sf ((90 * tx) + j) k)), (hEf, ar 450 (uZ Ef ((90 * tx) + j) k2_175))]) rfl ?_
                  refine S_w (ws' := [(h0, ob 11 (uF (uF (uF f 3 (iv a2_173)) 4 (iv fl_174)) 5 (iv dp2_176))), (hT, ar 160 T), (hC, ar 1700 C2_177), (hV, ar 1700 V2_178), (hN, ar 5 (uZ Nk tx k2_175)), (hL, ar 5 (uZ Lk tx (j + 1))), (hTf, ar 450 (uZ Tf ((90 * tx) + j) k)), (hSf, ar 450 (uZ Sf ((90 * tx) + j) k)), (hEf, ar 450 (uZ Ef ((90 * tx) + j) k2_175))]) (by simp only [uZ_same, List.length_nil, Int.natCast_zero, Int.add_zero, List.nil_append]) ?_
                  exact S_vret X (nle rfl) (nle rfl) dX12_clause_278 (hPo _ (Or.inl ⟨_, _, _, _, _, _, _, _, _, _, rfl, ls_mf (by omega) (by omega) (by omega) hq_110 (by omega) hq_156 (more_af hn1 (by omega) hq_181), by omega, by first | exact frm_0 | assumption | exact frm_r (by omega) (by omega) | exact frm_w (by assumption) (by omega) (by omega) | exact frm_p frm_0 (by omega) | exact frm_p (by assumption) (by omega) | exact frm_p (frm_w (by assumption) (by omega) (by omega)) (by omega), by first | exact frm_0 | assumption | exact frm_r (by omega) (by omega) | exact frm_w (by assumption) (by omega) (by omega) | exact frm_p frm_0 (by omega) | exact frm_p (by assumption) (by omega) | exact frm_p (frm_w (by assumption) (by omega) (by omega)) (by omega), by first | exact frp_0 | exact frp_1 frp_0 (by omega) | exact frp_1 (frp_1 frp_0 (by omega)) (by omega), by first | exact frp_0 | exact frp_1 frp_0 (by omega) | exact frp_1 (frp_1 frp_0 (by omega)) (by omega), by first | exact frp_0 | exact frp_1 frp_0 (by omega) | exact frp_1 (frp_1 frp_0 (by omega)) (by omega)⟩))
                ·
                  subst hu_189
                  refine ⟨rfl, ?_⟩
                  refine S_w (ws' := [(h0, ob 11 (uF (uF (uF f 3 (iv a2_186)) 4 (iv (-1))) 5 (iv 0))), (hT, ar 160 T), (hC, ar 1700 (wrL C (340 * tx + k) (List.map kC ts_187))), (hV, ar 1700 (wrL V (340 * tx + k) (List.map kV ts_187))), (hN, ar 5 (uZ Nk tx (k + ((ts_187).length : Int)))), (hL, ar 5 (uZ Lk tx j)), (hTf, ar 450 (uZ Tf ((90 * tx) + j) k)), (hSf, ar 450 Sf), (hEf, ar 450 Ef)]) rfl ?_
                  have hsk_199 := sk_in (T := T) (n := n) (a := a2_186) (by omega)
                  have hcm_199 := chM_or okT (a := sk T n a2_186) (by omega) (by omega)
                  refine S_aload_n X dX12_clause_179 rfl rfl ?_
                  refine S_callv X ((ref_or6 l) h0 hT f T n a2_186 0 hC hV hN C V Nk tx k ts_187 hf0 hf1 hf2 hf3 hf4 hf5 (by omega) (by omega) (by omega) (by omega) (by omega)) (is := [0, 1, 2, 3, 4]) rfl (run_V X lkX12_179 0 rfl rfl (is := [0, 1, 2, 3, 4]) (avs := []) (rest := []) rfl rfl (nle rfl) ⟨nle rfl, nle rfl⟩ ⟨nle rfl, nle rfl⟩ dX12_clause_180 (by decide) rfl) (fun u_200 hp_201 => ?_)
                  rcases hp_201 with ⟨a2_203, fl_204, k2_205, dp2_206, C2_207, V2_208, hu_210, hq_211, hfl_212, hr_213, hfC_214, hfV_215⟩ | ⟨a2_216, ts_217, hu_219, hq_220, hr2_221⟩
                  ·
                    subst hu_210
                    refine ⟨rfl, ?_⟩
                    refine S_w (ws' := [(h0, ob 11 (uF (uF (uF f 3 (iv a2_203)) 4 (iv fl_204)) 5 (iv dp2_206))), (hT, ar 160 T), (hC, ar 1700 C2_207), (hV, ar 1700 V2_208), (hN, ar 5 (uZ Nk tx k2_205)), (hL, ar 5 (uZ Lk tx j)), (hTf, ar 450 (uZ Tf ((90 * tx) + j) k)), (hSf, ar 450 Sf), (hEf, ar 450 Ef)]) rfl ?_
                    refine S_aload_n X dX12_clause_183 rfl rfl ?_
                    refine S_get X fgX12_28_11 0 rfl hf8 dX12_clause_184 ?_
                    refine S_iload_n X dX12_clause_187 rfl rfl ?_
                    refine S_aload_n X dX12_clause_188 rfl rfl ?_
                    refine S_get X fgX12_25_11 0 rfl hf7 dX12_clause_189 ?_
                    refine S_iload_n X dX12_clause_192 rfl rfl ?_
                    refine S_iald X 6 rfl (by omega) (by omega) (nle rfl) dX12_clause_193 ?_
                    rw [show (uZ Tf ((90 * tx) + j) k) ((90 * tx) + j) = k from uZ_at]
                    refine S_iast X 7 rfl (by omega) (by omega) (nle rfl) dX12_clause_194 ?_
                    refine S_w (ws' := [(h0, ob 11 (uF (uF (uF f 3 (iv a2_203)) 4 (iv fl_204)) 5 (iv dp2_206))), (hT, ar 160 T), (hC, ar 1700 C2_207), (hV, ar 1700 V2_208), (hN, ar 5 (uZ Nk tx k2_205)), (hL, ar 5 (uZ Lk tx j)), (hTf, ar 450 (uZ Tf ((90 * tx) + j) k)), (hSf, ar 450 (uZ Sf ((90 * tx) + j) k)), (hEf, ar 450 Ef)]) rfl ?_
                    refine S_iload_n X dX12_clause_195 rfl rfl ?_
                    refine S_if_eq (tgt := 250) X dX12_clause_196 (by decide) (by decide) (fun h9 => absurd h9 (by decide)) (fun _ => ?_)
                    refine S_aload_n X dX12_clause_199 rfl rfl ?_
                    refine S_get (v := iv fl_204) X fgX12_118_11 0 rfl rfl dX12_clause_200 ?_
                    refine S_iconst X dX12_clause_203 ?_
                    refine S_icmp_ne (tgt := 250) X dX12_clause_204 (by decide) (by omega) (by decide) (fun c_223 => ?_) (fun c_223 => by exfalso; omega)
                    refine S_aload_n X dX12_clause_250 rfl rfl ?_
                    refine S_get X fgX12_31_11 0 rfl hf9 dX12_clause_251 ?_
                    refine S_iload_n X dX12_clause_254 rfl rfl ?_
                    refine S_aload_n X dX12_clause_255 rfl rfl ?_
                    refine S_get X fgX12_19_11 0 rfl hf4 dX12_clause_256 ?_
                    refine S_aload_n X dX12_clause_259 rfl rfl ?_
                    refine S_get X fgX12_121_11 0 rfl hf5 dX12_clause_260 ?_
                    refine S_iald X 4 rfl (by omega) (by omega) (nle rfl) dX12_clause_263 ?_
                    rw [show (uZ Nk tx k2_205) tx = k2_205 from uZ_at]
                    refine S_iast X 8 rfl (by omega) (by omega) (nle rfl) dX12_clause_264 ?_
                    refine S_w (ws' := [(h0, ob 11 (uF (uF (uF f 3 (iv a2_203)) 4 (iv fl_204)) 5 (iv dp2_206))), (hT, ar 160 T), (hC, ar 1700 C2_207), (hV, ar 1700 V2_208), (hN, ar 5 (uZ Nk tx k2_205)), (hL, ar 5 (uZ Lk tx j)), (hTf, ar 450 (uZ Tf ((90 * tx) + j) k)), (hSf, ar 450 (uZ Sf ((90 * tx) + j) k)), (hEf, ar 450 (uZ Ef ((90 * tx) + j) k2_205))]) rfl ?_
                    refine S_aload_n X dX12_clause_265 rfl rfl ?_
                    refine S_get X fgX12_22_11 0 rfl hf6 dX12_clause_266 ?_
                    refine S_aload_n X dX12_clause_269 rfl rfl ?_
                    refine S_get X fgX12_121_11 0 rfl hf5 dX12_clause_270 ?_
                    refine S_dup2 X dX12_clause_273 ?_
                    refine S_iald X 5 rfl (by omega) (by omega) (nle rfl) dX12_clause_274 ?_
                    rw [show (uZ Lk tx j) tx = j from uZ_at]
                    refine S_iconst X dX12_clause_275 ?_
                    refine S_iadd X dX12_clause_276 ?_
                    refine S_iast X 5 rfl (by omega) (by omega) (nle rfl) dX12_clause_277 ?_
                    refine S_w (ws' := [(h0, ob 11 (uF (uF (uF f 3 (iv a2_203)) 4 (iv fl_204)) 5 (iv dp2_206))), (hT, ar 160 T), (hC, ar 1700 C2_207), (hV, ar 1700 V2_208), (hN, ar 5 (uZ Nk tx k2_205)), (hL, ar 5 (uZ (uZ Lk tx j) tx (j + 1))), (hTf, ar 450 (uZ Tf ((90 * tx) + j) k)), (hSf, ar 450 (uZ Sf ((90 * tx) + j) k)), (hEf, ar 450 (uZ Ef ((90 * tx) + j) k2_205))]) rfl ?_
                    refine S_w (ws' := [(h0, ob 11 (uF (uF (uF f 3 (iv a2_203)) 4 (iv fl_204)) 5 (iv dp2_206))), (hT, ar 160 T), (hC, ar 1700 C2_207), (hV, ar 1700 V2_208), (hN, ar 5 (uZ Nk tx k2_205)), (hL, ar 5 (uZ Lk tx (j + 1))), (hTf, ar 450 (uZ Tf ((90 * tx) + j) k)), (hSf, ar 450 (uZ Sf ((90 * tx) + j) k)), (hEf, ar 450 (uZ Ef ((90 * tx) + j) k2_205))]) (by simp only [uZ_same, List.length_nil, Int.natCast_zero, Int.add_zero, List.nil_append]) ?_
                    exact S_vret X (nle rfl) (nle rfl) dX12_clause_278 (hPo _ (Or.inl ⟨_, _, _, _, _, _, _, _, _, _, rfl, ls_mf (by omega) (by omega) (by omega) hq_110 (by omega) hq_156 (more_o hn1 (by omega) hq_190 hq_211), by omega, by first | exact frm_0 | assumption | exact frm_r (by omega) (by omega) | exact frm_w (by assumption) (by omega) (by omega) | exact frm_p frm_0 (by omega) | exact frm_p (by assumption) (by omega) | exact frm_p (frm_w (by assumption) (by omega) (by omega)) (by omega), by first | exact frm_0 | assumption | exact frm_r (by omega) (by omega) | exact frm_w (by assumption) (by omega) (by omega) | exact frm_p frm_0 (by omega) | exact frm_p (by assumption) (by omega) | exact frm_p (frm_w (by assumption) (by omega) (by omega)) (by omega), by first | exact frp_0 | exact frp_1 frp_0 (by omega) | exact frp_1 (frp_1 frp_0 (by omega)) (by omega), by first | exact frp_0 | exact frp_1 frp_0 (by omega) | exact frp_1 (frp_1 frp_0 (by omega)) (by omega), by first | exact frp_0 | exact frp_1 frp_0 (by omega) | exact frp_1 (frp_1 frp_0 (by omega)) (by omega)⟩))
                  ·
                    subst hu_219
                    refine ⟨rfl, ?_⟩
                    refine S_w (ws' := [(h0, ob 11 (uF (uF (uF f 3 (iv a2_216)) 4 (iv (-1))) 5 (iv 0))), (hT, ar 160 T), (hC, ar 1700 (wrL C (340 * tx + k) (List.map kC ts_217))), (hV, ar 1700 (wrL V (340 * tx + k) (List.map kV ts_217))), (hN, ar 5 (uZ Nk tx (k + ((ts_217).length : Int)))), (hL, ar 5 (uZ Lk tx j)), (hTf, ar 450 (uZ Tf ((90 * tx) + j) k)), (hSf, ar 450 Sf), (hEf, ar 450 Ef)]) rfl ?_
                    have hsk_224 := sk_in (T := T) (n := n) (a := a2_216) (by omega)
                    have hcm_224 := chM_or okT (a := sk T n a2_216) (by omega) (by omega)
                    refine S_aload_n X dX12_clause_183 rfl rfl ?_
                    refine S_get X fgX12_28_11 0 rfl hf8 dX12_clause_184 ?_
                    refine S_iload_n X dX12_clause_187 rfl rfl ?_
                    refine S_aload_n X dX12_clause_188 rfl rfl ?_
                    refine S_get X fgX12_25_11 0 rfl hf7 dX12_clause_189 ?_
                    refine S_iload_n X dX12_clause_192 rfl rfl ?_
                    refine S_iald X 6 rfl (by omega) (by omega) (nle rfl) dX12_clause_193 ?_
                    rw [show (uZ Tf ((90 * tx) + j) k) ((90 * tx) + j) = k from uZ_at]
                    refine S_iast X 7 rfl (by omega) (by omega) (nle rfl) dX12_clause_194 ?_
                    refine S_w (ws' := [(h0, ob 11 (uF (uF (uF f 3 (iv a2_216)) 4 (iv (-1))) 5 (iv 0))), (hT, ar 160 T), (hC, ar 1700 (wrL C (340 * tx + k) (List.map kC ts_217))), (hV, ar 1700 (wrL V (340 * tx + k) (List.map kV ts_217))), (hN, ar 5 (uZ Nk tx (k + ((ts_217).length : Int)))), (hL, ar 5 (uZ Lk tx j)), (hTf, ar 450 (uZ Tf ((90 * tx) + j) k)), (hSf, ar 450 (uZ Sf ((90 * tx) + j) k)), (hEf, ar 450 Ef)]) rfl ?_
                    refine S_iload_n X dX12_clause_195 rfl rfl ?_
                    refine S_if_eq (tgt := 250) X dX12_clause_196 (by decide) (by decide) (fun h9 => absurd h9 (by decide)) (fun _ => ?_)
                    refine S_aload_n X dX12_clause_199 rfl rfl ?_
                    refine S_get (v := iv (-1)) X fgX12_118_11 0 rfl rfl dX12_clause_200 ?_
                    refine S_iconst X dX12_clause_203 ?_
                    refine S_icmp_ne (tgt := 250) X dX12_clause_204 (by decide) (by decide) (by decide) (fun h9 => absurd h9 (by decide)) (fun _ => ?_)
                    refine S_aload_n X dX12_clause_207 rfl rfl ?_
                    refine S_calli X (kX12_look l h0 hT f T n a2_216 (-1) 0 hf0 hf1 (by omega) (by omega)) (is := [0, 1]) rfl (run_V X lkX12_130 0 rfl rfl (is := [0, 1]) (avs := []) (rest := []) rfl rfl (nle rfl) ⟨nle rfl, nle rfl⟩ ⟨nle rfl, nle rfl⟩ dX12_clause_208 (by decide) rfl) (fun z_229 u_227 hp_228 => ?_)
                    obtain ⟨hz_230, hu_231⟩ := hp_228
                    subst hz_230
                    subst hu_231
                    refine ⟨rfl, ?_⟩
                    refine S_w (ws' := [(h0, ob 11 (uF (uF (uF f 3 (iv (sk T n a2_216))) 4 (iv (-1))) 5 (iv 0))), (hT, ar 160 T), (hC, ar 1700 (wrL C (340 * tx + k) (List.map kC ts_217))), (hV, ar 1700 (wrL V (340 * tx + k) (List.map kV ts_217))), (hN, ar 5 (uZ Nk tx (k + ((ts_217).length : Int)))), (hL, ar 5 (uZ Lk tx j)), (hTf, ar 450 (uZ Tf ((90 * tx) + j) k)), (hSf, ar 450 (uZ Sf ((90 * tx) + j) k)), (hEf, ar 450 Ef)]) rfl ?_
                    refine S_bipush X dX12_clause_211 rfl ?_
                    refine S_icmp_eq (tgt := 221) X dX12_clause_213 (by decide) (by omega) (by decide) (fun c_232 => ?_) (fun c_232 => ?_)
                    ·
                      refine S_aload_n X dX12_clause_221 rfl rfl ?_
                      refine S_dup X dX12_clause_222 ?_
                      refine S_get (v := iv (sk T n a2_216)) X fgX12_111_11 0 rfl rfl dX12_clause_223 ?_
                      refine S_iconst X dX12_clause_226 ?_
                      refine S_iadd X dX12_clause_227 ?_
                      refine S_put X fpX12_111_11 0 rfl FT_i dX12_clause_228 ?_
                      refine S_w (ws' := [(h0, ob 11 (uF (uF (uF f 3 (iv ((sk T n a2_216) + 1))) 4 (iv (-1))) 5 (iv 0))), (hT, ar 160 T), (hC, ar 1700 (wrL C (340 * tx + k) (List.map kC ts_217))), (hV, ar 1700 (wrL V (340 * tx + k) (List.map kV ts_217))), (hN, ar 5 (uZ Nk tx (k + ((ts_217).length : Int)))), (hL, ar 5 (uZ Lk tx j)), (hTf, ar 450 (uZ Tf ((90 * tx) + j) k)), (hSf, ar 450 (uZ Sf ((90 * tx) + j) k)), (hEf, ar 450 Ef)]) (by simp only [List.set]; rw [uF_mv (j := 5) (k := 3) (by decide), uF_mv (j := 4) (k := 3) (by decide), uF_same (k := 3)]) ?_
                      refine S_aload_n X dX12_clause_231 rfl rfl ?_
                      refine S_get X fgX12_28_11 0 rfl hf8 dX12_clause_232 ?_
                      refine S_iload_n X dX12_clause_235 rfl rfl ?_
                      refine S_aload_n X dX12_clause_236 rfl rfl ?_
                      refine S_get X fgX12_19_11 0 rfl hf4 dX12_clause_237 ?_
                      refine S_aload_n X dX12_clause_240 rfl rfl ?_
                      refine S_get X fgX12_121_11 0 rfl hf5 dX12_clause_241 ?_
                      refine S_iald X 4 rfl (by omega) (by omega) (nle rfl) dX12_clause_244 ?_
                      rw [show (uZ Nk tx (k + ((ts_217).length : Int))) tx = (k + ((ts_217).length : Int)) from uZ_at]
                      refine S_iast X 7 rfl (by omega) (by omega) (nle rfl) dX12_clause_245 ?_
                      refine S_w (ws' := [(h0, ob 11 (uF (uF (uF f 3 (iv ((sk T n a2_216) + 1))) 4 (iv (-1))) 5 (iv 0))), (hT, ar 160 T), (hC, ar 1700 (wrL C (340 * tx + k) (List.map kC ts_217))), (hV, ar 1700 (wrL V (340 * tx + k) (List.map kV ts_217))), (hN, ar 5 (uZ Nk tx (k + ((ts_217).length : Int)))), (hL, ar 5 (uZ Lk tx j)), (hTf, ar 450 (uZ Tf ((90 * tx) + j) k)), (hSf, ar 450 (uZ (uZ Sf ((90 * tx) + j) k) ((90 * tx) + j) (k + ((ts_217).length : Int)))), (hEf, ar 450 Ef)]) rfl ?_
                      refine S_aload_n X dX12_clause_246 rfl rfl ?_
                      refine S_callv X ((ref_sum6 l) h0 hT f T n ((sk T n a2_216) + 1) 0 hC hV hN (wrL C (340 * tx + k) (List.map kC ts_217)) (wrL V (340 * tx + k) (List.map kV ts_217)) Nk tx (k + ((ts_217).length : Int)) hf0 hf1 hf2 hf3 hf4 hf5 (by omega) (by omega) (by omega) (by omega) (by omega)) (is := [0, 1, 2, 3, 4]) rfl (run_V X lkX12_151 0 rfl rfl (is := [0, 1, 2, 3, 4]) (avs := []) (rest := []) rfl rfl (nle rfl) ⟨nle rfl, nle rfl⟩ ⟨nle rfl, nle rfl⟩ dX12_clause_247 (by decide) rfl) (fun u_233 hp_234 => ?_)
                      rcases hp_234 with ⟨a2_236, fl_237, k2_238, dp2_239, C2_240, V2_241, hu_243, hq_244, hfl_245, hr_246, hfC_247, hfV_248⟩ | ⟨a2_249, ts_250, hu_252, hq_253⟩
                      ·
                        subst hu_243
                        refine ⟨rfl, ?_⟩
                        refine S_w (ws' := [(h0, ob 11 (uF (uF (uF f 3 (iv a2_236)) 4 (iv fl_237)) 5 (iv dp2_239))), (hT, ar 160 T), (hC, ar 1700 C2_240), (hV, ar 1700 V2_241), (hN, ar 5 (uZ Nk tx k2_238)), (hL, ar 5 (uZ Lk tx j)), (hTf, ar 450 (uZ Tf ((90 * tx) + j) k)), (hSf, ar 450 (uZ (uZ Sf ((90 * tx) + j) k) ((90 * tx) + j) (k + ((ts_217).length : Int)))), (hEf, ar 450 Ef)]) rfl ?_
                        refine S_aload_n X dX12_clause_250 rfl rfl ?_
                        refine S_get X fgX12_31_11 0 rfl hf9 dX12_clause_251 ?_
                        refine S_iload_n X dX12_clause_254 rfl rfl ?_
                        refine S_aload_n X dX12_clause_255 rfl rfl ?_
                        refine S_get X fgX12_19_11 0 rfl hf4 dX12_clause_256 ?_
                        refine S_aload_n X dX12_clause_259 rfl rfl ?_
                        refine S_get X fgX12_121_11 0 rfl hf5 dX12_clause_260 ?_
                        refine S_iald X 4 rfl (by omega) (by omega) (nle rfl) dX12_clause_263 ?_
                        rw [show (uZ Nk tx k2_238) tx = k2_238 from uZ_at]
                        refine S_iast X 8 rfl (by omega) (by omega) (nle rfl) dX12_clause_264 ?_
                        refine S_w (ws' := [(h0, ob 11 (uF (uF (uF f 3 (iv a2_236)) 4 (iv fl_237)) 5 (iv dp2_239))), (hT, ar 160 T), (hC, ar 1700 C2_240), (hV, ar 1700 V2_241), (hN, ar 5 (uZ Nk tx k2_238)), (hL, ar 5 (uZ Lk tx j)), (hTf, ar 450 (uZ Tf ((90 * tx) + j) k)), (hSf, ar 450 (uZ (uZ Sf ((90 * tx) + j) k) ((90 * tx) + j) (k + ((ts_217).length : Int)))), (hEf, ar 450 (uZ Ef ((90 * tx) + j) k2_238))]) rfl ?_
                        refine S_aload_n X dX12_clause_265 rfl rfl ?_
                        refine S_get X fgX12_22_11 0 rfl hf6 dX12_clause_266 ?_
                        refine S_aload_n X dX12_clause_269 rfl rfl ?_
                        refine S_get X fgX12_121_11 0 rfl hf5 dX12_clause_270 ?_
                        refine S_dup2 X dX12_clause_273 ?_
                        refine S_iald X 5 rfl (by omega) (by omega) (nle rfl) dX12_clause_274 ?_
                        rw [show (uZ Lk tx j) tx = j from uZ_at]
                        refine S_iconst X dX12_clause_275 ?_
                        refine S_iadd X dX12_clause_276 ?_
                        refine S_iast X 5 rfl (by omega) (by omega) (nle rfl) dX12_clause_277 ?_
                        refine S_w (ws' := [(h0, ob 11 (uF (uF (uF f 3 (iv a2_236)) 4 (iv fl_237)) 5 (iv dp2_239))), (hT, ar 160 T), (hC, ar 1700 C2_240), (hV, ar 1700 V2_241), (hN, ar 5 (uZ Nk tx k2_238)), (hL, ar 5 (uZ (uZ Lk tx j) tx (j + 1))), (hTf, ar 450 (uZ Tf ((90 * tx) + j) k)), (hSf, ar 450 (uZ (uZ Sf ((90 * tx) + j) k) ((90 * tx) + j) (k + ((ts_217).length : Int)))), (hEf, ar 450 (uZ Ef ((90 * tx) + j) k2_238))]) rfl ?_
                        refine S_w (ws' := [(h0, ob 11 (uF (uF (uF f 3 (iv a2_236)) 4 (iv fl_237)) 5 (iv dp2_239))), (hT, ar 160 T), (hC, ar 1700 C2_240), (hV, ar 1700 V2_241), (hN, ar 5 (uZ Nk tx k2_238)), (hL, ar 5 (uZ Lk tx (j + 1))), (hTf, ar 450 (uZ Tf ((90 * tx) + j) k)), (hSf, ar 450 (uZ (uZ Sf ((90 * tx) + j) k) ((90 * tx) + j) (k + ((ts_217).length : Int)))), (hEf, ar 450 (uZ Ef ((90 * tx) + j) k2_238))]) (by simp only [uZ_same, List.length_nil, Int.natCast_zero, Int.add_zero, List.nil_append]) ?_
                        exact S_vret X (nle rfl) (nle rfl) dX12_clause_278 (hPo _ (Or.inl ⟨_, _, _, _, _, _, _, _, _, _, rfl, ls_m (by omega) (by omega) (by omega) hq_110 (by omega) hq_156 (more_o hn1 (by omega) hq_190 hq_220) (ss_f (by omega) hq_244), by omega, by first | exact frm_0 | assumption | exact frm_r (by omega) (by omega) | exact frm_w (by assumption) (by omega) (by omega) | exact frm_p frm_0 (by omega) | exact frm_p (by assumption) (by omega) | exact frm_p (frm_w (by assumption) (by omega) (by omega)) (by omega), by first | exact frm_0 | assumption | exact frm_r (by omega) (by omega) | exact frm_w (by assumption) (by omega) (by omega) | exact frm_p frm_0 (by omega) | exact frm_p (by assumption) (by omega) | exact frm_p (frm_w (by assumption) (by omega) (by omega)) (by omega), by first | exact frp_0 | exact frp_1 frp_0 (by omega) | exact frp_1 (frp_1 frp_0 (by omega)) (by omega), by first | exact frp_0 | exact frp_1 frp_0 (by omega) | exact frp_1 (frp_1 frp_0 (by omega)) (by omega), by first | exact frp_0 | exact frp_1 frp_0 (by omega) | exact frp_1 (frp_1 frp_0 (by omega)) (by omega)⟩))
                      ·
                        subst hu_252
                        refine ⟨rfl, ?_⟩
                        refine S_w (ws' := [(h0, ob 11 (uF (uF (uF f 3 (iv a2_249)) 4 (iv (-1))) 5 (iv 0))), (hT, ar 160 T), (hC, ar 1700 (wrL (wrL C (340 * tx + k) (List.map kC ts_217)) (340 * tx + (k + ((ts_217).length : Int))) (List.map kC ts_250))), (hV, ar 1700 (wrL (wrL V (340 * tx + k) (List.map kV ts_217)) (340 * tx + (k + ((ts_217).length : Int))) (List.map kV ts_250))), (hN, ar 5 (uZ Nk tx ((k + ((ts_217).length : Int)) + ((ts_250).length : Int)))), (hL, ar 5 (uZ Lk tx j)), (hTf, ar 450 (uZ Tf ((90 * tx) + j) k)), (hSf, ar 450 (uZ (uZ Sf ((90 * tx) + j) k) ((90 * tx) + j) (k + ((ts_217).length : Int)))), (hEf, ar 450 Ef)]) rfl ?_
                        refine S_w (ws' := [(h0, ob 11 (uF (uF (uF f 3 (iv a2_249)) 4 (iv (-1))) 5 (iv 0))), (hT, ar 160 T), (hC, ar 1700 (wrL C (340 * tx + k) (List.map kC (ts_217 ++ ts_250)))), (hV, ar 1700 (wrL V (340 * tx + k) (List.map kV (ts_217 ++ ts_250)))), (hN, ar 5 (uZ Nk tx ((k + ((ts_217).length : Int)) + ((ts_250).length : Int)))), (hL, ar 5 (uZ Lk tx j)), (hTf, ar 450 (uZ Tf ((90 * tx) + j) k)), (hSf, ar 450 (uZ (uZ Sf ((90 * tx) + j) k) ((90 * tx) + j) (k + ((ts_217).length : Int)))), (hEf, ar 450 Ef)]) (by simp only [rW_app]) ?_
                        have ho_254 := ((pAS_ok (T := T) hn1 6).2 _ (by omega) (by omega)).2 _ hq_253
                        dsimp only at ho_254
                        refine S_aload_n X dX12_clause_250 rfl rfl ?_
                        refine S_get X fgX12_31_11 0 rfl hf9 dX12_clause_251 ?_
                        refine S_iload_n X dX12_clause_254 rfl rfl ?_
                        refine S_aload_n X dX12_clause_255 rfl rfl ?_
                        refine S_get X fgX12_19_11 0 rfl hf4 dX12_clause_256 ?_
                        refine S_aload_n X dX12_clause_259 rfl rfl ?_
                        refine S_get X fgX12_121_11 0 rfl hf5 dX12_clause_260 ?_
                        refine S_iald X 4 rfl (by omega) (by omega) (nle rfl) dX12_clause_263 ?_
                        rw [show (uZ Nk tx ((k + ((ts_217).length : Int)) + ((ts_250).length : Int))) tx = ((k + ((ts_217).length : Int)) + ((ts_250).length : Int)) from uZ_at]
                        refine S_iast X 8 rfl (by omega) (by omega) (nle rfl) dX12_clause_264 ?_
                        refine S_w (ws' := [(h0, ob 11 (uF (uF (uF f 3 (iv a2_249)) 4 (iv (-1))) 5 (iv 0))), (hT, ar 160 T), (hC, ar 1700 (wrL C (340 * tx + k) (List.map kC (ts_217 ++ ts_250)))), (hV, ar 1700 (wrL V (340 * tx + k) (List.map kV (ts_217 ++ ts_250)))), (hN, ar 5 (uZ Nk tx ((k + ((ts_217).length : Int)) + ((ts_250).length : Int)))), (hL, ar 5 (uZ Lk tx j)), (hTf, ar 450 (uZ Tf ((90 * tx) + j) k)), (hSf, ar 450 (uZ (uZ Sf ((90 * tx) + j) k) ((90 * tx) + j) (k + ((ts_217).length : Int)))), (hEf, ar 450 (uZ Ef ((90 * tx) + j) ((k + ((ts_217).length : Int)) + ((ts_250).length : Int))))]) rfl ?_
                        refine S_aload_n X dX12_clause_265 rfl rfl ?_
                        refine S_get X fgX12_22_11 0 rfl hf6 dX12_clause_266 ?_
                        refine S_aload_n X dX12_clause_269 rfl rfl ?_
                        refine S_get X fgX12_121_11 0 rfl hf5 dX12_clause_270 ?_
                        refine S_dup2 X dX12_clause_273 ?_
                        refine S_iald X 5 rfl (by omega) (by omega) (nle rfl) dX12_clause_274 ?_
                        rw [show (uZ Lk tx j) tx = j from uZ_at]
                        refine S_iconst X dX12_clause_275 ?_
                        refine S_iadd X dX12_clause_276 ?_
                        refine S_iast X 5 rfl (by omega) (by omega) (nle rfl) dX12_clause_277 ?_
                        refine S_w (ws' := [(h0, ob 11 (uF (uF (uF f 3 (iv a2_249)) 4 (iv (-1))) 5 (iv 0))), (hT, ar 160 T), (hC, ar 1700 (wrL C (340 * tx + k) (List.map kC (ts_217 ++ ts_250)))), (hV, ar 1700 (wrL V (340 * tx + k) (List.map kV (ts_217 ++ ts_250)))), (hN, ar 5 (uZ Nk tx ((k + ((ts_217).length : Int)) + ((ts_250).length : Int)))), (hL, ar 5 (uZ (uZ Lk tx j) tx (j + 1))), (hTf, ar 450 (uZ Tf ((90 * tx) + j) k)), (hSf, ar 450 (uZ (uZ Sf ((90 * tx) + j) k) ((90 * tx) + j) (k + ((ts_217).length : Int)))), (hEf, ar 450 (uZ Ef ((90 * tx) + j) ((k + ((ts_217).length : Int)) + ((ts_250).length : Int))))]) rfl ?_
                        refine S_w (ws' := [(h0, ob 11 (uF (uF (uF f 3 (iv a2_249)) 4 (iv (-1))) 5 (iv 0))), (hT, ar 160 T), (hC, ar 1700 (wrL C (340 * tx + k) (List.map kC (ts_217 ++ ts_250)))), (hV, ar 1700 (wrL V (340 * tx + k) (List.map kV (ts_217 ++ ts_250)))), (hN, ar 5 (uZ Nk tx (k + ((ts_217 : List Int).length : Int) + ((ts_250 : List Int).length : Int)))), (hL, ar 5 (uZ Lk tx (j + 1))), (hTf, ar 450 (uZ Tf ((90 * tx) + j) k)), (hSf, ar 450 (uZ Sf (90 * tx + j) (k + ((ts_217 : List Int).length : Int)))), (hEf, ar 450 (uZ Ef (90 * tx + j) (k + ((ts_217 : List Int).length : Int) + ((ts_250 : List Int).length : Int))))]) (by simp only [uZ_same, List.length_nil, Int.natCast_zero, Int.add_zero, List.nil_append]) ?_
                        exact S_vret X (nle rfl) (nle rfl) dX12_clause_278 (hPo _ (Or.inr ⟨_, ts_217, ts_250, rfl, ls_m (by omega) (by omega) (by omega) hq_110 (by omega) hq_156 (more_o hn1 (by omega) hq_190 hq_220) (ss_r (by omega) hq_253)⟩))
                    ·
                      refine S_aload_n X dX12_clause_216 rfl rfl ?_
                      refine S_callv X (kX12_bad l h0 f (sk T n a2_216) (-1) 0 (by omega)) (is := [0]) rfl (run_V X lkX12_127 0 rfl rfl (is := [0]) (avs := []) (rest := []) rfl rfl (nle rfl) ⟨nle rfl, nle rfl⟩ ⟨nle rfl, nle rfl⟩ dX12_clause_217 (by decide) rfl) (fun u_255 hp_256 => ?_)
                      have hu_259 := hp_256
                      subst hu_259
                      refine ⟨rfl, ?_⟩
                      refine S_w (ws' := [(h0, ob 11 (uF (uF (uF f 3 (iv (sk T n a2_216))) 4 (iv (sk T n a2_216))) 5 (iv 0))), (hT, ar 160 T), (hC, ar 1700 (wrL C (340 * tx + k) (List.map kC ts_217))), (hV, ar 1700 (wrL V (340 * tx + k) (List.map kV ts_217))), (hN, ar 5 (uZ Nk tx (k + ((ts_217).length : Int)))), (hL, ar 5 (uZ Lk tx j)), (hTf, ar 450 (uZ Tf ((90 * tx) + j) k)), (hSf, ar 450 (uZ Sf ((90 * tx) + j) k)), (hEf, ar 450 Ef)]) rfl ?_
                      exact S_vret X (nle rfl) (nle rfl) dX12_clause_220 (hPo _ (Or.inl ⟨_, _, _, _, _, _, _, _, _, _, rfl, ls_m (by omega) (by omega) (by omega) hq_110 (by omega) hq_156 (more_o hn1 (by omega) hq_190 hq_220) (ss_n (by omega)), by omega, by first | exact frm_0 | assumption | exact frm_r (by omega) (by omega) | exact frm_w (by assumption) (by omega) (by omega) | exact frm_p frm_0 (by omega) | exact frm_p (by assumption) (by omega) | exact frm_p (frm_w (by assumption) (by omega) (by omega)) (by omega), by first | exact frm_0 | assumption | exact frm_r (by omega) (by omega) | exact frm_w (by assumption) (by omega) (by omega) | exact frm_p frm_0 (by omega) | exact frm_p (by assumption) (by omega) | exact frm_p (frm_w (by assumption) (by omega) (by omega)) (by omega), by first | exact frp_0 | exact frp_1 frp_0 (by omega) | exact frp_1 (frp_1 frp_0 (by omega)) (by omega), by first | exact frp_0 | exact frp_1 frp_0 (by omega) | exact frp_1 (frp_1 frp_0 (by omega)) (by omega), by first | exact frp_0 | exact frp_1 frp_0 (by omega) | exact frp_1 (frp_1 frp_0 (by omega)) (by omega)⟩))
        ·
          refine S_iconst X dX12_clause_122 ?_
          refine S_goto (tgt := 127) X dX12_clause_123 (by decide) ?_
          refine S_istore_n X dX12_clause_127 rfl (nle rfl) ?_
          refine S_iload_n X dX12_clause_128 rfl rfl ?_
          refine S_if_eq (tgt := 139) X dX12_clause_129 (by decide) (by decide) (fun h9 => absurd h9 (by decide)) (fun _ => ?_)
          refine S_aload_n X dX12_clause_132 rfl rfl ?_
          refine S_callv X ((ref_cond6 l) h0 hT f T n (sk T n ((sk T n ((sk T n a) + 1)) + 1)) 0 hC hV hN C V Nk tx k hf0 hf1 hf2 hf3 hf4 hf5 (by omega) (by omega) (by omega) (by omega) (by omega)) (is := [0, 1, 2, 3, 4]) rfl (run_V X lkX12_170 0 rfl rfl (is := [0, 1, 2, 3, 4]) (avs := []) (rest := []) rfl rfl (nle rfl) ⟨nle rfl, nle rfl⟩ ⟨nle rfl, nle rfl⟩ dX12_clause_133 (by decide) rfl) (fun u_261 hp_262 => ?_)
          rcases hp_262 with ⟨a2_264, fl_265, k2_266, dp2_267, C2_268, V2_269, hu_271, hq_272, hfl_273, hr_274, hfC_275, hfV_276⟩ | ⟨a2_277, ts_278, hu_280, hq_281⟩
          ·
            subst hu_271
            refine ⟨rfl, ?_⟩
            refine S_w (ws' := [(h0, ob 11 (uF (uF (uF f 3 (iv a2_264)) 4 (iv fl_265)) 5 (iv dp2_267))), (hT, ar 160 T), (hC, ar 1700 C2_268), (hV, ar 1700 V2_269), (hN, ar 5 (uZ Nk tx k2_266)), (hL, ar 5 (uZ Lk tx j)), (hTf, ar 450 (uZ Tf ((90 * tx) + j) k)), (hSf, ar 450 Sf), (hEf, ar 450 Ef)]) rfl ?_
            refine S_goto (tgt := 183) X dX12_clause_136 (by decide) ?_
            refine S_aload_n X dX12_clause_183 rfl rfl ?_
            refine S_get X fgX12_28_11 0 rfl hf8 dX12_clause_184 ?_
            refine S_iload_n X dX12_clause_187 rfl rfl ?_
            refine S_aload_n X dX12_clause_188 rfl rfl ?_
            refine S_get X fgX12_25_11 0 rfl hf7 dX12_clause_189 ?_
            refine S_iload_n X dX12_clause_192 rfl rfl ?_
            refine S_iald X 6 rfl (by omega) (by omega) (nle rfl) dX12_clause_193 ?_
            rw [show (uZ Tf ((90 * tx) + j) k) ((90 * tx) + j) = k from uZ_at]
            refine S_iast X 7 rfl (by omega) (by omega) (nle rfl) dX12_clause_194 ?_
            refine S_w (ws' := [(h0, ob 11 (uF (uF (uF f 3 (iv a2_264)) 4 (iv fl_265)) 5 (iv dp2_267))), (hT, ar 160 T), (hC, ar 1700 C2_268), (hV, ar 1700 V2_269), (hN, ar 5 (uZ Nk tx k2_266)), (hL, ar 5 (uZ Lk tx j)), (hTf, ar 450 (uZ Tf ((90 * tx) + j) k)), (hSf, ar 450 (uZ Sf ((90 * tx) + j) k)), (hEf, ar 450 Ef)]) rfl ?_
            refine S_iload_n X dX12_clause_195 rfl rfl ?_
            refine S_if_eq (tgt := 250) X dX12_clause_196 (by decide) (by decide) (fun h9 => absurd h9 (by decide)) (fun _ => ?_)
            refine S_aload_n X dX12_clause_199 rfl rfl ?_
            refine S_get (v := iv fl_265) X fgX12_118_11 0 rfl rfl dX12_clause_200 ?_
            refine S_iconst X dX12_clause_203 ?_
            refine S_icmp_ne (tgt := 250) X dX12_clause_204 (by decide) (by omega) (by decide) (fun c_283 => ?_) (fun c_283 => by exfalso; omega)
            refine S_aload_n X dX12_clause_250 rfl rfl ?_
            refine S_get X fgX12_31_11 0 rfl hf9 dX12_clause_251 ?_
            refine S_iload_n X dX12_clause_254 rfl rfl ?_
            refine S_aload_n X dX12_clause_255 rfl rfl ?_
            refine S_get X fgX12_19_11 0 rfl hf4 dX12_clause_256 ?_
            refine S_aload_n X dX12_clause_259 rfl rfl ?_
            refine S_get X fgX12_121_11 0 rfl hf5 dX12_clause_260 ?_
            refine S_iald X 4 rfl (by omega) (by omega) (nle rfl) dX12_clause_263 ?_
            rw [show (uZ Nk tx k2_266) tx = k2_266 from uZ_at]
            refine S_iast X 8 rfl (by omega) (by omega) (nle rfl) dX12_clause_264 ?_
            refine S_w (ws' := [(h0, ob 11 (uF (uF (uF f 3 (iv a2_264)) 4 (iv fl_265)) 5 (iv dp2_267))), (hT, ar 160 T), (hC, ar 1700 C2_268), (hV, ar 1700 V2_269), (hN, ar 5 (uZ Nk tx k2_266)), (hL, ar 5 (uZ Lk tx j)), (hTf, ar 450 (uZ Tf ((90 * tx) + j) k)), (hSf, ar 450 (uZ Sf ((90 * tx) + j) k)), (hEf, ar 450 (uZ Ef ((90 * tx) + j) k2_266))]) rfl ?_
            refine S_aload_n X dX12_clause_265 rfl rfl ?_
            refine S_get X fgX12_22_11 0 rfl hf6 dX12_clause_266 ?_
            refine S_aload_n X dX12_clause_269 rfl rfl ?_
            refine S_get X fgX12_121_11 0 rfl hf5 dX12_clause_270 ?_
            refine S_dup2 X dX12_clause_273 ?_
            refine S_iald X 5 rfl (by omega) (by omega) (nle rfl) dX12_clause_274 ?_
            rw [show (uZ Lk tx j) tx = j from uZ_at]
            refine S_iconst X dX12_clause_275 ?_
            refine S_iadd X dX12_clause_276 ?_
            refine S_iast X 5 rfl (by omega) (by omega) (nle rfl) dX12_clause_277 ?_
            refine S_w (ws' := [(h0, ob 11 (uF (uF (uF f 3 (iv a2_264)) 4 (iv fl_265)) 5 (iv dp2_267))), (hT, ar 160 T), (hC, ar 1700 C2_268), (hV, ar 1700 V2_269), (hN, ar 5 (uZ Nk tx k2_266)), (hL, ar 5 (uZ (uZ Lk tx j) tx (j + 1))), (hTf, ar 450 (uZ Tf ((90 * tx) + j) k)), (hSf, ar 450 (uZ Sf ((90 * tx) + j) k)), (hEf, ar 450 (uZ Ef ((90 * tx) + j) k2_266))]) rfl ?_
            refine S_w (ws' := [(h0, ob 11 (uF (uF (uF f 3 (iv a2_264)) 4 (iv fl_265)) 5 (iv dp2_267))), (hT, ar 160 T), (hC, ar 1700 C2_268), (hV, ar 1700 V2_269), (hN, ar 5 (uZ Nk tx k2_266)), (hL, ar 5 (uZ Lk tx (j + 1))), (hTf, ar 450 (uZ Tf ((90 * tx) + j) k)), (hSf, ar 450 (uZ Sf ((90 * tx) + j) k)), (hEf, ar 450 (uZ Ef ((90 * tx) + j) k2_266))]) (by simp only [uZ_same, List.length_nil, Int.natCast_zero, Int.add_zero, List.nil_append]) ?_
            exact S_vret X (nle rfl) (nle rfl) dX12_clause_278 (hPo _ (Or.inl ⟨_, _, _, _, _, _, _, _, _, _, rfl, ls_tf (by omega) (by omega) (by omega) hq_272, by omega, by first | exact frm_0 | assumption | exact frm_r (by omega) (by omega) | exact frm_w (by assumption) (by omega) (by omega) | exact frm_p frm_0 (by omega) | exact frm_p (by assumption) (by omega) | exact frm_p (frm_w (by assumption) (by omega) (by omega)) (by omega), by first | exact frm_0 | assumption | exact frm_r (by omega) (by omega) | exact frm_w (by assumption) (by omega) (by omega) | exact frm_p frm_0 (by omega) | exact frm_p (by assumption) (by omega) | exact frm_p (frm_w (by assumption) (by omega) (by omega)) (by omega), by first | exact frp_0 | exact frp_1 frp_0 (by omega) | exact frp_1 (frp_1 frp_0 (by omega)) (by omega), by first | exact frp_0 | exact frp_1 frp_0 (by omega) | exact frp_1 (frp_1 frp_0 (by omega)) (by omega), by first | exact frp_0 | exact frp_1 frp_0 (by omega) | exact frp_1 (frp_1 frp_0 (by omega)) (by omega)⟩))
          ·
            subst hu_280
            refine ⟨rfl, ?_⟩
            refine S_w (ws' := [(h0, ob 11 (uF (uF (uF f 3 (iv a2_277)) 4 (iv (-1))) 5 (iv 0))), (hT, ar 160 T), (hC, ar 1700 (wrL C (340 * tx + k) (List.map kC ts_278))), (hV, ar 1700 (wrL V (340 * tx + k) (List.map kV ts_278))), (hN, ar 5 (uZ Nk tx (k + ((ts_278).length : Int)))), (hL, ar 5 (uZ Lk tx j)), (hTf, ar 450 (uZ Tf ((90 * tx) + j) k)), (hSf, ar 450 Sf), (hEf, ar 450 Ef)]) rfl ?_
            have ho_284 := (pCond_ok (T := T) hn1 6 (sk T n (sk T n (sk T n a + 1) + 1)) (by omega) (by omega)).2 _ hq_281
            dsimp only at ho_284
            have hsk_285 := sk_in (T := T) (n := n) (a := a2_277) (by omega)
            have hcm_285 := chM_or okT (a := sk T n a2_277) (by omega) (by omega)
            refine S_goto (tgt := 183) X dX12_clause_136 (by decide) ?_
            refine S_aload_n X dX12_clause_183 rfl rfl ?_
            refine S_get X fgX12_28_11 0 rfl hf8 dX12_clause_184 ?_
            refine S_iload_n X dX12_clause_187 rfl rfl ?_
            refine S_aload_n X dX12_clause_188 rfl rfl ?_
            refine S_get X fgX12_25_11 0 rfl hf7 dX12_clause_189 ?_
            refine S_iload_n X dX12_clause_192 rfl rfl ?_
            refine S_iald X 6 rfl (by omega) (by omega) (nle rfl) dX12_clause_193 ?_
            rw [show (uZ Tf ((90 * tx) + j) k) ((90 * tx) + j) = k from uZ_at]
            refine S_iast X 7 rfl (by omega) (by omega) (nle rfl) dX12_clause_194 ?_
            refine S_w (ws' := [(h0, ob 11 (uF (uF (uF f 3 (iv a2_277)) 4 (iv (-1))) 5 (iv 0))), (hT, ar 160 T), (hC, ar 1700 (wrL C (340 * tx + k) (List.map kC ts_278))), (hV, ar 1700 (wrL V (340 * tx + k) (List.map kV ts_278))), (hN, ar 5 (uZ Nk tx (k + ((ts_278).length : Int)))), (hL, ar 5 (uZ Lk tx j)), (hTf, ar 450 (uZ Tf ((90 * tx) + j) k)), (hSf, ar 450 (uZ Sf ((90 * tx) + j) k)), (hEf, ar 450 Ef)]) rfl ?_
            refine S_iload_n X dX12_clause_195 rfl rfl ?_
            refine S_if_eq (tgt := 250) X dX12_clause_196 (by decide) (by decide) (fun h9 => absurd h9 (by decide)) (fun _ => ?_)
            refine S_aload_n X dX12_clause_199 rfl rfl ?_
            refine S_get (v := iv (-1)) X fgX12_118_11 0 rfl rfl dX12_clause_200 ?_
            refine S_iconst X dX12_clause_203 ?_
            refine S_icmp_ne (tgt := 250) X dX12_clause_204 (by decide) (by decide) (by decide) (fun h9 => absurd h9 (by decide)) (fun _ => ?_)
            refine S_aload_n X dX12_clause_207 rfl rfl ?_
            refine S_calli X (kX12_look l h0 hT f T n a2_277 (-1) 0 hf0 hf1 (by omega) (by omega)) (is := [0, 1]) rfl (run_V X lkX12_130 0 rfl rfl (is := [0, 1]) (avs := []) (rest := []) rfl rfl (nle rfl) ⟨nle rfl, nle rfl⟩ ⟨nle rfl, nle rfl⟩ dX12_clause_208 (by decide) rfl) (fun z_290 u_288 hp_289 => ?_)
            obtain ⟨hz_291, hu_292⟩ := hp_289
            subst hz_291
            subst hu_292
            refine ⟨rfl, ?_⟩
            refine S_w (ws' := [(h0, ob 11 (uF (uF (uF f 3 (iv (sk T n a2_277))) 4 (iv (-1))) 5 (iv 0))), (hT, ar 160 T), (hC, ar 1700 (wrL C (340 * tx + k) (List.map kC ts_278))), (hV, ar 1700 (wrL V (340 * tx + k) (List.map kV ts_278))), (hN, ar 5 (uZ Nk tx (k + ((ts_278).length : Int)))), (hL, ar 5 (uZ Lk tx j)), (hTf, ar 450 (uZ Tf ((90 * tx) + j) k)), (hSf, ar 450 (uZ Sf ((90 * tx) + j) k)), (hEf, ar 450 Ef)]) rfl ?_
            refine S_bipush X dX12_clause_211 rfl ?_
            refine S_icmp_eq (tgt := 221) X dX12_clause_213 (by decide) (by omega) (by decide) (fun c_293 => ?_) (fun c_293 => ?_)
            ·
              refine S_aload_n X dX12_clause_221 rfl rfl ?_
              refine S_dup X dX12_clause_222 ?_
              refine S_get (v := iv (sk T n a2_277)) X fgX12_111_11 0 rfl rfl dX12_clause_223 ?_
              refine S_iconst X dX12_clause_226 ?_
              refine S_iadd X dX12_clause_227 ?_
              refine S_put X fpX12_111_11 0 rfl FT_i dX12_clause_228 ?_
              refine S_w (ws' := [(h0, ob 11 (uF (uF (uF f 3 (iv ((sk T n a2_277) + 1))) 4 (iv (-1))) 5 (iv 0))), (hT, ar 160 T), (hC, ar 1700 (wrL C (340 * tx + k) (List.map kC ts_278))), (hV, ar 1700 (wrL V (340 * tx + k) (List.map kV ts_278))), (hN, ar 5 (uZ Nk tx (k + ((ts_278).length : Int)))), (hL, ar 5 (uZ Lk tx j)), (hTf, ar 450 (uZ Tf ((90 * tx) + j) k)), (hSf, ar 450 (uZ Sf ((90 * tx) + j) k)), (hEf, ar 450 Ef)]) (by simp only [List.set]; rw [uF_mv (j := 5) (k := 3) (by decide), uF_mv (j := 4) (k := 3) (by decide), uF_same (k := 3)]) ?_
              refine S_aload_n X dX12_clause_231 rfl rfl ?_
              refine S_get X fgX12_28_11 0 rfl hf8 dX12_clause_232 ?_
              refine S_iload_n X dX12_clause_235 rfl rfl ?_
              refine S_aload_n X dX12_clause_236 rfl rfl ?_
              refine S_get X fgX12_19_11 0 rfl hf4 dX12_clause_237 ?_
              refine S_aload_n X dX12_clause_240 rfl rfl ?_
              refine S_get X fgX12_121_11 0 rfl hf5 dX12_clause_241 ?_
              refine S_iald X 4 rfl (by omega) (by omega) (nle rfl) dX12_clause_244 ?_
              rw [show (uZ Nk tx (k + ((ts_278).length : Int))) tx = (k + ((ts_278).length : Int)) from uZ_at]
              refine S_iast X 7 rfl (by omega) (by omega) (nle rfl) dX12_clause_245 ?_
              refine S_w (ws' := [(h0, ob 11 (uF (uF (uF f 3 (iv ((sk T n a2_277) + 1))) 4 (iv (-1))) 5 (iv 0))), (hT, ar 160 T), (hC, ar 1700 (wrL C (340 * tx + k) (List.map kC ts_278))), (hV, ar 1700 (wrL V (340 * tx + k) (List.map kV ts_278))), (hN, ar 5 (uZ Nk tx (k + ((ts_278).length : Int)))), (hL, ar 5 (uZ Lk tx j)), (hTf, ar 450 (uZ Tf ((90 * tx) + j) k)), (hSf, ar 450 (uZ (uZ Sf ((90 * tx) + j) k) ((90 * tx) + j) (k + ((ts_278).length : Int)))), (hEf, ar 450 Ef)]) rfl ?_
              refine S_aload_n X dX12_clause_246 rfl rfl ?_
              refine S_callv X ((ref_sum6 l) h0 hT f T n ((sk T n a2_277) + 1) 0 hC hV hN (wrL C (340 * tx + k) (List.map kC ts_278)) (wrL V (340 * tx + k) (List.map kV ts_278)) Nk tx (k + ((ts_278).length : Int)) hf0 hf1 hf2 hf3 hf4 hf5 (by omega) (by omega) (by omega) (by omega) (by omega)) (is := [0, 1, 2, 3, 4]) rfl (run_V X lkX12_151 0 rfl rfl (is := [0, 1, 2, 3, 4]) (avs := []) (rest := []) rfl rfl (nle rfl) ⟨nle rfl, nle rfl⟩ ⟨nle rfl, nle rfl⟩ dX12_clause_247 (by decide) rfl) (fun u_294 hp_295 => ?_)
              rcases hp_295 with ⟨a2_297, fl_298, k2_299, dp2_300, C2_301, V2_302, hu_304, hq_305, hfl_306, hr_307, hfC_308, hfV_309⟩ | ⟨a2_310, ts_311, hu_313, hq_314⟩
              ·
                subst hu_304
                refine ⟨rfl, ?_⟩
                refine S_w (ws' := [(h0, ob 11 (uF (uF (uF f 3 (iv a2_297)) 4 (iv fl_298)) 5 (iv dp2_300))), (hT, ar 160 T), (hC, ar 1700 C2_301), (hV, ar 1700 V2_302), (hN, ar 5 (uZ Nk tx k2_299)), (hL, ar 5 (uZ Lk tx j)), (hTf, ar 450 (uZ Tf ((90 * tx) + j) k)), (hSf, ar 450 (uZ (uZ Sf ((90 * tx) + j) k) ((90 * tx) + j) (k + ((ts_278).length : Int)))), (hEf, ar 450 Ef)]) rfl ?_
                refine S_aload_n X dX12_clause_250 rfl rfl ?_
                refine S_get X fgX12_31_11 0 rfl hf9 dX12_clause_251 ?_
                refine S_iload_n X dX12_clause_254 rfl rfl ?_
                refine S_aload_n X dX12_clause_255 rfl rfl ?_
                refine S_get X fgX12_19_11 0 rfl hf4 dX12_clause_256 ?_
                refine S_aload_n X dX12_clause_259 rfl rfl ?_
                refine S_get X fgX12_121_11 0 rfl hf5 dX12_clause_260 ?_
                refine S_iald X 4 rfl (by omega) (by omega) (nle rfl) dX12_clause_263 ?_
                rw [show (uZ Nk tx k2_299) tx = k2_299 from uZ_at]
                refine S_iast X 8 rfl (by omega) (by omega) (nle rfl) dX12_clause_264 ?_
                refine S_w (ws' := [(h0, ob 11 (uF (uF (uF f 3 (iv a2_297)) 4 (iv fl_298)) 5 (iv dp2_300))), (hT, ar 160 T), (hC, ar 1700 C2_301), (hV, ar 1700 V2_302), (hN, ar 5 (uZ Nk tx k2_299)), (hL, ar 5 (uZ Lk tx j)), (hTf, ar 450 (uZ Tf ((90 * tx) + j) k)), (hSf, ar 450 (uZ (uZ Sf ((90 * tx) + j) k) ((90 * tx) + j) (k + ((ts_278).length : Int)))), (hEf, ar 450 (uZ Ef ((90 * tx) + j) k2_299))]) rfl ?_
                refine S_aload_n X dX12_clause_265 rfl rfl ?_
                refine S_get X fgX12_22_11 0 rfl hf6 dX12_clause_266 ?_
                refine S_aload_n X dX12_clause_269 rfl rfl ?_
                refine S_get X fgX12_121_11 0 rfl hf5 dX12_clause_270 ?_
                refine S_dup2 X dX12_clause_273 ?_
                refine S_iald X 5 rfl (by omega) (by omega) (nle rfl) dX12_clause_274 ?_
                rw [show (uZ Lk tx j) tx = j from uZ_at]
                refine S_iconst X dX12_clause_275 ?_
                refine S_iadd X dX12_clause_276 ?_
                refine S_iast X 5 rfl (by omega) (by omega) (nle rfl) dX12_clause_277 ?_
                refine S_w (ws' := [(h0, ob 11 (uF (uF (uF f 3 (iv a2_297)) 4 (iv fl_298)) 5 (iv dp2_300))), (hT, ar 160 T), (hC, ar 1700 C2_301), (hV, ar 1700 V2_302), (hN, ar 5 (uZ Nk tx k2_299)), (hL, ar 5 (uZ (uZ Lk tx j) tx (j + 1))), (hTf, ar 450 (uZ Tf ((90 * tx) + j) k)), (hSf, ar 450 (uZ (uZ Sf ((90 * tx) + j) k) ((90 * tx) + j) (k + ((ts_278).length : Int)))), (hEf, ar 450 (uZ Ef ((90 * tx) + j) k2_299))]) rfl ?_
                refine S_w (ws' := [(h0, ob 11 (uF (uF (uF f 3 (iv a2_297)) 4 (iv fl_298)) 5 (iv dp2_300))), (hT, ar 160 T), (hC, ar 1700 C2_301), (hV, ar 1700 V2_302), (hN, ar 5 (uZ Nk tx k2_299)), (hL, ar 5 (uZ Lk tx (j + 1))), (hTf, ar 450 (uZ Tf ((90 * tx) + j) k)), (hSf, ar 450 (uZ (uZ Sf ((90 * tx) + j) k) ((90 * tx) + j) (k + ((ts_278).length : Int)))), (hEf, ar 450 (uZ Ef ((90 * tx) + j) k2_299))]) (by simp only [uZ_same, List.length_nil, Int.natCast_zero, Int.add_zero, List.nil_append]) ?_
                exact S_vret X (nle rfl) (nle rfl) dX12_clause_278 (hPo _ (Or.inl ⟨_, _, _, _, _, _, _, _, _, _, rfl, ls_t (by omega) (by omega) (by omega) hq_281 (ss_f (by omega) hq_305), by omega, by first | exact frm_0 | assumption | exact frm_r (by omega) (by omega) | exact frm_w (by assumption) (by omega) (by omega) | exact frm_p frm_0 (by omega) | exact frm_p (by assumption) (by omega) | exact frm_p (frm_w (by assumption) (by omega) (by omega)) (by omega), by first | exact frm_0 | assumption | exact frm_r (by omega) (by omega) | exact frm_w (by assumption) (by omega) (by omega) | exact frm_p frm_0 (by omega) | exact frm_p (by assumption) (by omega) | exact frm_p (frm_w (by assumption) (by omega) (by omega)) (by omega), by first | exact frp_0 | exact frp_1 frp_0 (by omega) | exact frp_1 (frp_1 frp_0 (by omega)) (by omega), by first | exact frp_0 | exact frp_1 frp_0 (by omega) | exact frp_1 (frp_1 frp_0 (by omega)) (by omega), by first | exact frp_0 | exact frp_1 frp_0 (by omega) | exact frp_1 (frp_1 frp_0 (by omega)) (by omega)⟩))
              ·
                subst hu_313
                refine ⟨rfl, ?_⟩
                refine S_w (ws' := [(h0, ob 11 (uF (uF (uF f 3 (iv a2_310)) 4 (iv (-1))) 5 (iv 0))), (hT, ar 160 T), (hC, ar 1700 (wrL (wrL C (340 * tx + k) (List.map kC ts_278)) (340 * tx + (k + ((ts_278).length : Int))) (List.map kC ts_311))), (hV, ar 1700 (wrL (wrL V (340 * tx + k) (List.map kV ts_278)) (340 * tx + (k + ((ts_278).length : Int))) (List.map kV ts_311))), (hN, ar 5 (uZ Nk tx ((k + ((ts_278).length : Int)) + ((ts_311).length : Int)))), (hL, ar 5 (uZ Lk tx j)), (hTf, ar 450 (uZ Tf ((90 * tx) + j) k)), (hSf, ar 450 (uZ (uZ Sf ((90 * tx) + j) k) ((90 * tx) + j) (k + ((ts_278).length : Int)))), (hEf, ar 450 Ef)]) rfl ?_
                refine S_w (ws' := [(h0, ob 11 (uF (uF (uF f 3 (iv a2_310)) 4 (iv (-1))) 5 (iv 0))), (hT, ar 160 T), (hC, ar 1700 (wrL C (340 * tx + k) (List.map kC (ts_278 ++ ts_311)))), (hV, ar 1700 (wrL V (340 * tx + k) (List.map kV (ts_278 ++ ts_311)))), (hN, ar 5 (uZ Nk tx ((k + ((ts_278).length : Int)) + ((ts_311).length : Int)))), (hL, ar 5 (uZ Lk tx j)), (hTf, ar 450 (uZ Tf ((90 * tx) + j) k)), (hSf, ar 450 (uZ (uZ Sf ((90 * tx) + j) k) ((90 * tx) + j) (k + ((ts_278).length : Int)))), (hEf, ar 450 Ef)]) (by simp only [rW_app]) ?_
                have ho_315 := ((pAS_ok (T := T) hn1 6).2 _ (by omega) (by omega)).2 _ hq_314
                dsimp only at ho_315
                refine S_aload_n X dX12_clause_250 rfl rfl ?_
                refine S_get X fgX12_31_11 0 rfl hf9 dX12_clause_251 ?_
                refine S_iload_n X dX12_clause_254 rfl rfl ?_
                refine S_aload_n X dX12_clause_255 rfl rfl ?_
                refine S_get X fgX12_19_11 0 rfl hf4 dX12_clause_256 ?_
                refine S_aload_n X dX12_clause_259 rfl rfl ?_
                refine S_get X fgX12_121_11 0 rfl hf5 dX12_clause_260 ?_
                refine S_iald X 4 rfl (by omega) (by omega) (nle rfl) dX12_clause_263 ?_
                rw [show (uZ Nk tx ((k + ((ts_278).length : Int)) + ((ts_311).length : Int))) tx = ((k + ((ts_278).length : Int)) + ((ts_311).length : Int)) from uZ_at]
                refine S_iast X 8 rfl (by omega) (by omega) (nle rfl) dX12_clause_264 ?_
                refine S_w (ws' := [(h0, ob 11 (uF (uF (uF f 3 (iv a2_310)) 4 (iv (-1))) 5 (iv 0))), (hT, ar 160 T), (hC, ar 1700 (wrL C (340 * tx + k) (List.map kC (ts_278 ++ ts_311)))), (hV, ar 1700 (wrL V (340 * tx + k) (List.map kV (ts_278 ++ ts_311)))), (hN, ar 5 (uZ Nk tx ((k + ((ts_278).length : Int)) + ((ts_311).length : Int)))), (hL, ar 5 (uZ Lk tx j)), (hTf, ar 450 (uZ Tf ((90 * tx) + j) k)), (hSf, ar 450 (uZ (uZ Sf ((90 * tx) + j) k) ((90 * tx) + j) (k + ((ts_278).length : Int)))), (hEf, ar 450 (uZ Ef ((90 * tx) + j) ((k + ((ts_278).length : Int)) + ((ts_311).length : Int))))]) rfl ?_
                refine S_aload_n X dX12_clause_265 rfl rfl ?_
                refine S_get X fgX12_22_11 0 rfl hf6 dX12_clause_266 ?_
                refine S_aload_n X dX12_clause_269 rfl rfl ?_
                refine S_get X fgX12_121_11 0 rfl hf5 dX12_clause_270 ?_
                refine S_dup2 X dX12_clause_273 ?_
                refine S_iald X 5 rfl (by omega) (by omega) (nle rfl) dX12_clause_274 ?_
                rw [show (uZ Lk tx j) tx = j from uZ_at]
                refine S_iconst X dX12_clause_275 ?_
                refine S_iadd X dX12_clause_276 ?_
                refine S_iast X 5 rfl (by omega) (by omega) (nle rfl) dX12_clause_277 ?_
                refine S_w (ws' := [(h0, ob 11 (uF (uF (uF f 3 (iv a2_310)) 4 (iv (-1))) 5 (iv 0))), (hT, ar 160 T), (hC, ar 1700 (wrL C (340 * tx + k) (List.map kC (ts_278 ++ ts_311)))), (hV, ar 1700 (wrL V (340 * tx + k) (List.map kV (ts_278 ++ ts_311)))), (hN, ar 5 (uZ Nk tx ((k + ((ts_278).length : Int)) + ((ts_311).length : Int)))), (hL, ar 5 (uZ (uZ Lk tx j) tx (j + 1))), (hTf, ar 450 (uZ Tf ((90 * tx) + j) k)), (hSf, ar 450 (uZ (uZ Sf ((90 * tx) + j) k) ((90 * tx) + j) (k + ((ts_278).length : Int)))), (hEf, ar 450 (uZ Ef ((90 * tx) + j) ((k + ((ts_278).length : Int)) + ((ts_311).length : Int))))]) rfl ?_
                refine S_w (ws' := [(h0, ob 11 (uF (uF (uF f 3 (iv a2_310)) 4 (iv (-1))) 5 (iv 0))), (hT, ar 160 T), (hC, ar 1700 (wrL C (340 * tx + k) (List.map kC (ts_278 ++ ts_311)))), (hV, ar 1700 (wrL V (340 * tx + k) (List.map kV (ts_278 ++ ts_311)))), (hN, ar 5 (uZ Nk tx (k + ((ts_278 : List Int).length : Int) + ((ts_311 : List Int).length : Int)))), (hL, ar 5 (uZ Lk tx (j + 1))), (hTf, ar 450 (uZ Tf ((90 * tx) + j) k)), (hSf, ar 450 (uZ Sf (90 * tx + j) (k + ((ts_278 : List Int).length : Int)))), (hEf, ar 450 (uZ Ef (90 * tx + j) (k + ((ts_278 : List Int).length : Int) + ((ts_311 : List Int).length : Int))))]) (by simp only [uZ_same, List.length_nil, Int.natCast_zero, Int.add_zero, List.nil_append]) ?_
                exact S_vret X (nle rfl) (nle rfl) dX12_clause_278 (hPo _ (Or.inr ⟨_, ts_278, ts_311, rfl, ls_t (by omega) (by omega) (by omega) hq_281 (ss_r (by omega) hq_314)⟩))
            ·
              refine S_aload_n X dX12_clause_216 rfl rfl ?_
              refine S_callv X (kX12_bad l h0 f (sk T n a2_277) (-1) 0 (by omega)) (is := [0]) rfl (run_V X lkX12_127 0 rfl rfl (is := [0]) (avs := []) (rest := []) rfl rfl (nle rfl) ⟨nle rfl, nle rfl⟩ ⟨nle rfl, nle rfl⟩ dX12_clause_217 (by decide) rfl) (fun u_316 hp_317 => ?_)
              have hu_320 := hp_317
              subst hu_320
              refine ⟨rfl, ?_⟩
              refine S_w (ws' := [(h0, ob 11 (uF (uF (uF f 3 (iv (sk T n a2_277))) 4 (iv (sk T n a2_277))) 5 (iv 0))), (hT, ar 160 T), (hC, ar 1700 (wrL C (340 * tx + k) (List.map kC ts_278))), (hV, ar 1700 (wrL V (340 * tx + k) (List.map kV ts_278))), (hN, ar 5 (uZ Nk tx (k + ((ts_278).length : Int)))), (hL, ar 5 (uZ Lk tx j)), (hTf, ar 450 (uZ Tf ((90 * tx) + j) k)), (hSf, ar 450 (uZ Sf ((90 * tx) + j) k)), (hEf, ar 450 Ef)]) rfl ?_
              exact S_vret X (nle rfl) (nle rfl) dX12_clause_220 (hPo _ (Or.inl ⟨_, _, _, _, _, _, _, _, _, _, rfl, ls_t (by omega) (by omega) (by omega) hq_281 (ss_n (by omega)), by omega, by first | exact frm_0 | assumption | exact frm_r (by omega) (by omega) | exact frm_w (by assumption) (by omega) (by omega) | exact frm_p frm_0 (by omega) | exact frm_p (by assumption) (by omega) | exact frm_p (frm_w (by assumption) (by omega) (by omega)) (by omega), by first | exact frm_0 | assumption | exact frm_r (by omega) (by omega) | exact frm_w (by assumption) (by omega) (by omega) | exact frm_p frm_0 (by omega) | exact frm_p (by assumption) (by omega) | exact frm_p (frm_w (by assumption) (by omega) (by omega)) (by omega), by first | exact frp_0 | exact frp_1 frp_0 (by omega) | exact frp_1 (frp_1 frp_0 (by omega)) (by omega), by first | exact frp_0 | exact frp_1 frp_0 (by omega) | exact frp_1 (frp_1 frp_0 (by omega)) (by omega), by first | exact frp_0 | exact frp_1 frp_0 (by omega) | exact frp_1 (frp_1 frp_0 (by omega)) (by omega)⟩))
    ·
      refine S_aload_n X dX12_clause_66 rfl rfl ?_
      refine S_callv X (kX12_bad l h0 f (sk T n ((sk T n a) + 1)) (-1) 0 (by omega)) (is := [0]) rfl (run_V X lkX12_127 0 rfl rfl (is := [0]) (avs := []) (rest := []) rfl rfl (nle rfl) ⟨nle rfl, nle rfl⟩ ⟨nle rfl, nle rfl⟩ dX12_clause_67 (by decide) rfl) (fun u_321 hp_322 => ?_)
      have hu_325 := hp_322
      subst hu_325
      refine ⟨rfl, ?_⟩
      refine S_w (ws' := [(h0, ob 11 (uF (uF (uF f 3 (iv (sk T n ((sk T n a) + 1)))) 4 (iv (sk T n ((sk T n a) + 1)))) 5 (iv 0))), (hT, ar 160 T), (hC, ar 1700 C), (hV, ar 1700 V), (hN, ar 5 (uZ Nk tx k)), (hL, ar 5 (uZ Lk tx j)), (hTf, ar 450 Tf), (hSf, ar 450 Sf), (hEf, ar 450 Ef)]) rfl ?_
      refine S_aload_n X dX12_clause_70 rfl rfl ?_
      refine S_dup X dX12_clause_71 ?_
      refine S_get (v := iv (sk T n ((sk T n a) + 1))) X fgX12_111_11 0 rfl rfl dX12_clause_72 ?_
      refine S_iconst X dX12_clause_75 ?_
      refine S_iadd X dX12_clause_76 ?_
      refine S_put X fpX12_111_11 0 rfl FT_i dX12_clause_77 ?_
      refine S_w (ws' := [(h0, ob 11 (uF (uF (uF f 3 (iv ((sk T n ((sk T n a) + 1)) + 1))) 4 (iv (sk T n ((sk T n a) + 1)))) 5 (iv 0))), (hT, ar 160 T), (hC, ar 1700 C), (hV, ar 1700 V), (hN, ar 5 (uZ Nk tx k)), (hL, ar 5 (uZ Lk tx j)), (hTf, ar 450 Tf), (hSf, ar 450 Sf), (hEf, ar 450 Ef)]) (by simp only [List.set]; rw [uF_mv (j := 5) (k := 3) (by decide), uF_mv (j := 4) (k := 3) (by decide), uF_same (k := 3)]) ?_
      refine S_aload_n X dX12_clause_80 rfl rfl ?_
      refine S_get (v := iv (sk T n ((sk T n a) + 1))) X fgX12_118_11 0 rfl rfl dX12_clause_81 ?_
      refine S_iconst X dX12_clause_84 ?_
      refine S_icmp_eq (tgt := 89) X dX12_clause_85 (by decide) (by omega) (by decide) (fun c_326 => by exfalso; omega) (fun c_326 => ?_)
      exact S_vret X (nle rfl) (nle rfl) dX12_clause_88 (hPo _ (Or.inl ⟨_, _, _, _, _, _, _, _, _, _, rfl, ls_c (by omega) (by omega), by omega, by first | exact frm_0 | assumption | exact frm_r (by omega) (by omega) | exact frm_w (by assumption) (by omega) (by omega) | exact frm_p frm_0 (by omega) | exact frm_p (by assumption) (by omega) | exact frm_p (frm_w (by assumption) (by omega) (by omega)) (by omega), by first | exact frm_0 | assumption | exact frm_r (by omega) (by omega) | exact frm_w (by assumption) (by omega) (by omega) | exact frm_p frm_0 (by omega) | exact frm_p (by assumption) (by omega) | exact frm_p (frm_w (by assumption) (by omega) (by omega)) (by omega), by first | exact frp_0 | exact frp_1 frp_0 (by omega) | exact frp_1 (frp_1 frp_0 (by omega)) (by omega), by first | exact frp_0 | exact frp_1 frp_0 (by omega) | exact frp_1 (frp_1 frp_0 (by omega)) (by omega), by first | exact frp_0 | exact frp_1 frp_0 (by omega) | exact frp_1 (frp_1 frp_0 (by omega)) (by omega)⟩))
  ·
    refine S_aload_n X dX12_clause_35 rfl rfl ?_
    refine S_callv X (kX12_bad l h0 f (sk T n a) (-1) 0 (by omega)) (is := [0]) rfl (run_V X lkX12_127 0 rfl rfl (is := [0]) (avs := []) (rest := []) rfl rfl (nle rfl) ⟨nle rfl, nle rfl⟩ ⟨nle rfl, nle rfl⟩ dX12_clause_36 (by decide) rfl) (fun u_327 hp_328 => ?_)
    have hu_331 := hp_328
    subst hu_331
    refine ⟨rfl, ?_⟩
    refine S_w (ws' := [(h0, ob 11 (uF (uF (uF f 3 (iv (sk T n a))) 4 (iv (sk T n a))) 5 (iv 0))), (hT, ar 160 T), (hC, ar 1700 C), (hV, ar 1700 V), (hN, ar 5 (uZ Nk tx k)), (hL, ar 5 (uZ Lk tx j)), (hTf, ar 450 Tf), (hSf, ar 450 Sf), (hEf, ar 450 Ef)]) rfl ?_
    refine S_aload_n X dX12_clause_39 rfl rfl ?_
    refine S_dup X dX12_clause_40 ?_
    refine S_get (v := iv (sk T n a)) X fgX12_111_11 0 rfl rfl dX12_clause_41 ?_
    refine S_iconst X dX12_clause_44 ?_
    refine S_iadd X dX12_clause_45 ?_
    refine S_put X fpX12_111_11 0 rfl FT_i dX12_clause_46 ?_
    refine S_w (ws' := [(h0, ob 11 (uF (uF (uF f 3 (iv ((sk T n a) + 1))) 4 (iv (sk T n a))) 5 (iv 0))), (hT, ar 160 T), (hC, ar 1700 C), (hV, ar 1700 V), (hN, ar 5 (uZ Nk tx k)), (hL, ar 5 (uZ Lk tx j)), (hTf, ar 450 Tf), (hSf, ar 450 Sf), (hEf, ar 450 Ef)]) (by simp only [List.set]; rw [uF_mv (j := 5) (k := 3) (by decide), uF_mv (j := 4) (k := 3) (by decide), uF_same (k := 3)]) ?_
    refine S_aload_n X dX12_clause_49 rfl rfl ?_
    refine S_get (v := iv (sk T n a)) X fgX12_118_11 0 rfl rfl dX12_clause_50 ?_
    refine S_iconst X dX12_clause_53 ?_
    refine S_icmp_ne (tgt := 70) X dX12_clause_54 (by decide) (by omega) (by decide) (fun c_332 => ?_) (fun c_332 => by exfalso; omega)
    refine S_aload_n X dX12_clause_70 rfl rfl ?_
    refine S_dup X dX12_clause_71 ?_
    refine S_get (v := iv ((sk T n a) + 1)) X fgX12_111_11 0 rfl rfl dX12_clause_72 ?_
    refine S_iconst X dX12_clause_75 ?_
    refine S_iadd X dX12_clause_76 ?_
    refine S_put X fpX12_111_11 0 rfl FT_i dX12_clause_77 ?_
    refine S_w (ws' := [(h0, ob 11 (uF (uF (uF f 3 (iv (((sk T n a) + 1) + 1))) 4 (iv (sk T n a))) 5 (iv 0))), (hT, ar 160 T), (hC, ar 1700 C), (hV, ar 1700 V), (hN, ar 5 (uZ Nk tx k)), (hL, ar 5 (uZ Lk tx j)), (hTf, ar 450 Tf), (hSf, ar 450 Sf), (hEf, ar 450 Ef)]) (by simp only [List.set]; rw [uF_mv (j := 5) (k := 3) (by decide), uF_mv (j := 4) (k := 3) (by decide), uF_same (k := 3)]) ?_
    refine S_aload_n X dX12_clause_80 rfl rfl ?_
    refine S_get (v := iv (sk T n a)) X fgX12_118_11 0 rfl rfl dX12_clause_81 ?_
    refine S_iconst X dX12_clause_84 ?_
    refine S_icmp_eq (tgt := 89) X dX12_clause_85 (by decide) (by omega) (by decide) (fun c_333 => by exfalso; omega) (fun c_333 => ?_)
    exact S_vret X (nle rfl) (nle rfl) dX12_clause_88 (hPo _ (Or.inl ⟨_, _, _, _, _, _, _, _, _, _, rfl, ls_y (by omega), by omega, by first | exact frm_0 | assumption | exact frm_r (by omega) (by omega) | exact frm_w (by assumption) (by omega) (by omega) | exact frm_p frm_0 (by omega) | exact frm_p (by assumption) (by omega) | exact frm_p (frm_w (by assumption) (by omega) (by omega)) (by omega), by first | exact frm_0 | assumption | exact frm_r (by omega) (by omega) | exact frm_w (by assumption) (by omega) (by omega) | exact frm_p frm_0 (by omega) | exact frm_p (by assumption) (by omega) | exact frm_p (frm_w (by assumption) (by omega) (by omega)) (by omega), by first | exact frp_0 | exact frp_1 frp_0 (by omega) | exact frp_1 (frp_1 frp_0 (by omega)) (by omega), by first | exact frp_0 | exact frp_1 frp_0 (by omega) | exact frp_1 (frp_1 frp_0 (by omega)) (by omega), by first | exact frp_0 | exact frp_1 frp_0 (by omega) | exact frp_1 (frp_1 frp_0 (by omega)) (by omega)⟩))
end pt_23ref4
/- 24.ref5.lean.txt -/
section pt_24ref5
theorem cl_C {g C : Int → Int} {x : Int} {l : List (List Int × List Int)} {c s : List Int} : wrL C (x + 0) (List.map g (codesOf (l ++ [(c, s)]))) = wrL (wrL C (x + 0) (List.map g (codesOf l))) (x + (0 + ((codesOf l).length : Int))) (List.map g (c ++ s)) := by rw [rW_app, codesOf_one]
theorem cl_k {l : List (List Int × List Int)} {c s : List Int} : 0 + ((codesOf (l ++ [(c, s)])).length : Int) = 0 + ((codesOf l).length : Int) + (c.length : Int) + (s.length : Int) := by rw [codesOf_one]; dsimp only; rw [List.length_append, List.length_append]; omega
theorem cl_j {l : List (List Int × List Int)} {p : List Int × List Int} : 0 + ((l ++ [p]).length : Int) = 0 + (l.length : Int) + 1 := by rw [List.length_append, List.length_singleton]; omega
theorem cl_T {F : Int → Int} {x : Int} {l : List (List Int × List Int)} {p : List Int × List Int} : wrL F (x + 0) (tfOf 0 (l ++ [p])) = uZ (wrL F (x + 0) (tfOf 0 l)) (x + (0 + (l.length : Int))) (0 + ((codesOf l).length : Int)) := by rw [tfOf_one, wrL_app, (tfOf_len 0).1, wrL_one, Int.add_assoc]
theorem cl_S {F : Int → Int} {x : Int} {l : List (List Int × List Int)} {c s : List Int} : wrL F (x + 0) (sfOf 0 (l ++ [(c, s)])) = uZ (wrL F (x + 0) (sfOf 0 l)) (x + (0 + (l.length : Int))) (0 + ((codesOf l).length : Int) + (c.length : Int)) := by rw [sfOf_one, wrL_app, (tfOf_len 0).2.1, wrL_one, Int.add_assoc]
theorem cl_E {F : Int → Int} {x : Int} {l : List (List Int × List Int)} {c s : List Int} : wrL F (x + 0) (stOf 0 (l ++ [(c, s)])) = uZ (wrL F (x + 0) (stOf 0 l)) (x + (0 + (l.length : Int))) (0 + ((codesOf l).length : Int) + (c.length : Int) + (s.length : Int)) := by rw [stOf_one, wrL_app, (tfOf_len 0).2.2, wrL_one, Int.add_assoc]
theorem frp_l {tx : Int} {F : Int → Int} {l : List Int} (h : (l.length : Int) ≤ 90) : frp tx F (wrL F (90 * tx + 0) l) := fun i hi => by
  rcases Int.lt_or_le i (90 * tx + 0) with q | q
  · exact wrL_lo q
  · exact wrL_hi (by omega)
theorem frp_rT {tx : Int} {F : Int → Int} {l : List (List Int × List Int)} (h : (l.length : Int) ≤ 90) : frp tx F (wrL F (90 * tx + 0) (tfOf 0 l)) := frp_l (by rw [(tfOf_len 0).1]; exact h)
theorem frp_rS {tx : Int} {F : Int → Int} {l : List (List Int × List Int)} (h : (l.length : Int) ≤ 90) : frp tx F (wrL F (90 * tx + 0) (sfOf 0 l)) := frp_l (by rw [(tfOf_len 0).2.1]; exact h)
theorem frp_rE {tx : Int} {F : Int → Int} {l : List (List Int × List Int)} (h : (l.length : Int) ≤ 90) : frp tx F (wrL F (90 * tx + 0) (stOf 0 l)) := frp_l (by rw [(tfOf_len 0).2.2]; exact h)
theorem frp_wT {tx : Int} {F F2 : Int → Int} {l : List (List Int × List Int)} (h2 : frp tx (wrL F (90 * tx + 0) (tfOf 0 l)) F2) (h : (l.length : Int) ≤ 90) : frp tx F F2 := fun i hi => (h2 i hi).trans (frp_rT h i hi)
theorem frp_wS {tx : Int} {F F2 : Int → Int} {l : List (List Int × List Int)} (h2 : frp tx (wrL F (90 * tx + 0) (sfOf 0 l)) F2) (h : (l.length : Int) ≤ 90) : frp tx F F2 := fun i hi => (h2 i hi).trans (frp_rS h i hi)
theorem frp_wE {tx : Int} {F F2 : Int → Int} {l : List (List Int × List Int)} (h2 : frp tx (wrL F (90 * tx + 0) (stOf 0 l)) F2) (h : (l.length : Int) ≤ 90) : frp tx F F2 := fun i hi => (h2 i hi).trans (frp_rE h i hi)
theorem pLawS_in {T : Int → Int} {n a b : Int} {c s : List Int} (hn : n ≤ 160) (h0 : 0 ≤ a) (ha : a ≤ n) (h : pLawS T n a = .inr (b, c, s)) : a < b ∧ b ≤ n ∧ (c.length : Int) + (s.length : Int) + 2 ≤ b - a := by
  have h1 := (pLawC_ok (T := T) hn h0 ha).2 (b, joinC c s) (by rw [pLawC_S hn h0 ha, h]; rfl)
  have h2 : (c.length : Int) + (s.length : Int) + 1 ≤ ((joinC c s).length : Int) := by
    unfold joinC
    split
    · next e => rw [e]; simp only [List.length_append, List.length_singleton, List.length_nil]; omega
    · simp only [List.length_append, List.length_singleton]; omega
  dsimp only at h1
  omega
theorem pl_f {T : Int → Int} {n a e : Int} {f : Nat} {acc : List (List Int × List Int)} (h : pLawS T n a = .inl e) : pLawLS T n (f + 1) a acc = .inl e := by rw [pLawLS, h]
theorem pl_s {T : Int → Int} {n a b : Int} {f : Nat} {acc : List (List Int × List Int)} {p : List Int × List Int} (h : pLawS T n a = .inr (b, p)) (h2 : ch T n (sk T n b) = 59) : pLawLS T n (f + 1) a acc = pLawLS T n f (sk T n b + 1) (acc ++ [p]) := by rw [pLawLS, h]; dsimp only; rw [if_neg (by omega), if_pos h2]
theorem pl_e {T : Int → Int} {n a b : Int} {f : Nat} {acc : List (List Int × List Int)} {p : List Int × List Int} (h : pLawS T n a = .inr (b, p)) (h2 : ch T n (sk T n b) = 0) : pLawLS T n (f + 1) a acc = .inr (acc ++ [p]) := by rw [pLawLS, h]; dsimp only; rw [if_pos h2]
theorem pl_n {T : Int → Int} {n a b : Int} {f : Nat} {acc : List (List Int × List Int)} {p : List Int × List Int} (h : pLawS T n a = .inr (b, p)) (h2 : ¬ ch T n (sk T n b) = 0) (h3 : ¬ ch T n (sk T n b) = 59) : pLawLS T n (f + 1) a acc = .inl (sk T n b) := by rw [pLawLS, h]; dsimp only; rw [if_neg h2, if_neg h3]
set_option maxHeartbeats 4000000 in
set_option maxRecDepth 100000 in
theorem kX12_open (l : Launch) (h0 : Nat) (f : Nat → AV) (t0 : Int) (a : Int) (w : Int) (dp : Int) (hN : Nat) (hL : Nat) (Nk : Int → Int) (Lk : Int → Int) (tx : Int) (hf0 : f 8 = rv hN) (hf1 : f 9 = rv hL) (ht : 0 ≤ tx ∧ tx ≤ 4) : AMv l yX12_open cX12_open 2 0 0 0 [rv h0, iv tx] [(h0, ob 11 (uF (uF (uF (uF f 14 (iv t0)) 3 (iv a)) 4 (iv w)) 5 (iv dp))), (hN, ar 5 Nk), (hL, ar 5 Lk)] (fun u => u = [(h0, ob 11 (uF (uF (uF (uF f 14 (iv tx)) 3 (iv 0)) 4 (iv (-1))) 5 (iv 0))), (hN, ar 5 (uZ Nk tx 0)), (hL, ar 5 (uZ Lk tx 0))]) := by
  refine AMv.of2 rfl (nle rfl) ?_
  intro D G A p e s m args below meth c Po hPo hnm X
  refine S_aload_n X dX12_open_0 rfl rfl ?_
  refine S_iload_n X dX12_open_1 rfl rfl ?_
  refine S_put X fpX12_121_11 0 rfl FT_i dX12_open_2 ?_
  refine S_w (ws' := [(h0, ob 11 (uF (uF (uF (uF f 14 (iv tx)) 3 (iv a)) 4 (iv w)) 5 (iv dp))), (hN, ar 5 Nk), (hL, ar 5 Lk)]) (by simp only [List.set]; rw [uF_mv (j := 5) (k := 14) (by decide), uF_mv (j := 4) (k := 14) (by decide), uF_mv (j := 3) (k := 14) (by decide), uF_same (k := 14)]) ?_
  refine S_aload_n X dX12_open_5 rfl rfl ?_
  refine S_iconst X dX12_open_6 ?_
  refine S_put X fpX12_111_11 0 rfl FT_i dX12_open_7 ?_
  refine S_w (ws' := [(h0, ob 11 (uF (uF (uF (uF f 14 (iv tx)) 3 (iv 0)) 4 (iv w)) 5 (iv dp))), (hN, ar 5 Nk), (hL, ar 5 Lk)]) (by simp only [List.set]; rw [uF_mv (j := 5) (k := 3) (by decide), uF_mv (j := 4) (k := 3) (by decide), uF_same (k := 3)]) ?_
  refine S_aload_n X dX12_open_10 rfl rfl ?_
  refine S_iconst X dX12_open_11 ?_
  refine S_put X fpX12_118_11 0 rfl FT_i dX12_open_12 ?_
  refine S_w (ws' := [(h0, ob 11 (uF (uF (uF (uF f 14 (iv tx)) 3 (iv 0)) 4 (iv (-1))) 5 (iv dp))), (hN, ar 5 Nk), (hL, ar 5 Lk)]) (by simp only [List.set]; rw [uF_mv (j := 5) (k := 4) (by decide), uF_same (k := 4)]) ?_
  refine S_aload_n X dX12_open_15 rfl rfl ?_
  refine S_iconst X dX12_open_16 ?_
  refine S_put X fpX12_124_11 0 rfl FT_i dX12_open_17 ?_
  refine S_w (ws' := [(h0, ob 11 (uF (uF (uF (uF f 14 (iv tx)) 3 (iv 0)) 4 (iv (-1))) 5 (iv 0))), (hN, ar 5 Nk), (hL, ar 5 Lk)]) (by simp only [List.set]; rw [uF_same (k := 5)]) ?_
  refine S_aload_n X dX12_open_20 rfl rfl ?_
  refine S_get X fgX12_19_11 0 rfl hf0 dX12_open_21 ?_
  refine S_iload_n X dX12_open_24 rfl rfl ?_
  refine S_iconst X dX12_open_25 ?_
  refine S_iast X 1 rfl (by omega) (by omega) (nle rfl) dX12_open_26 ?_
  refine S_w (ws' := [(h0, ob 11 (uF (uF (uF (uF f 14 (iv tx)) 3 (iv 0)) 4 (iv (-1))) 5 (iv 0))), (hN, ar 5 (uZ Nk tx 0)), (hL, ar 5 Lk)]) rfl ?_
  refine S_aload_n X dX12_open_27 rfl rfl ?_
  refine S_get X fgX12_22_11 0 rfl hf1 dX12_open_28 ?_
  refine S_iload_n X dX12_open_31 rfl rfl ?_
  refine S_iconst X dX12_open_32 ?_
  refine S_iast X 2 rfl (by omega) (by omega) (nle rfl) dX12_open_33 ?_
  refine S_w (ws' := [(h0, ob 11 (uF (uF (uF (uF f 14 (iv tx)) 3 (iv 0)) 4 (iv (-1))) 5 (iv 0))), (hN, ar 5 (uZ Nk tx 0)), (hL, ar 5 (uZ Lk tx 0))]) rfl ?_
  exact S_vret X (nle rfl) (nle rfl) dX12_open_34 (hPo _ (rfl))
set_option maxHeartbeats 4000000 in
set_option maxRecDepth 100000 in
theorem kX12_atEnd_N (l : Launch) (h0 : Nat) (hT : Nat) (f : Nat → AV) (T : Int → Int) (n : Int) (a : Int) (w : Int) (dp : Int) (hf0 : f 1 = rv hT) (hf1 : f 2 = iv n) (okT : okT T n) (ha : 0 ≤ a ∧ a ≤ n) (hw : w = -1) : AMi l yX12_atEnd cX12_atEnd 1 .int 2 0 0 [rv h0] [(h0, ob 11 (uF (uF (uF f 3 (iv a)) 4 (iv w)) 5 (iv dp))), (hT, ar 160 T)] (fun z u => (z = (sk T n a) ∧ u = [(h0, ob 11 (uF (uF (uF f 3 (iv (sk T n a))) 4 (iv (sk T n a))) 5 (iv dp))), (hT, ar 160 T)] ∧ ¬ ch T n (sk T n a) = 0) ∨ (z = -1 ∧ u = [(h0, ob 11 (uF (uF (uF f 3 (iv (sk T n a))) 4 (iv (-1))) 5 (iv dp))), (hT, ar 160 T)] ∧ ch T n (sk T n a) = 0)) := by
  refine AMi.of2 rfl (nle rfl) ?_
  intro D G A p e s m args below meth c Po hPo X
  obtain ⟨hn0, hn1, hT2⟩ := id okT
  refine S_aload_n X dX12_atEnd_0 rfl rfl ?_
  refine S_get (v := iv w) X fgX12_118_11 0 rfl rfl dX12_atEnd_1 ?_
  refine S_iconst X dX12_atEnd_4 ?_
  refine S_icmp_ne (tgt := 20) X dX12_atEnd_5 (by decide) (by omega) (by decide) (fun c_1 => by exfalso; omega) (fun c_1 => ?_)
  refine S_aload_n X dX12_atEnd_8 rfl rfl ?_
  refine S_calli X (kX12_look l h0 hT f T n a w dp hf0 hf1 (by omega) (by omega)) (is := [0, 1]) rfl (run_V X lkX12_130 0 rfl rfl (is := [0, 1]) (avs := []) (rest := []) rfl rfl (nle rfl) ⟨nle rfl, nle rfl⟩ ⟨nle rfl, nle rfl⟩ dX12_atEnd_9 (by decide) rfl) (fun z_4 u_2 hp_3 => ?_)
  obtain ⟨hz_5, hu_6⟩ := hp_3
  subst hz_5
  subst hu_6
  refine ⟨rfl, ?_⟩
  refine S_w (ws' := [(h0, ob 11 (uF (uF (uF f 3 (iv (sk T n a))) 4 (iv w)) 5 (iv dp))), (hT, ar 160 T)]) rfl ?_
  have hsk := sk_in (T := T) ha.2
  have hcm := chM_or okT (a := sk T n a) (by omega) (by omega)
  refine S_iconst X dX12_atEnd_12 ?_
  refine S_icmp_eq (tgt := 20) X dX12_atEnd_13 (by decide) (by omega) (by decide) (fun c_7 => ?_) (fun c_7 => ?_)
  ·
    refine S_aload_n X dX12_atEnd_20 rfl rfl ?_
    refine S_w (ws' := [(h0, ob 11 (uF (uF (uF f 3 (iv (sk T n a))) 4 (iv (-1))) 5 (iv dp))), (hT, ar 160 T)]) (by rw [hw]) ?_
    refine S_get (v := iv (-1)) X fgX12_118_11 0 rfl rfl dX12_atEnd_21 ?_
    exact S_iret X (nle rfl) (nle rfl) dX12_atEnd_24 (hPo _ _ (Or.inr (⟨by first | rfl | omega, rfl, by first | rfl | assumption | omega⟩)))
  ·
    refine S_aload_n X dX12_atEnd_16 rfl rfl ?_
    refine S_callv X (kX12_bad l h0 f (sk T n a) w dp (by omega)) (is := [0]) rfl (run_V X lkX12_127 0 rfl rfl (is := [0]) (avs := []) (rest := []) rfl rfl (nle rfl) ⟨nle rfl, nle rfl⟩ ⟨nle rfl, nle rfl⟩ dX12_atEnd_17 (by decide) rfl) (fun u_8 hp_9 => ?_)
    have hu_12 := hp_9
    subst hu_12
    refine ⟨rfl, ?_⟩
    refine S_w (ws' := [(h0, ob 11 (uF (uF (uF f 3 (iv (sk T n a))) 4 (iv (sk T n a))) 5 (iv dp))), (hT, ar 160 T)]) rfl ?_
    refine S_aload_n X dX12_atEnd_20 rfl rfl ?_
    refine S_get (v := iv (sk T n a)) X fgX12_118_11 0 rfl rfl dX12_atEnd_21 ?_
    exact S_iret X (nle rfl) (nle rfl) dX12_atEnd_24 (hPo _ _ (Or.inl (⟨by first | rfl | omega, rfl, by first | rfl | assumption | omega⟩)))
set_option maxHeartbeats 4000000 in
set_option maxRecDepth 100000 in
theorem kX12_atEnd_E (l : Launch) (h0 : Nat) (f : Nat → AV) (a : Int) (w : Int) (dp : Int) (hw : ¬ w = -1) (hw2 : inR w) : AMi l yX12_atEnd cX12_atEnd 1 .int 2 0 0 [rv h0] [(h0, ob 11 (uF (uF (uF f 3 (iv a)) 4 (iv w)) 5 (iv dp)))] (fun z u => z = w ∧ u = [(h0, ob 11 (uF (uF (uF f 3 (iv a)) 4 (iv w)) 5 (iv dp)))]) := by
  refine AMi.of2 rfl (nle rfl) ?_
  intro D G A p e s m args below meth c Po hPo X
  refine S_aload_n X dX12_atEnd_0 rfl rfl ?_
  refine S_get (v := iv w) X fgX12_118_11 0 rfl rfl dX12_atEnd_1 ?_
  refine S_iconst X dX12_atEnd_4 ?_
  refine S_icmp_ne (tgt := 20) X dX12_atEnd_5 (by decide) (by omega) (by decide) (fun c_1 => ?_) (fun c_1 => by exfalso; omega)
  refine S_aload_n X dX12_atEnd_20 rfl rfl ?_
  refine S_get (v := iv w) X fgX12_118_11 0 rfl rfl dX12_atEnd_21 ?_
  exact S_iret X (nle rfl) (nle rfl) dX12_atEnd_24 (hPo _ _ (⟨by first | rfl | omega, rfl⟩))
set_option maxHeartbeats 4000000 in
set_option maxRecDepth 100000 in
theorem kX12_readLaw (l : Launch) (h0 : Nat) (hT : Nat) (f : Nat → AV) (T : Int → Int) (n : Int) (hC : Nat) (hV : Nat) (hN : Nat) (C : Int → Int) (V : Int → Int) (Nk : Int → Int) (tx : Int) (hL : Nat) (hTf : Nat) (hSf : Nat) (hEf : Nat) (Lk : Int → Int) (Tf : Int → Int) (Sf : Int → Int) (Ef : Int → Int) (t0 : Int) (a : Int) (w : Int) (dp : Int) (hf0 : f 1 = rv hT) (hf1 : f 2 = iv n) (hf2 : f 6 = rv hC) (hf3 : f 7 = rv hV) (hf4 : f 8 = rv hN) (hf5 : f 9 = rv hL) (hf6 : f 10 = rv hTf) (hf7 : f 11 = rv hSf) (hf8 : f 12 = rv hEf) (okT : okT T n) (ht : 0 ≤ tx ∧ tx ≤ 4) : AMi l yX12_readLaw cX12_readLaw 2 .int 40 0 0 [rv h0, iv tx] [(h0, ob 11 (uF (uF (uF (uF f 14 (iv t0)) 3 (iv a)) 4 (iv w)) 5 (iv dp))), (hT, ar 160 T), (hC, ar 1700 C), (hV, ar 1700 V), (hN, ar 5 Nk), (hL, ar 5 Lk), (hTf, ar 450 Tf), (hSf, ar 450 Sf), (hEf, ar 450 Ef)] (fun z u => (∃ a2 : Int, ∃ fl : Int, ∃ k2 : Int, ∃ dp2 : Int, ∃ j2 : Int, ∃ w2 : Int, ∃ C2 : Int → Int, ∃ V2 : Int → Int, ∃ Tf2 : Int → Int, ∃ Sf2 : Int → Int, ∃ Ef2 : Int → Int, z = fl ∧ u = [(h0, ob 11 (uF (uF (uF (uF f 14 (iv tx)) 3 (iv a2)) 4 (iv w2)) 5 (iv dp2))), (hT, ar 160 T), (hC, ar 1700 C2), (hV, ar 1700 V2), (hN, ar 5 (uZ Nk tx k2)), (hL, ar 5 (uZ Lk tx j2)), (hTf, ar 450 Tf2), (hSf, ar 450 Sf2), (hEf, ar 450 Ef2)] ∧ pLawLS T n 161 0 [] = .inl fl ∧ (0 ≤ fl ∧ fl ≤ n) ∧ frm tx C C2 ∧ frm tx V V2 ∧ frp tx Tf Tf2 ∧ frp tx Sf Sf2 ∧ frp tx Ef Ef2) ∨ (∃ a2 : Int, ∃ cs : List (List Int × List Int), z = -1 ∧ u = [(h0, ob 11 (uF (uF (uF (uF f 14 (iv tx)) 3 (iv a2)) 4 (iv (-1))) 5 (iv 0))), (hT, ar 160 T), (hC, ar 1700 (wrL C (340 * tx + 0) (List.map kC (codesOf cs)))), (hV, ar 1700 (wrL V (340 * tx + 0) (List.map kV (codesOf cs)))), (hN, ar 5 (uZ Nk tx (0 + ((codesOf cs).length : Int)))), (hL, ar 5 (uZ Lk tx (0 + ((cs).length : Int)))), (hTf, ar 450 (wrL Tf (90 * tx + 0) (tfOf 0 cs))), (hSf, ar 450 (wrL Sf (90 * tx + 0) (sfOf 0 cs))), (hEf, ar 450 (wrL Ef (90 * tx + 0) (stOf 0 cs)))] ∧ pLawLS T n 161 0 [] = .inr cs ∧ (((codesOf cs).length : Int) ≤ 160 ∧ 2 * (cs.length : Int) ≤ 160))) := by
  refine AMi.of2 rfl (nle rfl) ?_
  intro D G A p e s m args below meth c Po hPo X
  obtain ⟨hn0, hn1, hT2⟩ := id okT
  refine S_aload_n X dX12_readLaw_0 rfl rfl ?_
  refine S_iload_n X dX12_readLaw_1 rfl rfl ?_
  refine S_callv X (kX12_open l h0 f t0 a w dp hN hL Nk Lk tx hf4 hf5 (by omega)) (is := [0, 4, 5]) rfl (run_V X lkX12_182 0 rfl rfl (is := [0, 4, 5]) (avs := [iv tx]) (rest := []) rfl rfl (nle rfl) ⟨nle rfl, nle rfl⟩ ⟨nle rfl, nle rfl⟩ dX12_readLaw_2 (by decide) rfl) (fun u_1 hp_2 => ?_)
  have hu_5 := hp_2
  subst hu_5
  refine ⟨rfl, ?_⟩
  refine S_w (ws' := [(h0, ob 11 (uF (uF (uF (uF f 14 (iv tx)) 3 (iv 0)) 4 (iv (-1))) 5 (iv 0))), (hT, ar 160 T), (hC, ar 1700 C), (hV, ar 1700 V), (hN, ar 5 (uZ Nk tx 0)), (hL, ar 5 (uZ Lk tx 0)), (hTf, ar 450 Tf), (hSf, ar 450 Sf), (hEf, ar 450 Ef)]) rfl ?_
  refine S_w (ws' := [(h0, ob 11 (uF (uF (uF (uF f 14 (iv tx)) 3 (iv 0)) 4 (iv (-1))) 5 (iv 0))), (hT, ar 160 T), (hC, ar 1700 (wrL C (340 * tx + 0) (List.map kC (codesOf ([] : List (List Int × List Int)))))), (hV, ar 1700 (wrL V (340 * tx + 0) (List.map kV (codesOf ([] : List (List Int × List Int)))))), (hN, ar 5 (uZ Nk tx (0 + ((codesOf ([] : List (List Int × List Int))).length : Int)))), (hL, ar 5 (uZ Lk tx (0 + ((([] : List (List Int × List Int))).length : Int)))), (hTf, ar 450 (wrL Tf (90 * tx + 0) (tfOf 0 ([] : List (List Int × List Int))))), (hSf, ar 450 (wrL Sf (90 * tx + 0) (sfOf 0 ([] : List (List Int × List Int))))), (hEf, ar 450 (wrL Ef (90 * tx + 0) (stOf 0 ([] : List (List Int × List Int)))))]) rfl ?_
  have hn_8 : ((codesOf ([] : List (List Int × List Int))).length : Int) = 0 := rfl
  have hn_9 : ((([] : List (List Int × List Int))).length : Int) = 0 := rfl
  refine S_aload_n X dX12_readLaw_5 rfl rfl ?_
  refine S_callv X (kX12_clause l h0 hT (uF f 14 (iv tx)) T n 0 hC hV hN (wrL C (340 * tx + 0) (List.map kC (codesOf ([] : List (List Int × List Int))))) (wrL V (340 * tx + 0) (List.map kV (codesOf ([] : List (List Int × List Int))))) Nk tx (0 + ((codesOf ([] : List (List Int × List Int))).length : Int)) hL hTf hSf hEf Lk (wrL Tf (90 * tx + 0) (tfOf 0 ([] : List (List Int × List Int)))) (wrL Sf (90 * tx + 0) (sfOf 0 ([] : List (List Int × List Int)))) (wrL Ef (90 * tx + 0) (stOf 0 ([] : List (List Int × List Int)))) (0 + ((([] : List (List Int × List Int))).length : Int)) hf0 hf1 hf2 hf3 hf4 rfl hf5 hf6 hf7 hf8 (by omega) (by omega) (by omega) (by omega) (by omega)) (is := [0, 1, 2, 3, 4, 5, 6, 7, 8]) rfl (run_V X lkX12_185 0 rfl rfl (is := [0, 1, 2, 3, 4, 5, 6, 7, 8]) (avs := []) (rest := []) rfl rfl (nle rfl) ⟨nle rfl, nle rfl⟩ ⟨nle rfl, nle rfl⟩ dX12_readLaw_6 (by decide) rfl) (fun u_6 hp_7 => ?_)
  rcases hp_7 with ⟨a2_9, fl_10, k2_11, dp2_12, j2_13, C2_14, V2_15, Tf2_16, Sf2_17, Ef2_18, hu_20, hq_21, hfl_22, hfC_23, hfV_24, hfT_25, hfS_26, hfE_27⟩ | ⟨a2_28, c_29, s_30, hu_32, hq_33⟩
  ·
    subst hu_20
    refine ⟨rfl, ?_⟩
    refine S_w (ws' := [(h0, ob 11 (uF (uF (uF (uF f 14 (iv tx)) 3 (iv a2_9)) 4 (iv fl_10)) 5 (iv dp2_12))), (hT, ar 160 T), (hC, ar 1700 C2_14), (hV, ar 1700 V2_15), (hN, ar 5 (uZ Nk tx k2_11)), (hL, ar 5 (uZ Lk tx j2_13)), (hTf, ar 450 Tf2_16), (hSf, ar 450 Sf2_17), (hEf, ar 450 Ef2_18)]) rfl ?_
    refine S_aload_n X dX12_readLaw_9 rfl rfl ?_
    refine S_get (v := iv fl_10) X fgX12_118_11 0 rfl rfl dX12_readLaw_10 ?_
    refine S_iconst X dX12_readLaw_13 ?_
    refine S_icmp_ne (tgt := 43) X dX12_readLaw_14 (by decide) (by omega) (by decide) (fun c_34 => ?_) (fun c_34 => by exfalso; omega)
    refine S_aload_n X dX12_readLaw_43 rfl rfl ?_
    refine S_calli X (kX12_atEnd_E l h0 (uF f 14 (iv tx)) a2_9 fl_10 dp2_12 (by omega) (by omega)) (is := [0]) rfl (run_V X lkX12_188 0 rfl rfl (is := [0]) (avs := []) (rest := []) rfl rfl (nle rfl) ⟨nle rfl, nle rfl⟩ ⟨nle rfl, nle rfl⟩ dX12_readLaw_44 (by decide) rfl) (fun z_37 u_35 hp_36 => ?_)
    obtain ⟨hz_38, hu_39⟩ := hp_36
    replace hz_38 := Eq.symm hz_38
    subst hz_38
    subst hu_39
    refine ⟨rfl, ?_⟩
    refine S_w (ws' := [(h0, ob 11 (uF (uF (uF (uF f 14 (iv tx)) 3 (iv a2_9)) 4 (iv fl_10)) 5 (iv dp2_12))), (hT, ar 160 T), (hC, ar 1700 C2_14), (hV, ar 1700 V2_15), (hN, ar 5 (uZ Nk tx k2_11)), (hL, ar 5 (uZ Lk tx j2_13)), (hTf, ar 450 Tf2_16), (hSf, ar 450 Sf2_17), (hEf, ar 450 Ef2_18)]) rfl ?_
    exact S_iret X (nle rfl) (nle rfl) dX12_readLaw_47 (hPo _ _ (Or.inl ⟨_, _, _, _, _, _, _, _, _, _, _, rfl, rfl, Eq.trans (rfl : pLawLS T n 161 0 [] = pLawLS T n (160 + 1) 0 []) (pl_f hq_21), by omega, by first | exact frm_r (k := 0) (by omega) (by omega) | exact frm_w (k := 0) (by assumption) (by omega) (by omega) | exact frm_0 | assumption | exact frm_r (by omega) (by omega) | exact frm_w (by assumption) (by omega) (by omega) | exact frm_p frm_0 (by omega) | exact frm_p (by assumption) (by omega) | exact frm_p (frm_w (by assumption) (by omega) (by omega)) (by omega), by first | exact frm_r (k := 0) (by omega) (by omega) | exact frm_w (k := 0) (by assumption) (by omega) (by omega) | exact frm_0 | assumption | exact frm_r (by omega) (by omega) | exact frm_w (by assumption) (by omega) (by omega) | exact frm_p frm_0 (by omega) | exact frm_p (by assumption) (by omega) | exact frm_p (frm_w (by assumption) (by omega) (by omega)) (by omega), by first | assumption | exact frp_rT (by omega) | exact frp_rS (by omega) | exact frp_rE (by omega) | exact frp_wT (by assumption) (by omega) | exact frp_wS (by assumption) (by omega) | exact frp_wE (by assumption) (by omega), by first | assumption | exact frp_rT (by omega) | exact frp_rS (by omega) | exact frp_rE (by omega) | exact frp_wT (by assumption) (by omega) | exact frp_wS (by assumption) (by omega) | exact frp_wE (by assumption) (by omega), by first | assumption | exact frp_rT (by omega) | exact frp_rS (by omega) | exact frp_rE (by omega) | exact frp_wT (by assumption) (by omega) | exact frp_wS (by assumption) (by omega) | exact frp_wE (by assumption) (by omega)⟩))
  ·
    subst hu_32
    refine ⟨rfl, ?_⟩
    refine S_w (ws' := [(h0, ob 11 (uF (uF (uF (uF f 14 (iv tx)) 3 (iv a2_28)) 4 (iv (-1))) 5 (iv 0))), (hT, ar 160 T), (hC, ar 1700 (wrL (wrL C (340 * tx + 0) (List.map kC (codesOf ([] : List (List Int × List Int))))) (340 * tx + (0 + ((codesOf ([] : List (List Int × List Int))).length : Int))) (List.map kC (c_29 ++ s_30)))), (hV, ar 1700 (wrL (wrL V (340 * tx + 0) (List.map kV (codesOf ([] : List (List Int × List Int))))) (340 * tx + (0 + ((codesOf ([] : List (List Int × List Int))).length : Int))) (List.map kV (c_29 ++ s_30)))), (hN, ar 5 (uZ Nk tx ((0 + ((codesOf ([] : List (List Int × List Int))).length : Int)) + (c_29.length : Int) + (s_30.length : Int)))), (hL, ar 5 (uZ Lk tx ((0 + ((([] : List (List Int × List Int))).length : Int)) + 1))), (hTf, ar 450 (uZ (wrL Tf (90 * tx + 0) (tfOf 0 ([] : List (List Int × List Int)))) (90 * tx + (0 + ((([] : List (List Int × List Int))).length : Int))) (0 + ((codesOf ([] : List (List Int × List Int))).length : Int)))), (hSf, ar 450 (uZ (wrL Sf (90 * tx + 0) (sfOf 0 ([] : List (List Int × List Int)))) (90 * tx + (0 + ((([] : List (List Int × List Int))).length : Int))) ((0 + ((codesOf ([] : List (List Int × List Int))).length : Int)) + (c_29.length : Int)))), (hEf, ar 450 (uZ (wrL Ef (90 * tx + 0) (stOf 0 ([] : List (List Int × List Int)))) (90 * tx + (0 + ((([] : List (List Int × List Int))).length : Int))) ((0 + ((codesOf ([] : List (List Int × List Int))).length : Int)) + (c_29.length : Int) + (s_30.length : Int))))]) rfl ?_
    refine S_w (ws' := [(h0, ob 11 (uF (uF (uF (uF f 14 (iv tx)) 3 (iv a2_28)) 4 (iv (-1))) 5 (iv 0))), (hT, ar 160 T), (hC, ar 1700 (wrL C (340 * tx + 0) (List.map kC (codesOf (([] : List (List Int × List Int)) ++ [(c_29, s_30)]))))), (hV, ar 1700 (wrL V (340 * tx + 0) (List.map kV (codesOf (([] : List (List Int × List Int)) ++ [(c_29, s_30)]))))), (hN, ar 5 (uZ Nk tx (0 + ((codesOf (([] : List (List Int × List Int)) ++ [(c_29, s_30)])).length : Int)))), (hL, ar 5 (uZ Lk tx (0 + ((([] : List (List Int × List Int)) ++ [(c_29, s_30)]).length : Int)))), (hTf, ar 450 (wrL Tf (90 * tx + 0) (tfOf 0 (([] : List (List Int × List Int)) ++ [(c_29, s_30)])))), (hSf, ar 450 (wrL Sf (90 * tx + 0) (sfOf 0 (([] : List (List Int × List Int)) ++ [(c_29, s_30)])))), (hEf, ar 450 (wrL Ef (90 * tx + 0) (stOf 0 (([] : List (List Int × List Int)) ++ [(c_29, s_30)]))))]) (by rw [cl_C, cl_C, cl_k, cl_j, cl_T, cl_S, cl_E]) ?_
    have ho_40 := pLawS_in hn1 (by omega) (by omega) hq_33
    have hk_40 := cl_k (l := ([] : List (List Int × List Int))) (c := c_29) (s := s_30)
    have hj_40 := cl_j (l := ([] : List (List Int × List Int))) (p := (c_29, s_30))
    have hsk_40 := sk_in (T := T) (n := n) (a := a2_28) (by omega)
    have hcm_40 := chM_or okT (a := sk T n a2_28) (by omega) (by omega)
    refine S_aload_n X dX12_readLaw_9 rfl rfl ?_
    refine S_get (v := iv (-1)) X fgX12_118_11 0 rfl rfl dX12_readLaw_10 ?_
    refine S_iconst X dX12_readLaw_13 ?_
    refine S_icmp_ne (tgt := 43) X dX12_readLaw_14 (by decide) (by decide) (by decide) (fun h9 => absurd h9 (by decide)) (fun _ => ?_)
    refine S_aload_n X dX12_readLaw_17 rfl rfl ?_
    refine S_calli X (kX12_look l h0 hT (uF f 14 (iv tx)) T n a2_28 (-1) 0 hf0 hf1 (by omega) (by omega)) (is := [0, 1]) rfl (run_V X lkX12_130 0 rfl rfl (is := [0, 1]) (avs := []) (rest := []) rfl rfl (nle rfl) ⟨nle rfl, nle rfl⟩ ⟨nle rfl, nle rfl⟩ dX12_readLaw_18 (by decide) rfl) (fun z_44 u_42 hp_43 => ?_)
    obtain ⟨hz_45, hu_46⟩ := hp_43
    subst hz_45
    subst hu_46
    refine ⟨rfl, ?_⟩
    refine S_w (ws' := [(h0, ob 11 (uF (uF (uF (uF f 14 (iv tx)) 3 (iv (sk T n a2_28))) 4 (iv (-1))) 5 (iv 0))), (hT, ar 160 T), (hC, ar 1700 (wrL C (340 * tx + 0) (List.map kC (codesOf (([] : List (List Int × List Int)) ++ [(c_29, s_30)]))))), (hV, ar 1700 (wrL V (340 * tx + 0) (List.map kV (codesOf (([] : List (List Int × List Int)) ++ [(c_29, s_30)]))))), (hN, ar 5 (uZ Nk tx (0 + ((codesOf (([] : List (List Int × List Int)) ++ [(c_29, s_30)])).length : Int)))), (hL, ar 5 (uZ Lk tx (0 + ((([] : List (List Int × List Int)) ++ [(c_29, s_30)]).length : Int)))), (hTf, ar 450 (wrL Tf (90 * tx + 0) (tfOf 0 (([] : List (List Int × List Int)) ++ [(c_29, s_30)])))), (hSf, ar 450 (wrL Sf (90 * tx + 0) (sfOf 0 (([] : List (List Int × List Int)) ++ [(c_29, s_30)])))), (hEf, ar 450 (wrL Ef (90 * tx + 0) (stOf 0 (([] : List (List Int × List Int)) ++ [(c_29, s_30)]))))]) rfl ?_
    refine S_bipush X dX12_readLaw_21 rfl ?_
    refine S_icmp_ne (tgt := 43) X dX12_readLaw_23 (by decide) (by omega) (by decide) (fun c_47 => ?_) (fun c_47 => ?_)
    ·
      refine S_aload_n X dX12_readLaw_43 rfl rfl ?_
      refine S_calli X (kX12_atEnd_N l h0 hT (uF f 14 (iv tx)) T n (sk T n a2_28) (-1) 0 hf0 hf1 (by omega) (by omega) (by omega)) (is := [0, 1]) rfl (run_V X lkX12_188 0 rfl rfl (is := [0, 1]) (avs := []) (rest := []) rfl rfl (nle rfl) ⟨nle rfl, nle rfl⟩ ⟨nle rfl, nle rfl⟩ dX12_readLaw_44 (by decide) rfl) (fun z_50 u_48 hp_49 => ?_)
      rcases hp_49 with ⟨hz_51, hu_52, hq_53⟩ | ⟨hz_54, hu_55, hq_56⟩
      ·
        subst hz_51
        subst hu_52
        refine ⟨rfl, ?_⟩
        refine S_w (ws' := [(h0, ob 11 (uF (uF (uF (uF f 14 (iv tx)) 3 (iv (sk T n (sk T n a2_28)))) 4 (iv (sk T n (sk T n a2_28)))) 5 (iv 0))), (hT, ar 160 T), (hC, ar 1700 (wrL C (340 * tx + 0) (List.map kC (codesOf (([] : List (List Int × List Int)) ++ [(c_29, s_30)]))))), (hV, ar 1700 (wrL V (340 * tx + 0) (List.map kV (codesOf (([] : List (List Int × List Int)) ++ [(c_29, s_30)]))))), (hN, ar 5 (uZ Nk tx (0 + ((codesOf (([] : List (List Int × List Int)) ++ [(c_29, s_30)])).length : Int)))), (hL, ar 5 (uZ Lk tx (0 + ((([] : List (List Int × List Int)) ++ [(c_29, s_30)]).length : Int)))), (hTf, ar 450 (wrL Tf (90 * tx + 0) (tfOf 0 (([] : List (List Int × List Int)) ++ [(c_29, s_30)])))), (hSf, ar 450 (wrL Sf (90 * tx + 0) (sfOf 0 (([] : List (List Int × List Int)) ++ [(c_29, s_30)])))), (hEf, ar 450 (wrL Ef (90 * tx + 0) (stOf 0 (([] : List (List Int × List Int)) ++ [(c_29, s_30)]))))]) rfl ?_
        rw [sk_idem (a := a2_28)] at hq_53
        rw [sk_idem (a := a2_28)]
        exact S_iret X (nle rfl) (nle rfl) dX12_readLaw_47 (hPo _ _ (Or.inl ⟨_, _, _, _, _, _, _, _, _, _, _, rfl, rfl, Eq.trans (rfl : pLawLS T n 161 0 [] = pLawLS T n (160 + 1) 0 []) (pl_n hq_33 hq_53 (by omega)), by omega, by first | exact frm_r (k := 0) (by omega) (by omega) | exact frm_w (k := 0) (by assumption) (by omega) (by omega) | exact frm_0 | assumption | exact frm_r (by omega) (by omega) | exact frm_w (by assumption) (by omega) (by omega) | exact frm_p frm_0 (by omega) | exact frm_p (by assumption) (by omega) | exact frm_p (frm_w (by assumption) (by omega) (by omega)) (by omega), by first | exact frm_r (k := 0) (by omega) (by omega) | exact frm_w (k := 0) (by assumption) (by omega) (by omega) | exact frm_0 | assumption | exact frm_r (by omega) (by omega) | exact frm_w (by assumption) (by omega) (by omega) | exact frm_p frm_0 (by omega) | exact frm_p (by assumption) (by omega) | exact frm_p (frm_w (by assumption) (by omega) (by omega)) (by omega), by first | assumption | exact frp_rT (by omega) | exact frp_rS (by omega) | exact frp_rE (by omega) | exact frp_wT (by assumption) (by omega) | exact frp_wS (by assumption) (by omega) | exact frp_wE (by assumption) (by omega), by first | assumption | exact frp_rT (by omega) | exact frp_rS (by omega) | exact frp_rE (by omega) | exact frp_wT (by assumption) (by omega) | exact frp_wS (by assumption) (by omega) | exact frp_wE (by assumption) (by omega), by first | assumption | exact frp_rT (by omega) | exact frp_rS (by omega) | exact frp_rE (by omega) | exact frp_wT (by assumption) (by omega) | exact frp_wS (by assumption) (by omega) | exact frp_wE (by assumption) (by omega)⟩))
      ·
        subst hz_54
        subst hu_55
        refine ⟨rfl, ?_⟩
        refine S_w (ws' := [(h0, ob 11 (uF (uF (uF (uF f 14 (iv tx)) 3 (iv (sk T n (sk T n a2_28)))) 4 (iv (-1))) 5 (iv 0))), (hT, ar 160 T), (hC, ar 1700 (wrL C (340 * tx + 0) (List.map kC (codesOf (([] : List (List Int × List Int)) ++ [(c_29, s_30)]))))), (hV, ar 1700 (wrL V (340 * tx + 0) (List.map kV (codesOf (([] : List (List Int × List Int)) ++ [(c_29, s_30)]))))), (hN, ar 5 (uZ Nk tx (0 + ((codesOf (([] : List (List Int × List Int)) ++ [(c_29, s_30)])).length : Int)))), (hL, ar 5 (uZ Lk tx (0 + ((([] : List (List Int × List Int)) ++ [(c_29, s_30)]).length : Int)))), (hTf, ar 450 (wrL Tf (90 * tx + 0) (tfOf 0 (([] : List (List Int × List Int)) ++ [(c_29, s_30)])))), (hSf, ar 450 (wrL Sf (90 * tx + 0) (sfOf 0 (([] : List (List Int × List Int)) ++ [(c_29, s_30)])))), (hEf, ar 450 (wrL Ef (90 * tx + 0) (stOf 0 (([] : List (List Int × List Int)) ++ [(c_29, s_30)]))))]) rfl ?_
        rw [sk_idem (a := a2_28)] at hq_56
        rw [sk_idem (a := a2_28)]
        exact S_iret X (nle rfl) (nle rfl) dX12_readLaw_47 (hPo _ _ (Or.inr ⟨_, ([] : List (List Int × List Int)) ++ [(c_29, s_30)], rfl, rfl, Eq.trans (rfl : pLawLS T n 161 0 [] = pLawLS T n (160 + 1) 0 []) (pl_e hq_33 hq_56), by omega⟩))
    ·
      have lp26_2 : ∀ (N : Nat) (a1 : Int) (cs : List (List Int × List Int)) (L : Nat → Option AV), 0 ≤ a1 ∧ a1 ≤ n → sk T n a1 < n → ch T n (sk T n a1) = 59 → ((codesOf cs).length : Int) ≤ a1 ∧ 2 * (cs.length : Int) ≤ a1 → (∃ f : Nat, 161 - a1 ≤ f ∧ pLawLS T n f (sk T n a1 + 1) cs = pLawLS T n 161 0 []) → L 0 = some (rv h0) → L 1 = some (iv tx) → 161 - a1 < (N : Int) → S_ p l e (rmD 40 0 0) s m args below meth c (MQ below (QcI D G A Po) args s 0 0 A) D G A 2 0 0 26 L [] [(h0, ob 11 (uF (uF (uF (uF f 14 (iv tx)) 3 (iv (sk T n a1))) 4 (iv (-1))) 5 (iv 0))), (hT, ar 160 T), (hC, ar 1700 (wrL C (340 * tx + 0) (List.map kC (codesOf cs)))), (hV, ar 1700 (wrL V (340 * tx + 0) (List.map kV (codesOf cs)))), (hN, ar 5 (uZ Nk tx (0 + ((codesOf cs).length : Int)))), (hL, ar 5 (uZ Lk tx (0 + ((cs).length : Int)))), (hTf, ar 450 (wrL Tf (90 * tx + 0) (tfOf 0 cs))), (hSf, ar 450 (wrL Sf (90 * tx + 0) (sfOf 0 cs))), (hEf, ar 450 (wrL Ef (90 * tx + 0) (stOf 0 cs)))] := by
        intro N
        induction N with
        | zero =>
          intro a1 cs L26 hi hlt hc1 hbd hkl hL26_0 hL26_1 hN26
          exfalso; omega
        | succ N ih26 =>
          intro a1 cs L26 hi hlt hc1 hbd hkl hL26_0 hL26_1 hN26
          obtain ⟨f9, hf9, hk9⟩ := hkl
          obtain ⟨g9, rfl⟩ : ∃ g, f9 = g + 1 := ⟨f9 - 1, by omega⟩
          have hsk1 := sk_in (T := T) (n := n) (a := a1) (by omega)
          refine S_aload_n X dX12_readLaw_26 rfl hL26_0 ?_
          refine S_dup X dX12_readLaw_27 ?_
          refine S_get (v := iv (sk T n a1)) X fgX12_111_11 0 rfl rfl dX12_readLaw_28 ?_
          refine S_iconst X dX12_readLaw_31 ?_
          refine S_iadd X dX12_readLaw_32 ?_
          refine S_put X fpX12_111_11 0 rfl FT_i dX12_readLaw_33 ?_
          refine S_w (ws' := [(h0, ob 11 (uF (uF (uF (uF f 14 (iv tx)) 3 (iv ((sk T n a1) + 1))) 4 (iv (-1))) 5 (iv 0))), (hT, ar 160 T), (hC, ar 1700 (wrL C (340 * tx + 0) (List.map kC (codesOf cs)))), (hV, ar 1700 (wrL V (340 * tx + 0) (List.map kV (codesOf cs)))), (hN, ar 5 (uZ Nk tx (0 + ((codesOf cs).length : Int)))), (hL, ar 5 (uZ Lk tx (0 + ((cs).length : Int)))), (hTf, ar 450 (wrL Tf (90 * tx + 0) (tfOf 0 cs))), (hSf, ar 450 (wrL Sf (90 * tx + 0) (sfOf 0 cs))), (hEf, ar 450 (wrL Ef (90 * tx + 0) (stOf 0 cs)))]) (by simp only [List.set]; rw [uF_mv (j := 5) (k := 3) (by decide), uF_mv (j := 4) (k := 3) (by decide), uF_same (k := 3)]) ?_
          refine S_aload_n X dX12_readLaw_36 rfl hL26_0 ?_
          refine S_callv X (kX12_clause l h0 hT (uF f 14 (iv tx)) T n ((sk T n a1) + 1) hC hV hN (wrL C (340 * tx + 0) (List.map kC (codesOf cs))) (wrL V (340 * tx + 0) (List.map kV (codesOf cs))) Nk tx (0 + ((codesOf cs).length : Int)) hL hTf hSf hEf Lk (wrL Tf (90 * tx + 0) (tfOf 0 cs)) (wrL Sf (90 * tx + 0) (sfOf 0 cs)) (wrL Ef (90 * tx + 0) (stOf 0 cs)) (0 + ((cs).length : Int)) hf0 hf1 hf2 hf3 hf4 rfl hf5 hf6 hf7 hf8 (by omega) (by omega) (by omega) (by omega) (by omega)) (is := [0, 1, 2, 3, 4, 5, 6, 7, 8]) rfl (run_V X lkX12_185 0 rfl rfl (is := [0, 1, 2, 3, 4, 5, 6, 7, 8]) (avs := []) (rest := []) rfl rfl (nle rfl) ⟨nle rfl, nle rfl⟩ ⟨nle rfl, nle rfl⟩ dX12_readLaw_37 (by decide) rfl) (fun u_57 hp_58 => ?_)
          rcases hp_58 with ⟨a2_60, fl_61, k2_62, dp2_63, j2_64, C2_65, V2_66, Tf2_67, Sf2_68, Ef2_69, hu_71, hq_72, hfl_73, hfC_74, hfV_75, hfT_76, hfS_77, hfE_78⟩ | ⟨a2_79, c_80, s_81, hu_83, hq_84⟩
          ·
            subst hu_71
            refine ⟨rfl, ?_⟩
            refine S_w (ws' := [(h0, ob 11 (uF (uF (uF (uF f 14 (iv tx)) 3 (iv a2_60)) 4 (iv fl_61)) 5 (iv dp2_63))), (hT, ar 160 T), (hC, ar 1700 C2_65), (hV, ar 1700 V2_66), (hN, ar 5 (uZ Nk tx k2_62)), (hL, ar 5 (uZ Lk tx j2_64)), (hTf, ar 450 Tf2_67), (hSf, ar 450 Sf2_68), (hEf, ar 450 Ef2_69)]) rfl ?_
            refine S_goto (tgt := 9) X dX12_readLaw_40 (by decide) ?_
            refine S_aload_n X dX12_readLaw_9 rfl hL26_0 ?_
            refine S_get (v := iv fl_61) X fgX12_118_11 0 rfl rfl dX12_readLaw_10 ?_
            refine S_iconst X dX12_readLaw_13 ?_
            refine S_icmp_ne (tgt := 43) X dX12_readLaw_14 (by decide) (by omega) (by decide) (fun c_85 => ?_) (fun c_85 => by exfalso; omega)
            refine S_aload_n X dX12_readLaw_43 rfl hL26_0 ?_
            refine S_calli X (kX12_atEnd_E l h0 (uF f 14 (iv tx)) a2_60 fl_61 dp2_63 (by omega) (by omega)) (is := [0]) rfl (run_V X lkX12_188 0 rfl rfl (is := [0]) (avs := []) (rest := []) rfl rfl (nle rfl) ⟨nle rfl, nle rfl⟩ ⟨nle rfl, nle rfl⟩ dX12_readLaw_44 (by decide) rfl) (fun z_88 u_86 hp_87 => ?_)
            obtain ⟨hz_89, hu_90⟩ := hp_87
            replace hz_89 := Eq.symm hz_89
            subst hz_89
            subst hu_90
            refine ⟨rfl, ?_⟩
            refine S_w (ws' := [(h0, ob 11 (uF (uF (uF (uF f 14 (iv tx)) 3 (iv a2_60)) 4 (iv fl_61)) 5 (iv dp2_63))), (hT, ar 160 T), (hC, ar 1700 C2_65), (hV, ar 1700 V2_66), (hN, ar 5 (uZ Nk tx k2_62)), (hL, ar 5 (uZ Lk tx j2_64)), (hTf, ar 450 Tf2_67), (hSf, ar 450 Sf2_68), (hEf, ar 450 Ef2_69)]) rfl ?_
            exact S_iret X (nle rfl) (nle rfl) dX12_readLaw_47 (hPo _ _ (Or.inl ⟨_, _, _, _, _, _, _, _, _, _, _, rfl, rfl, hk9.symm.trans (pl_f hq_72), by omega, by first | exact frm_r (k := 0) (by omega) (by omega) | exact frm_w (k := 0) (by assumption) (by omega) (by omega) | exact frm_0 | assumption | exact frm_r (by omega) (by omega) | exact frm_w (by assumption) (by omega) (by omega) | exact frm_p frm_0 (by omega) | exact frm_p (by assumption) (by omega) | exact frm_p (frm_w (by assumption) (by omega) (by omega)) (by omega), by first | exact frm_r (k := 0) (by omega) (by omega) | exact frm_w (k := 0) (by assumption) (by omega) (by omega) | exact frm_0 | assumption | exact frm_r (by omega) (by omega) | exact frm_w (by assumption) (by omega) (by omega) | exact frm_p frm_0 (by omega) | exact frm_p (by assumption) (by omega) | exact frm_p (frm_w (by assumption) (by omega) (by omega)) (by omega), by first | assumption | exact frp_rT (by omega) | exact frp_rS (by omega) | exact frp_rE (by omega) | exact frp_wT (by assumption) (by omega) | exact frp_wS (by assumption) (by omega) | exact frp_wE (by assumption) (by omega), by first | assumption | exact frp_rT (by omega) | exact frp_rS (by omega) | exact frp_rE (by omega) | exact frp_wT (by assumption) (by omega) | exact frp_wS (by assumption) (by omega) | exact frp_wE (by assumption) (by omega), by first | assumption | exact frp_rT (by omega) | exact frp_rS (by omega) | exact frp_rE (by omega) | exact frp_wT (by assumption) (by omega) | exact frp_wS (by assumption) (by omega) | exact frp_wE (by assumption) (by omega)⟩))
          ·
            subst hu_83
            refine ⟨rfl, ?_⟩
            refine S_w (ws' := [(h0, ob 11 (uF (uF (uF (uF f 14 (iv tx)) 3 (iv a2_79)) 4 (iv (-1))) 5 (iv 0))), (hT, ar 160 T), (hC, ar 1700 (wrL (wrL C (340 * tx + 0) (List.map kC (codesOf cs))) (340 * tx + (0 + ((codesOf cs).length : Int))) (List.map kC (c_80 ++ s_81)))), (hV, ar 1700 (wrL (wrL V (340 * tx + 0) (List.map kV (codesOf cs))) (340 * tx + (0 + ((codesOf cs).length : Int))) (List.map kV (c_80 ++ s_81)))), (hN, ar 5 (uZ Nk tx ((0 + ((codesOf cs).length : Int)) + (c_80.length : Int) + (s_81.length : Int)))), (hL, ar 5 (uZ Lk tx ((0 + ((cs).length : Int)) + 1))), (hTf, ar 450 (uZ (wrL Tf (90 * tx + 0) (tfOf 0 cs)) (90 * tx + (0 + ((cs).length : Int))) (0 + ((codesOf cs).length : Int)))), (hSf, ar 450 (uZ (wrL Sf (90 * tx + 0) (sfOf 0 cs)) (90 * tx + (0 + ((cs).length : Int))) ((0 + ((codesOf cs).length : Int)) + (c_80.length : Int)))), (hEf, ar 450 (uZ (wrL Ef (90 * tx + 0) (stOf 0 cs)) (90 * tx + (0 + ((cs).length : Int))) ((0 + ((codesOf cs).length : Int)) + (c_80.length : Int) + (s_81.length : Int))))]) rfl ?_
            refine S_w (ws' := [(h0, ob 11 (uF (uF (uF (uF f 14 (iv tx)) 3 (iv a2_79)) 4 (iv (-1))) 5 (iv 0))), (hT, ar 160 T), (hC, ar 1700 (wrL C (340 * tx + 0) (List.map kC (codesOf (cs ++ [(c_80, s_81)]))))), (hV, ar 1700 (wrL V (340 * tx + 0) (List.map kV (codesOf (cs ++ [(c_80, s_81)]))))), (hN, ar 5 (uZ Nk tx (0 + ((codesOf (cs ++ [(c_80, s_81)])).length : Int)))), (hL, ar 5 (uZ Lk tx (0 + ((cs ++ [(c_80, s_81)]).length : Int)))), (hTf, ar 450 (wrL Tf (90 * tx + 0) (tfOf 0 (cs ++ [(c_80, s_81)])))), (hSf, ar 450 (wrL Sf (90 * tx + 0) (sfOf 0 (cs ++ [(c_80, s_81)])))), (hEf, ar 450 (wrL Ef (90 * tx + 0) (stOf 0 (cs ++ [(c_80, s_81)]))))]) (by rw [cl_C, cl_C, cl_k, cl_j, cl_T, cl_S, cl_E]) ?_
            have ho_91 := pLawS_in hn1 (by omega) (by omega) hq_84
            have hk_91 := cl_k (l := cs) (c := c_80) (s := s_81)
            have hj_91 := cl_j (l := cs) (p := (c_80, s_81))
            have hsk_91 := sk_in (T := T) (n := n) (a := a2_79) (by omega)
            have hcm_91 := chM_or okT (a := sk T n a2_79) (by omega) (by omega)
            refine S_goto (tgt := 9) X dX12_readLaw_40 (by decide) ?_
            refine S_aload_n X dX12_readLaw_9 rfl hL26_0 ?_
            refine S_get (v := iv (-1)) X fgX12_118_11 0 rfl rfl dX12_readLaw_10 ?_
            refine S_iconst X dX12_readLaw_13 ?_
            refine S_icmp_ne (tgt := 43) X dX12_readLaw_14 (by decide) (by decide) (by decide) (fun h9 => absurd h9 (by decide)) (fun _ => ?_)
            refine S_aload_n X dX12_readLaw_17 rfl hL26_0 ?_
            refine S_calli X (kX12_look l h0 hT (uF f 14 (iv tx)) T n a2_79 (-1) 0 hf0 hf1 (by omega) (by omega)) (is := [0, 1]) rfl (run_V X lkX12_130 0 rfl rfl (is := [0, 1]) (avs := []) (rest := []) rfl rfl (nle rfl) ⟨nle rfl, nle rfl⟩ ⟨nle rfl, nle rfl⟩ dX12_readLaw_18 (by decide) rfl) (fun z_95 u_93 hp_94 => ?_)
            obtain ⟨hz_96, hu_97⟩ := hp_94
            subst hz_96
            subst hu_97
            refine ⟨rfl, ?_⟩
            refine S_w (ws' := [(h0, ob 11 (uF (uF (uF (uF f 14 (iv tx)) 3 (iv (sk T n a2_79))) 4 (iv (-1))) 5 (iv 0))), (hT, ar 160 T), (hC, ar 1700 (wrL C (340 * tx + 0) (List.map kC (codesOf (cs ++ [(c_80, s_81)]))))), (hV, ar 1700 (wrL V (340 * tx + 0) (List.map kV (codesOf (cs ++ [(c_80, s_81)]))))), (hN, ar 5 (uZ Nk tx (0 + ((codesOf (cs ++ [(c_80, s_81)])).length : Int)))), (hL, ar 5 (uZ Lk tx (0 + ((cs ++ [(c_80, s_81)]).length : Int)))), (hTf, ar 450 (wrL Tf (90 * tx + 0) (tfOf 0 (cs ++ [(c_80, s_81)])))), (hSf, ar 450 (wrL Sf (90 * tx + 0) (sfOf 0 (cs ++ [(c_80, s_81)])))), (hEf, ar 450 (wrL Ef (90 * tx + 0) (stOf 0 (cs ++ [(c_80, s_81)]))))]) rfl ?_
            refine S_bipush X dX12_readLaw_21 rfl ?_
            refine S_icmp_ne (tgt := 43) X dX12_readLaw_23 (by decide) (by omega) (by decide) (fun c_98 => ?_) (fun c_98 => ?_)
            ·
              refine S_aload_n X dX12_readLaw_43 rfl hL26_0 ?_
              refine S_calli X (kX12_atEnd_N l h0 hT (uF f 14 (iv tx)) T n (sk T n a2_79) (-1) 0 hf0 hf1 (by omega) (by omega) (by omega)) (is := [0, 1]) rfl (run_V X lkX12_188 0 rfl rfl (is := [0, 1]) (avs := []) (rest := []) rfl rfl (nle rfl) ⟨nle rfl, nle rfl⟩ ⟨nle rfl, nle rfl⟩ dX12_readLaw_44 (by decide) rfl) (fun z_101 u_99 hp_100 => ?_)
              rcases hp_100 with ⟨hz_102, hu_103, hq_104⟩ | ⟨hz_105, hu_106, hq_107⟩
              ·
                subst hz_102
                subst hu_103
                refine ⟨rfl, ?_⟩
                refine S_w (ws' := [(h0, ob 11 (uF (uF (uF (uF f 14 (iv tx)) 3 (iv (sk T n (sk T n a2_79)))) 4 (iv (sk T n (sk T n a2_79)))) 5 (iv 0))), (hT, ar 160 T), (hC, ar 1700 (wrL C (340 * tx + 0) (List.map kC (codesOf (cs ++ [(c_80, s_81)]))))), (hV, ar 1700 (wrL V (340 * tx + 0) (List.map kV (codesOf (cs ++ [(c_80, s_81)]))))), (hN, ar 5 (uZ Nk tx (0 + ((codesOf (cs ++ [(c_80, s_81)])).length : Int)))), (hL, ar 5 (uZ Lk tx (0 + ((cs ++ [(c_80, s_81)]).length : Int)))), (hTf, ar 450 (wrL Tf (90 * tx + 0) (tfOf 0 (cs ++ [(c_80, s_81)])))), (hSf, ar 450 (wrL Sf (90 * tx + 0) (sfOf 0 (cs ++ [(c_80, s_81)])))), (hEf, ar 450 (wrL Ef (90 * tx + 0) (stOf 0 (cs ++ [(c_80, s_81)]))))]) rfl ?_
                rw [sk_idem (a := a2_79)] at hq_104
                rw [sk_idem (a := a2_79)]
                exact S_iret X (nle rfl) (nle rfl) dX12_readLaw_47 (hPo _ _ (Or.inl ⟨_, _, _, _, _, _, _, _, _, _, _, rfl, rfl, hk9.symm.trans (pl_n hq_84 hq_104 (by omega)), by omega, by first | exact frm_r (k := 0) (by omega) (by omega) | exact frm_w (k := 0) (by assumption) (by omega) (by omega) | exact frm_0 | assumption | exact frm_r (by omega) (by omega) | exact frm_w (by assumption) (by omega) (by omega) | exact frm_p frm_0 (by omega) | exact frm_p (by assumption) (by omega) | exact frm_p (frm_w (by assumption) (by omega) (by omega)) (by omega), by first | exact frm_r (k := 0) (by omega) (by omega) | exact frm_w (k := 0) (by assumption) (by omega) (by omega) | exact frm_0 | assumption | exact frm_r (by omega) (by omega) | exact frm_w (by assumption) (by omega) (by omega) | exact frm_p frm_0 (by omega) | exact frm_p (by assumption) (by omega) | exact frm_p (frm_w (by assumption) (by omega) (by omega)) (by omega), by first | assumption | exact frp_rT (by omega) | exact frp_rS (by omega) | exact frp_rE (by omega) | exact frp_wT (by assumption) (by omega) | exact frp_wS (by assumption) (by omega) | exact frp_wE (by assumption) (by omega), by first | assumption | exact frp_rT (by omega) | exact frp_rS (by omega) | exact frp_rE (by omega) | exact frp_wT (by assumption) (by omega) | exact frp_wS (by assumption) (by omega) | exact frp_wE (by assumption) (by omega), by first | assumption | exact frp_rT (by omega) | exact frp_rS (by omega) | exact frp_rE (by omega) | exact frp_wT (by assumption) (by omega) | exact frp_wS (by assumption) (by omega) | exact frp_wE (by assumption) (by omega)⟩))
              ·
                subst hz_105
                subst hu_106
                refine ⟨rfl, ?_⟩
                refine S_w (ws' := [(h0, ob 11 (uF (uF (uF (uF f 14 (iv tx)) 3 (iv (sk T n (sk T n a2_79)))) 4 (iv (-1))) 5 (iv 0))), (hT, ar 160 T), (hC, ar 1700 (wrL C (340 * tx + 0) (List.map kC (codesOf (cs ++ [(c_80, s_81)]))))), (hV, ar 1700 (wrL V (340 * tx + 0) (List.map kV (codesOf (cs ++ [(c_80, s_81)]))))), (hN, ar 5 (uZ Nk tx (0 + ((codesOf (cs ++ [(c_80, s_81)])).length : Int)))), (hL, ar 5 (uZ Lk tx (0 + ((cs ++ [(c_80, s_81)]).length : Int)))), (hTf, ar 450 (wrL Tf (90 * tx + 0) (tfOf 0 (cs ++ [(c_80, s_81)])))), (hSf, ar 450 (wrL Sf (90 * tx + 0) (sfOf 0 (cs ++ [(c_80, s_81)])))), (hEf, ar 450 (wrL Ef (90 * tx + 0) (stOf 0 (cs ++ [(c_80, s_81)]))))]) rfl ?_
                rw [sk_idem (a := a2_79)] at hq_107
                rw [sk_idem (a := a2_79)]
                exact S_iret X (nle rfl) (nle rfl) dX12_readLaw_47 (hPo _ _ (Or.inr ⟨_, cs ++ [(c_80, s_81)], rfl, rfl, hk9.symm.trans (pl_e hq_84 hq_107), by omega⟩))
            ·
              exact ih26 a2_79 (cs ++ [(c_80, s_81)]) _ (by omega) (by omega) (by omega) (by omega) (⟨g9, by omega, (pl_s (acc := cs) hq_84 (by omega)).symm.trans hk9⟩) hL26_0 hL26_1 (by omega)
      exact lp26_2 (Int.toNat (161 - a2_28) + 1) a2_28 (([] : List (List Int × List Int)) ++ [(c_29, s_30)]) _ (by omega) (by omega) (by omega) (by omega) (⟨160, by omega, (pl_s (acc := []) hq_33 (by omega)).symm⟩) rfl rfl (by omega)
end pt_24ref5
/- 25.lwrel.lean.txt -/
section pt_25lwrel
theorem lw_step {T : Int → Int} {n : Int} (hn : n ≤ 160) : ∀ (f : Nat) (a : Int) (acc : List (List Int × List Int)), 0 ≤ a → a ≤ n → lpr (pLawL T n f a (flatLaw acc)) = lps (pLawLS T n f a acc) := by
  intro f
  induction f with
  | zero => intro a acc h0 ha; rfl
  | succ f ih =>
    intro a acc h0 ha
    rw [pLawL, pLawLS, pLawC_S hn h0 ha]
    cases hq : pLawS T n a with
    | inl e => rfl
    | inr q =>
      obtain ⟨b, c, s⟩ := q
      have h1 := pLawS_in hn h0 ha hq
      have h2 := sk_in (T := T) h1.2.1
      show lpr (if ch T n (sk T n b) = 0 then .inr (sk T n b, flatLaw acc ++ joinC c s) else if ch T n (sk T n b) = 59 then pLawL T n f (sk T n b + 1) (flatLaw acc ++ joinC c s) else .inl (sk T n b)) = lps (if ch T n (sk T n b) = 0 then .inr (acc ++ [(c, s)]) else if ch T n (sk T n b) = 59 then pLawLS T n f (sk T n b + 1) (acc ++ [(c, s)]) else .inl (sk T n b))
      have h3 : flatLaw (acc ++ [(c, s)]) = flatLaw acc ++ joinC c s := flatLaw_one
      by_cases k1 : ch T n (sk T n b) = 0
      · rw [if_pos k1, if_pos k1]; show (Sum.inr (flatLaw acc ++ joinC c s) : Int ⊕ List Int) = Sum.inr (flatLaw (acc ++ [(c, s)])); rw [h3]
      · rw [if_neg k1, if_neg k1]
        by_cases k2 : ch T n (sk T n b) = 59
        · rw [if_pos k2, if_pos k2, ← h3]
          have : sk T n b < n := ch_lt (T := T) (by omega)
          exact ih _ _ (by omega) (by omega)
        · rw [if_neg k2, if_neg k2]; rfl
/-- what the class reads of a law's text and what the reference reads of it are one -/
theorem lw_rel {T : Int → Int} {n : Int} (hn : n ≤ 160) (h0 : 0 ≤ n) : lwRes T n = lps (pLawLS T n 161 0 []) := by
  rw [← lw_step hn 161 0 [] (by omega) h0]
  show lwRes T n = lpr (pLawL T n 161 0 [])
  unfold lwRes
  cases pLawL T n 161 0 [] <;> rfl
end pt_25lwrel
/- 26.ref6.lean.txt -/
section pt_26ref6
theorem nm_0 {T : Int → Int} {n a lo hi : Int} (h : ¬ (48 ≤ ch T n (sk T n a) ∧ ch T n (sk T n a) ≤ 57)) : pNum T n 2 lo hi a = .inl (sk T n a) := by unfold pNum; rw [if_neg h]
theorem nm_1 {T : Int → Int} {n a lo hi v : Int} (h : sk T n a < n ∧ 48 ≤ T (sk T n a) ∧ T (sk T n a) ≤ 57) (h2 : ¬ (sk T n a + 1 < n ∧ 48 ≤ T (sk T n a + 1) ∧ T (sk T n a + 1) ≤ 57)) (hv : v = T (sk T n a) - 48) : pNum T n 2 lo hi a = numE lo hi (.inr (sk T n a + 1, v)) := by
  have hc : ch T n (sk T n a) = T (sk T n a) := if_pos h.1
  unfold pNum
  rw [if_pos (by omega), numF_dig h (by omega), numF_end h2, hv]
  congr 3
  omega
theorem nm_2 {T : Int → Int} {n a lo hi v : Int} (h : sk T n a < n ∧ 48 ≤ T (sk T n a) ∧ T (sk T n a) ≤ 57) (h2 : sk T n a + 1 < n ∧ 48 ≤ T (sk T n a + 1) ∧ T (sk T n a + 1) ≤ 57) (h3 : ¬ (sk T n a + 1 + 1 < n ∧ 48 ≤ T (sk T n a + 1 + 1) ∧ T (sk T n a + 1 + 1) ≤ 57)) (hv : v = 10 * (T (sk T n a) - 48) + T (sk T n a + 1) - 48) : pNum T n 2 lo hi a = numE lo hi (.inr (sk T n a + 1 + 1, v)) := by
  have hc : ch T n (sk T n a) = T (sk T n a) := if_pos h.1
  unfold pNum
  rw [if_pos (by omega), numF_dig h (by omega), numF_dig h2 (by omega), numF_end h3, hv]
  congr 3
  omega
theorem nm_3 {T : Int → Int} {n a lo hi : Int} (h : sk T n a < n ∧ 48 ≤ T (sk T n a) ∧ T (sk T n a) ≤ 57) (h2 : sk T n a + 1 < n ∧ 48 ≤ T (sk T n a + 1) ∧ T (sk T n a + 1) ≤ 57) (h3 : sk T n a + 1 + 1 < n ∧ 48 ≤ T (sk T n a + 1 + 1) ∧ T (sk T n a + 1 + 1) ≤ 57) : pNum T n 2 lo hi a = .inl (sk T n a + 1 + 1) := by
  have hc : ch T n (sk T n a) = T (sk T n a) := if_pos h.1
  unfold pNum
  rw [if_pos (by omega), numF_dig h (by omega), numF_dig h2 (by omega), numF_big h3 (by omega)]
  rfl
def topOf (k : Int) : Int := if k = 0 then 99 else if k = 1 then 9 else if k = 2 then 3 else if k = 3 then 5 else 10
set_option maxHeartbeats 4000000 in
set_option maxRecDepth 100000 in
theorem kX12_number (l : Launch) (h0 : Nat) (hT : Nat) (f : Nat → AV) (T : Int → Int) (n : Int) (a : Int) (w : Int) (dp : Int) (lo : Int) (hi : Int) (hf0 : f 1 = rv hT) (hf1 : f 2 = iv n) (okT : okT T n) (ha : 0 ≤ a ∧ a ≤ n) (hw : w = -1) (hlh : -100 ≤ lo ∧ lo ≤ 100 ∧ -100 ≤ hi ∧ hi ≤ 100) : AMi l yX12_number cX12_number 4 .int 2 0 0 [rv h0, iv lo, iv hi] [(h0, ob 11 (uF (uF (uF f 3 (iv a)) 4 (iv w)) 5 (iv dp))), (hT, ar 160 T)] (fun z u => (∃ a2 : Int, ∃ fl : Int, ∃ v : Int, z = v ∧ u = [(h0, ob 11 (uF (uF (uF f 3 (iv a2)) 4 (iv fl)) 5 (iv dp))), (hT, ar 160 T)] ∧ pNum T n 2 lo hi a = .inl fl ∧ (a ≤ a2 ∧ a2 ≤ n ∧ 0 ≤ fl ∧ fl ≤ n ∧ -100 ≤ v ∧ v ≤ 100)) ∨ (∃ a2 : Int, ∃ v : Int, z = v ∧ u = [(h0, ob 11 (uF (uF (uF f 3 (iv a2)) 4 (iv w)) 5 (iv dp))), (hT, ar 160 T)] ∧ pNum T n 2 lo hi a = .inr (a2, v))) := by
  refine AMi.of2 rfl (nle rfl) ?_
  intro D G A p e s m args below meth c Po hPo X
  obtain ⟨hn0, hn1, hT2⟩ := id okT
  refine S_aload_n X dX12_number_0 rfl rfl ?_
  refine S_calli X (kX12_look l h0 hT f T n a w dp hf0 hf1 (by omega) (by omega)) (is := [0, 1]) rfl (run_V X lkX12_130 0 rfl rfl (is := [0, 1]) (avs := []) (rest := []) rfl rfl (nle rfl) ⟨nle rfl, nle rfl⟩ ⟨nle rfl, nle rfl⟩ dX12_number_1 (by decide) rfl) (fun z_3 u_1 hp_2 => ?_)
  obtain ⟨hz_4, hu_5⟩ := hp_2
  subst hz_4
  subst hu_5
  refine ⟨rfl, ?_⟩
  refine S_w (ws' := [(h0, ob 11 (uF (uF (uF f 3 (iv (sk T n a))) 4 (iv w)) 5 (iv dp))), (hT, ar 160 T)]) rfl ?_
  have hsk := sk_in (T := T) ha.2
  have hcm_0 := chM_or okT (a := sk T n a) (by omega) (by omega)
  have hct_0 : sk T n a < n → ch T n (sk T n a) = T (sk T n a) := fun h => if_pos h
  refine S_calli X (kX12_isDigit l (chM T n (sk T n a)) (by omega)) (is := []) rfl (run_S X lkX12_133 (is := []) (avs := [iv (chM T n (sk T n a))]) (rest := []) rfl rfl (nle rfl) ⟨nle rfl, nle rfl⟩ ⟨nle rfl, nle rfl⟩ dX12_number_4 (by decide) rfl) (fun z_8 u_6 hp_7 => ?_)
  rcases hp_7 with ⟨hz_9, hu_10, hd_11⟩ | ⟨hz_12, hu_13, hd_14⟩
  ·
    subst hz_9
    subst hu_10
    refine ⟨rfl, ?_⟩
    refine S_w (ws' := [(h0, ob 11 (uF (uF (uF f 3 (iv (sk T n a))) 4 (iv w)) 5 (iv dp))), (hT, ar 160 T)]) rfl ?_
    refine S_if_ne (tgt := 16) X dX12_number_7 (by decide) (by decide) (fun h9 => absurd h9 (by decide)) (fun _ => ?_)
    refine S_aload_n X dX12_number_10 rfl rfl ?_
    refine S_callv X (kX12_bad l h0 f (sk T n a) w dp (by omega)) (is := [0]) rfl (run_V X lkX12_127 0 rfl rfl (is := [0]) (avs := []) (rest := []) rfl rfl (nle rfl) ⟨nle rfl, nle rfl⟩ ⟨nle rfl, nle rfl⟩ dX12_number_11 (by decide) rfl) (fun u_16 hp_17 => ?_)
    have hu_20 := hp_17
    subst hu_20
    refine ⟨rfl, ?_⟩
    refine S_w (ws' := [(h0, ob 11 (uF (uF (uF f 3 (iv (sk T n a))) 4 (iv (sk T n a))) 5 (iv dp))), (hT, ar 160 T)]) rfl ?_
    refine S_iload_n X dX12_number_14 rfl rfl ?_
    exact S_iret X (nle rfl) (nle rfl) dX12_number_15 (hPo _ _ (Or.inl ⟨_, _, _, rfl, rfl, nm_0 (by omega), by omega⟩))
  ·
    subst hz_12
    subst hu_13
    refine ⟨rfl, ?_⟩
    refine S_w (ws' := [(h0, ob 11 (uF (uF (uF f 3 (iv (sk T n a))) 4 (iv w)) 5 (iv dp))), (hT, ar 160 T)]) rfl ?_
    refine S_if_ne (tgt := 16) X dX12_number_7 (by decide) (by decide) (fun _ => ?_) (fun h9 => absurd h9 (by decide))
    refine S_aload_n X dX12_number_16 rfl rfl ?_
    refine S_calli X (kX12_here l h0 hT f T n (sk T n a) w dp hf0 hf1 (by omega) (by omega)) (is := [0, 1]) rfl (run_V X lkX12_114 0 rfl rfl (is := [0, 1]) (avs := []) (rest := []) rfl rfl (nle rfl) ⟨nle rfl, nle rfl⟩ ⟨nle rfl, nle rfl⟩ dX12_number_17 (by decide) rfl) (fun z_24 u_22 hp_23 => ?_)
    obtain ⟨hz_25, hu_26⟩ := hp_23
    subst hz_25
    subst hu_26
    refine ⟨rfl, ?_⟩
    refine S_w (ws' := [(h0, ob 11 (uF (uF (uF f 3 (iv (sk T n a))) 4 (iv w)) 5 (iv dp))), (hT, ar 160 T)]) rfl ?_
    refine S_bipush X dX12_number_20 rfl ?_
    refine S_isub X dX12_number_22 ?_
    refine S_istore_n X dX12_number_23 rfl (nle rfl) ?_
    refine S_aload_n X dX12_number_24 rfl rfl ?_
    refine S_dup X dX12_number_25 ?_
    refine S_get (v := iv (sk T n a)) X fgX12_111_11 0 rfl rfl dX12_number_26 ?_
    refine S_iconst X dX12_number_29 ?_
    refine S_iadd X dX12_number_30 ?_
    refine S_put X fpX12_111_11 0 rfl FT_i dX12_number_31 ?_
    refine S_w (ws' := [(h0, ob 11 (uF (uF (uF f 3 (iv ((sk T n a) + 1))) 4 (iv w)) 5 (iv dp))), (hT, ar 160 T)]) (by simp only [List.set]; rw [uF_mv (j := 5) (k := 3) (by decide), uF_mv (j := 4) (k := 3) (by decide), uF_same (k := 3)]) ?_
    refine S_aload_n X dX12_number_34 rfl rfl ?_
    refine S_calli X (kX12_here l h0 hT f T n ((sk T n a) + 1) w dp hf0 hf1 (by omega) (by omega)) (is := [0, 1]) rfl (run_V X lkX12_114 0 rfl rfl (is := [0, 1]) (avs := []) (rest := []) rfl rfl (nle rfl) ⟨nle rfl, nle rfl⟩ ⟨nle rfl, nle rfl⟩ dX12_number_35 (by decide) rfl) (fun z_29 u_27 hp_28 => ?_)
    obtain ⟨hz_30, hu_31⟩ := hp_28
    subst hz_30
    subst hu_31
    refine ⟨rfl, ?_⟩
    refine S_w (ws' := [(h0, ob 11 (uF (uF (uF f 3 (iv ((sk T n a) + 1))) 4 (iv w)) 5 (iv dp))), (hT, ar 160 T)]) rfl ?_
    have hcm_1 := chM_or okT (a := sk T n a + 1) (by omega) (by omega)
    have hct_1 : sk T n a + 1 < n → ch T n (sk T n a + 1) = T (sk T n a + 1) := fun h => if_pos h
    refine S_calli X (kX12_isDigit l (chM T n ((sk T n a) + 1)) (by omega)) (is := []) rfl (run_S X lkX12_133 (is := []) (avs := [iv (chM T n ((sk T n a) + 1))]) (rest := []) rfl rfl (nle rfl) ⟨nle rfl, nle rfl⟩ ⟨nle rfl, nle rfl⟩ dX12_number_38 (by decide) rfl) (fun z_34 u_32 hp_33 => ?_)
    rcases hp_33 with ⟨hz_35, hu_36, hd_37⟩ | ⟨hz_38, hu_39, hd_40⟩
    ·
      subst hz_35
      subst hu_36
      refine ⟨rfl, ?_⟩
      refine S_w (ws' := [(h0, ob 11 (uF (uF (uF f 3 (iv ((sk T n a) + 1))) 4 (iv w)) 5 (iv dp))), (hT, ar 160 T)]) rfl ?_
      refine S_if_eq (tgt := 67) X dX12_number_41 (by decide) (by decide) (fun _ => ?_) (fun h9 => absurd h9 (by decide))
      refine S_aload_n X dX12_number_67 rfl rfl ?_
      refine S_calli X (kX12_here l h0 hT f T n ((sk T n a) + 1) w dp hf0 hf1 (by omega) (by omega)) (is := [0, 1]) rfl (run_V X lkX12_114 0 rfl rfl (is := [0, 1]) (avs := []) (rest := []) rfl rfl (nle rfl) ⟨nle rfl, nle rfl⟩ ⟨nle rfl, nle rfl⟩ dX12_number_68 (by decide) rfl) (fun z_44 u_42 hp_43 => ?_)
      obtain ⟨hz_45, hu_46⟩ := hp_43
      subst hz_45
      subst hu_46
      refine ⟨rfl, ?_⟩
      refine S_w (ws' := [(h0, ob 11 (uF (uF (uF f 3 (iv ((sk T n a) + 1))) 4 (iv w)) 5 (iv dp))), (hT, ar 160 T)]) rfl ?_
      have hcm_2 := chM_or okT (a := ((sk T n a) + 1)) (by omega) (by omega)
      have hct_2 : ((sk T n a) + 1) < n → ch T n (((sk T n a) + 1)) = T (((sk T n a) + 1)) := fun h => if_pos h
      refine S_calli X (kX12_isDigit l (chM T n ((sk T n a) + 1)) (by omega)) (is := []) rfl (run_S X lkX12_133 (is := []) (avs := [iv (chM T n ((sk T n a) + 1))]) (rest := []) rfl rfl (nle rfl) ⟨nle rfl, nle rfl⟩ ⟨nle rfl, nle rfl⟩ dX12_number_71 (by decide) rfl) (fun z_49 u_47 hp_48 => ?_)
      rcases hp_48 with ⟨hz_50, hu_51, hd_52⟩ | ⟨hz_53, hu_54, hd_55⟩
      ·
        subst hz_50
        subst hu_51
        refine ⟨rfl, ?_⟩
        refine S_w (ws' := [(h0, ob 11 (uF (uF (uF f 3 (iv ((sk T n a) + 1))) 4 (iv w)) 5 (iv dp))), (hT, ar 160 T)]) rfl ?_
        refine S_if_eq (tgt := 84) X dX12_number_74 (by decide) (by decide) (fun _ => ?_) (fun h9 => absurd h9 (by decide))
        refine S_iload_n X dX12_number_84 rfl rfl ?_
        refine S_iload_n X dX12_number_85 rfl rfl ?_
        refine S_iload_n X dX12_number_86 rfl rfl ?_
        refine S_calli X (kX12_in l ((chM T n (sk T n a)) - 48) lo hi (by omega) (by omega) (by omega)) (is := []) rfl (run_S X lkX12_216 (is := []) (avs := [iv ((chM T n (sk T n a)) - 48), iv lo, iv hi]) (rest := []) rfl rfl (nle rfl) ⟨nle rfl, nle rfl⟩ ⟨nle rfl, nle rfl⟩ dX12_number_87 (by decide) rfl) (fun z_59 u_57 hp_58 => ?_)
        rcases hp_58 with ⟨hz_60, hu_61, hq_62⟩ | ⟨hz_63, hu_64, hq_65⟩
        ·
          subst hz_60
          subst hu_61
          refine ⟨rfl, ?_⟩
          refine S_w (ws' := [(h0, ob 11 (uF (uF (uF f 3 (iv ((sk T n a) + 1))) 4 (iv w)) 5 (iv dp))), (hT, ar 160 T)]) rfl ?_
          refine S_if_ne (tgt := 107) X dX12_number_90 (by decide) (by decide) (fun h9 => absurd h9 (by decide)) (fun _ => ?_)
          refine S_aload_n X dX12_number_93 rfl rfl ?_
          refine S_dup X dX12_number_94 ?_
          refine S_get (v := iv ((sk T n a) + 1)) X fgX12_111_11 0 rfl rfl dX12_number_95 ?_
          refine S_iconst X dX12_number_98 ?_
          refine S_isub X dX12_number_99 ?_
          refine S_put X fpX12_111_11 0 rfl FT_i dX12_number_100 ?_
          refine S_w (ws' := [(h0, ob 11 (uF (uF (uF f 3 (iv (((sk T n a) + 1) - 1))) 4 (iv w)) 5 (iv dp))), (hT, ar 160 T)]) (by simp only [List.set]; rw [uF_mv (j := 5) (k := 3) (by decide), uF_mv (j := 4) (k := 3) (by decide), uF_same (k := 3)]) ?_
          refine S_aload_n X dX12_number_103 rfl rfl ?_
          refine S_callv X (kX12_bad l h0 f (((sk T n a) + 1) - 1) w dp (by omega)) (is := [0]) rfl (run_V X lkX12_127 0 rfl rfl (is := [0]) (avs := []) (rest := []) rfl rfl (nle rfl) ⟨nle rfl, nle rfl⟩ ⟨nle rfl, nle rfl⟩ dX12_number_104 (by decide) rfl) (fun u_67 hp_68 => ?_)
          have hu_71 := hp_68
          subst hu_71
          refine ⟨rfl, ?_⟩
          refine S_w (ws' := [(h0, ob 11 (uF (uF (uF f 3 (iv (((sk T n a) + 1) - 1))) 4 (iv (((sk T n a) + 1) - 1))) 5 (iv dp))), (hT, ar 160 T)]) rfl ?_
          refine S_iload_n X dX12_number_107 rfl rfl ?_
          exact S_iret X (nle rfl) (nle rfl) dX12_number_108 (hPo _ _ (Or.inl ⟨_, _, _, rfl, rfl, (nm_1 (v := (chM T n (sk T n a)) - 48) (by omega) (by omega) (by omega)).trans (numE_o (by omega)), by omega⟩))
        ·
          subst hz_63
          subst hu_64
          refine ⟨rfl, ?_⟩
          refine S_w (ws' := [(h0, ob 11 (uF (uF (uF f 3 (iv ((sk T n a) + 1))) 4 (iv w)) 5 (iv dp))), (hT, ar 160 T)]) rfl ?_
          refine S_if_ne (tgt := 107) X dX12_number_90 (by decide) (by decide) (fun _ => ?_) (fun h9 => absurd h9 (by decide))
          refine S_iload_n X dX12_number_107 rfl rfl ?_
          exact S_iret X (nle rfl) (nle rfl) dX12_number_108 (hPo _ _ (Or.inr ⟨_, _, rfl, rfl, (nm_1 (by omega) (by omega) (by omega)).trans (numE_i (by omega))⟩))
      ·
        subst hz_53
        subst hu_54
        refine ⟨rfl, ?_⟩
        refine S_w (ws' := [(h0, ob 11 (uF (uF (uF f 3 (iv ((sk T n a) + 1))) 4 (iv w)) 5 (iv dp))), (hT, ar 160 T)]) rfl ?_
        refine S_if_eq (tgt := 84) X dX12_number_74 (by decide) (by decide) (fun h9 => absurd h9 (by decide)) (fun _ => ?_)
        refine S_aload_n X dX12_number_77 rfl rfl ?_
        refine S_callv X (kX12_bad l h0 f ((sk T n a) + 1) w dp (by omega)) (is := [0]) rfl (run_V X lkX12_127 0 rfl rfl (is := [0]) (avs := []) (rest := []) rfl rfl (nle rfl) ⟨nle rfl, nle rfl⟩ ⟨nle rfl, nle rfl⟩ dX12_number_78 (by decide) rfl) (fun u_74 hp_75 => ?_)
        have hu_78 := hp_75
        subst hu_78
        refine ⟨rfl, ?_⟩
        refine S_w (ws' := [(h0, ob 11 (uF (uF (uF f 3 (iv ((sk T n a) + 1))) 4 (iv ((sk T n a) + 1))) 5 (iv dp))), (hT, ar 160 T)]) rfl ?_
        refine S_goto (tgt := 107) X dX12_number_81 (by decide) ?_
        refine S_iload_n X dX12_number_107 rfl rfl ?_
        exact S_iret X (nle rfl) (nle rfl) dX12_number_108 (hPo _ _ ((by exfalso; omega)))
    ·
      subst hz_38
      subst hu_39
      refine ⟨rfl, ?_⟩
      refine S_w (ws' := [(h0, ob 11 (uF (uF (uF f 3 (iv ((sk T n a) + 1))) 4 (iv w)) 5 (iv dp))), (hT, ar 160 T)]) rfl ?_
      refine S_if_eq (tgt := 67) X dX12_number_41 (by decide) (by decide) (fun h9 => absurd h9 (by decide)) (fun _ => ?_)
      refine S_bipush X dX12_number_44 rfl ?_
      refine S_iload_n X dX12_number_46 rfl rfl ?_
      refine S_imul X dX12_number_47 ?_
      refine S_aload_n X dX12_number_48 rfl rfl ?_
      refine S_calli X (kX12_here l h0 hT f T n ((sk T n a) + 1) w dp hf0 hf1 (by omega) (by omega)) (is := [0, 1]) rfl (run_V X lkX12_114 0 rfl rfl (is := [0, 1]) (avs := []) (rest := [iv (10 * ((chM T n (sk T n a)) - 48))]) rfl rfl (nle rfl) ⟨nle rfl, nle rfl⟩ ⟨nle rfl, nle rfl⟩ dX12_number_49 (by decide) rfl) (fun z_82 u_80 hp_81 => ?_)
      obtain ⟨hz_83, hu_84⟩ := hp_81
      subst hz_83
      subst hu_84
      refine ⟨rfl, ?_⟩
      refine S_w (ws' := [(h0, ob 11 (uF (uF (uF f 3 (iv ((sk T n a) + 1))) 4 (iv w)) 5 (iv dp))), (hT, ar 160 T)]) rfl ?_
      refine S_iadd X dX12_number_52 ?_
      refine S_bipush X dX12_number_53 rfl ?_
      refine S_isub X dX12_number_55 ?_
      refine S_istore_n X dX12_number_56 rfl (nle rfl) ?_
      refine S_aload_n X dX12_number_57 rfl rfl ?_
      refine S_dup X dX12_number_58 ?_
      refine S_get (v := iv ((sk T n a) + 1)) X fgX12_111_11 0 rfl rfl dX12_number_59 ?_
      refine S_iconst X dX12_number_62 ?_
      refine S_iadd X dX12_number_63 ?_
      refine S_put X fpX12_111_11 0 rfl FT_i dX12_number_64 ?_
      refine S_w (ws' := [(h0, ob 11 (uF (uF (uF f 3 (iv (((sk T n a) + 1) + 1))) 4 (iv w)) 5 (iv dp))), (hT, ar 160 T)]) (by simp only [List.set]; rw [uF_mv (j := 5) (k := 3) (by decide), uF_mv (j := 4) (k := 3) (by decide), uF_same (k := 3)]) ?_
      refine S_aload_n X dX12_number_67 rfl rfl ?_
      refine S_calli X (kX12_here l h0 hT f T n (((sk T n a) + 1) + 1) w dp hf0 hf1 (by omega) (by omega)) (is := [0, 1]) rfl (run_V X lkX12_114 0 rfl rfl (is := [0, 1]) (avs := []) (rest := []) rfl rfl (nle rfl) ⟨nle rfl, nle rfl⟩ ⟨nle rfl, nle rfl⟩ dX12_number_68 (by decide) rfl) (fun z_87 u_85 hp_86 => ?_)
      obtain ⟨hz_88, hu_89⟩ := hp_86
      subst hz_88
      subst hu_89
      refine ⟨rfl, ?_⟩
      refine S_w (ws' := [(h0, ob 11 (uF (uF (uF f 3 (iv (((sk T n a) + 1) + 1))) 4 (iv w)) 5 (iv dp))), (hT, ar 160 T)]) rfl ?_
      have hcm_2 := chM_or okT (a := (((sk T n a) + 1) + 1)) (by omega) (by omega)
      have hct_2 : (((sk T n a) + 1) + 1) < n → ch T n ((((sk T n a) + 1) + 1)) = T ((((sk T n a) + 1) + 1)) := fun h => if_pos h
      refine S_calli X (kX12_isDigit l (chM T n (((sk T n a) + 1) + 1)) (by omega)) (is := []) rfl (run_S X lkX12_133 (is := []) (avs := [iv (chM T n (((sk T n a) + 1) + 1))]) (rest := []) rfl rfl (nle rfl) ⟨nle rfl, nle rfl⟩ ⟨nle rfl, nle rfl⟩ dX12_number_71 (by decide) rfl) (fun z_92 u_90 hp_91 => ?_)
      rcases hp_91 with ⟨hz_93, hu_94, hd_95⟩ | ⟨hz_96, hu_97, hd_98⟩
      ·
        subst hz_93
        subst hu_94
        refine ⟨rfl, ?_⟩
        refine S_w (ws' := [(h0, ob 11 (uF (uF (uF f 3 (iv (((sk T n a) + 1) + 1))) 4 (iv w)) 5 (iv dp))), (hT, ar 160 T)]) rfl ?_
        refine S_if_eq (tgt := 84) X dX12_number_74 (by decide) (by decide) (fun _ => ?_) (fun h9 => absurd h9 (by decide))
        refine S_iload_n X dX12_number_84 rfl rfl ?_
        refine S_iload_n X dX12_number_85 rfl rfl ?_
        refine S_iload_n X dX12_number_86 rfl rfl ?_
        refine S_calli X (kX12_in l (((10 * ((chM T n (sk T n a)) - 48)) + (chM T n ((sk T n a) + 1))) - 48) lo hi (by omega) (by omega) (by omega)) (is := []) rfl (run_S X lkX12_216 (is := []) (avs := [iv (((10 * ((chM T n (sk T n a)) - 48)) + (chM T n ((sk T n a) + 1))) - 48), iv lo, iv hi]) (rest := []) rfl rfl (nle rfl) ⟨nle rfl, nle rfl⟩ ⟨nle rfl, nle rfl⟩ dX12_number_87 (by decide) rfl) (fun z_102 u_100 hp_101 => ?_)
        rcases hp_101 with ⟨hz_103, hu_104, hq_105⟩ | ⟨hz_106, hu_107, hq_108⟩
        ·
          subst hz_103
          subst hu_104
          refine ⟨rfl, ?_⟩
          refine S_w (ws' := [(h0, ob 11 (uF (uF (uF f 3 (iv (((sk T n a) + 1) + 1))) 4 (iv w)) 5 (iv dp))), (hT, ar 160 T)]) rfl ?_
          refine S_if_ne (tgt := 107) X dX12_number_90 (by decide) (by decide) (fun h9 => absurd h9 (by decide)) (fun _ => ?_)
          refine S_aload_n X dX12_number_93 rfl rfl ?_
          refine S_dup X dX12_number_94 ?_
          refine S_get (v := iv (((sk T n a) + 1) + 1)) X fgX12_111_11 0 rfl rfl dX12_number_95 ?_
          refine S_iconst X dX12_number_98 ?_
          refine S_isub X dX12_number_99 ?_
          refine S_put X fpX12_111_11 0 rfl FT_i dX12_number_100 ?_
          refine S_w (ws' := [(h0, ob 11 (uF (uF (uF f 3 (iv ((((sk T n a) + 1) + 1) - 1))) 4 (iv w)) 5 (iv dp))), (hT, ar 160 T)]) (by simp only [List.set]; rw [uF_mv (j := 5) (k := 3) (by decide), uF_mv (j := 4) (k := 3) (by decide), uF_same (k := 3)]) ?_
          refine S_aload_n X dX12_number_103 rfl rfl ?_
          refine S_callv X (kX12_bad l h0 f ((((sk T n a) + 1) + 1) - 1) w dp (by omega)) (is := [0]) rfl (run_V X lkX12_127 0 rfl rfl (is := [0]) (avs := []) (rest := []) rfl rfl (nle rfl) ⟨nle rfl, nle rfl⟩ ⟨nle rfl, nle rfl⟩ dX12_number_104 (by decide) rfl) (fun u_110 hp_111 => ?_)
          have hu_114 := hp_111
          subst hu_114
          refine ⟨rfl, ?_⟩
          refine S_w (ws' := [(h0, ob 11 (uF (uF (uF f 3 (iv ((((sk T n a) + 1) + 1) - 1))) 4 (iv ((((sk T n a) + 1) + 1) - 1))) 5 (iv dp))), (hT, ar 160 T)]) rfl ?_
          refine S_iload_n X dX12_number_107 rfl rfl ?_
          exact S_iret X (nle rfl) (nle rfl) dX12_number_108 (hPo _ _ (Or.inl ⟨_, _, _, rfl, rfl, (nm_2 (v := ((10 * ((chM T n (sk T n a)) - 48)) + (chM T n ((sk T n a) + 1))) - 48) (by omega) (by omega) (by omega) (by omega)).trans (numE_o (by omega)), by omega⟩))
        ·
          subst hz_106
          subst hu_107
          refine ⟨rfl, ?_⟩
          refine S_w (ws' := [(h0, ob 11 (uF (uF (uF f 3 (iv (((sk T n a) + 1) + 1))) 4 (iv w)) 5 (iv dp))), (hT, ar 160 T)]) rfl ?_
          refine S_if_ne (tgt := 107) X dX12_number_90 (by decide) (by decide) (fun _ => ?_) (fun h9 => absurd h9 (by decide))
          refine S_iload_n X dX12_number_107 rfl rfl ?_
          exact S_iret X (nle rfl) (nle rfl) dX12_number_108 (hPo _ _ (Or.inr ⟨_, _, rfl, rfl, (nm_2 (by omega) (by omega) (by omega) (by omega)).trans (numE_i (by omega))⟩))
      ·
        subst hz_96
        subst hu_97
        refine ⟨rfl, ?_⟩
        refine S_w (ws' := [(h0, ob 11 (uF (uF (uF f 3 (iv (((sk T n a) + 1) + 1))) 4 (iv w)) 5 (iv dp))), (hT, ar 160 T)]) rfl ?_
        refine S_if_eq (tgt := 84) X dX12_number_74 (by decide) (by decide) (fun h9 => absurd h9 (by decide)) (fun _ => ?_)
        refine S_aload_n X dX12_number_77 rfl rfl ?_
        refine S_callv X (kX12_bad l h0 f (((sk T n a) + 1) + 1) w dp (by omega)) (is := [0]) rfl (run_V X lkX12_127 0 rfl rfl (is := [0]) (avs := []) (rest := []) rfl rfl (nle rfl) ⟨nle rfl, nle rfl⟩ ⟨nle rfl, nle rfl⟩ dX12_number_78 (by decide) rfl) (fun u_117 hp_118 => ?_)
        have hu_121 := hp_118
        subst hu_121
        refine ⟨rfl, ?_⟩
        refine S_w (ws' := [(h0, ob 11 (uF (uF (uF f 3 (iv (((sk T n a) + 1) + 1))) 4 (iv (((sk T n a) + 1) + 1))) 5 (iv dp))), (hT, ar 160 T)]) rfl ?_
        refine S_goto (tgt := 107) X dX12_number_81 (by decide) ?_
        refine S_iload_n X dX12_number_107 rfl rfl ?_
        exact S_iret X (nle rfl) (nle rfl) dX12_number_108 (hPo _ _ (Or.inl ⟨_, _, _, rfl, rfl, nm_3 (by omega) (by omega) (by omega), by omega⟩))
set_option maxHeartbeats 4000000 in
set_option maxRecDepth 100000 in
theorem kX12_itemOf (l : Launch) (x : Int) (hx : inR x) : AMi l yX12_itemOf cX12_itemOf 1 .int 0 0 0 [iv x] [] (fun z u => z = itemOf x ∧ u = []) := by
  refine AMi.of2 rfl (nle rfl) ?_
  intro D G A p e s m args below meth c Po hPo X
  refine S_iload_n X dX12_itemOf_0 rfl rfl ?_
  refine S_bipush X dX12_itemOf_1 rfl ?_
  refine S_icmp_ne (tgt := 10) X dX12_itemOf_3 (by decide) (by omega) (by decide) (fun c_1 => ?_) (fun c_1 => ?_)
  ·
    refine S_iload_n X dX12_itemOf_10 rfl rfl ?_
    refine S_bipush X dX12_itemOf_11 rfl ?_
    refine S_icmp_ne (tgt := 20) X dX12_itemOf_13 (by decide) (by omega) (by decide) (fun c_2 => ?_) (fun c_2 => ?_)
    ·
      refine S_iload_n X dX12_itemOf_20 rfl rfl ?_
      refine S_bipush X dX12_itemOf_21 rfl ?_
      refine S_icmp_ne (tgt := 30) X dX12_itemOf_23 (by decide) (by omega) (by decide) (fun c_3 => ?_) (fun c_3 => ?_)
      ·
        refine S_iload_n X dX12_itemOf_30 rfl rfl ?_
        refine S_bipush X dX12_itemOf_31 rfl ?_
        refine S_icmp_ne (tgt := 40) X dX12_itemOf_33 (by decide) (by omega) (by decide) (fun c_4 => ?_) (fun c_4 => ?_)
        ·
          refine S_iload_n X dX12_itemOf_40 rfl rfl ?_
          refine S_bipush X dX12_itemOf_41 rfl ?_
          refine S_icmp_ne (tgt := 50) X dX12_itemOf_43 (by decide) (by omega) (by decide) (fun c_5 => ?_) (fun c_5 => ?_)
          ·
            refine S_iconst X dX12_itemOf_50 ?_
            exact S_iret X (nle rfl) (nle rfl) dX12_itemOf_51 (hPo _ _ (⟨by unfold itemOf; (repeat' split) <;> omega, rfl⟩))
          ·
            refine S_iconst X dX12_itemOf_46 ?_
            refine S_goto (tgt := 51) X dX12_itemOf_47 (by decide) ?_
            exact S_iret X (nle rfl) (nle rfl) dX12_itemOf_51 (hPo _ _ (⟨by unfold itemOf; (repeat' split) <;> omega, rfl⟩))
        ·
          refine S_iconst X dX12_itemOf_36 ?_
          refine S_goto (tgt := 51) X dX12_itemOf_37 (by decide) ?_
          exact S_iret X (nle rfl) (nle rfl) dX12_itemOf_51 (hPo _ _ (⟨by unfold itemOf; (repeat' split) <;> omega, rfl⟩))
      ·
        refine S_iconst X dX12_itemOf_26 ?_
        refine S_goto (tgt := 51) X dX12_itemOf_27 (by decide) ?_
        exact S_iret X (nle rfl) (nle rfl) dX12_itemOf_51 (hPo _ _ (⟨by unfold itemOf; (repeat' split) <;> omega, rfl⟩))
    ·
      refine S_iconst X dX12_itemOf_16 ?_
      refine S_goto (tgt := 51) X dX12_itemOf_17 (by decide) ?_
      exact S_iret X (nle rfl) (nle rfl) dX12_itemOf_51 (hPo _ _ (⟨by unfold itemOf; (repeat' split) <;> omega, rfl⟩))
  ·
    refine S_iconst X dX12_itemOf_6 ?_
    refine S_goto (tgt := 51) X dX12_itemOf_7 (by decide) ?_
    exact S_iret X (nle rfl) (nle rfl) dX12_itemOf_51 (hPo _ _ (⟨by unfold itemOf; (repeat' split) <;> omega, rfl⟩))
set_option maxHeartbeats 4000000 in
set_option maxRecDepth 100000 in
theorem kX12_highest (l : Launch) (x : Int) (hx : inR x) : AMi l yX12_highest cX12_highest 1 .int 0 0 0 [iv x] [] (fun z u => z = topOf x ∧ u = []) := by
  refine AMi.of2 rfl (nle rfl) ?_
  intro D G A p e s m args below meth c Po hPo X
  refine S_iload_n X dX12_highest_0 rfl rfl ?_
  refine S_if_ne (tgt := 9) X dX12_highest_1 (by decide) (by omega) (fun c_1 => ?_) (fun c_1 => ?_)
  ·
    refine S_iload_n X dX12_highest_9 rfl rfl ?_
    refine S_iconst X dX12_highest_10 ?_
    refine S_icmp_ne (tgt := 19) X dX12_highest_11 (by decide) (by omega) (by decide) (fun c_2 => ?_) (fun c_2 => ?_)
    ·
      refine S_iload_n X dX12_highest_19 rfl rfl ?_
      refine S_iconst X dX12_highest_20 ?_
      refine S_icmp_ne (tgt := 28) X dX12_highest_21 (by decide) (by omega) (by decide) (fun c_3 => ?_) (fun c_3 => ?_)
      ·
        refine S_iload_n X dX12_highest_28 rfl rfl ?_
        refine S_iconst X dX12_highest_29 ?_
        refine S_icmp_ne (tgt := 37) X dX12_highest_30 (by decide) (by omega) (by decide) (fun c_4 => ?_) (fun c_4 => ?_)
        ·
          refine S_bipush X dX12_highest_37 rfl ?_
          exact S_iret X (nle rfl) (nle rfl) dX12_highest_39 (hPo _ _ (⟨by unfold topOf; (repeat' split) <;> omega, rfl⟩))
        ·
          refine S_iconst X dX12_highest_33 ?_
          refine S_goto (tgt := 39) X dX12_highest_34 (by decide) ?_
          exact S_iret X (nle rfl) (nle rfl) dX12_highest_39 (hPo _ _ (⟨by unfold topOf; (repeat' split) <;> omega, rfl⟩))
      ·
        refine S_iconst X dX12_highest_24 ?_
        refine S_goto (tgt := 39) X dX12_highest_25 (by decide) ?_
        exact S_iret X (nle rfl) (nle rfl) dX12_highest_39 (hPo _ _ (⟨by unfold topOf; (repeat' split) <;> omega, rfl⟩))
    ·
      refine S_bipush X dX12_highest_14 rfl ?_
      refine S_goto (tgt := 39) X dX12_highest_16 (by decide) ?_
      exact S_iret X (nle rfl) (nle rfl) dX12_highest_39 (hPo _ _ (⟨by unfold topOf; (repeat' split) <;> omega, rfl⟩))
  ·
    refine S_bipush X dX12_highest_4 rfl ?_
    refine S_goto (tgt := 39) X dX12_highest_6 (by decide) ?_
    exact S_iret X (nle rfl) (nle rfl) dX12_highest_39 (hPo _ _ (⟨by unfold topOf; (repeat' split) <;> omega, rfl⟩))
end pt_26ref6
/- 27.ref7.lean.txt -/
section pt_27ref7
def nb (s : Int) : Int := [0, 1, 1, 2, 1, 2, 2, 3, 1, 2, 2, 3, 2, 3, 3, 4, 1, 2, 2, 3, 2, 3, 3, 4, 2, 3, 3, 4, 3, 4, 4, 5].getD s.toNat 9
theorem sb_all : ∀ s : Fin 32, ∀ k : Fin 5, zAnd (zShr (s.val : Int) (k.val : Int)) 1 = 0 → 0 ≤ zOr (s.val : Int) (zShl 1 (k.val : Int)) ∧ zOr (s.val : Int) (zShl 1 (k.val : Int)) < 32 ∧ nb (zOr (s.val : Int) (zShl 1 (k.val : Int))) = nb (s.val : Int) + 1 ∧ nb (zOr (s.val : Int) (zShl 1 (k.val : Int))) ≤ 5 ∧ 0 ≤ nb (s.val : Int) := by decide +kernel
theorem sb {s k : Int} (hs : 0 ≤ s ∧ s < 32) (hk : 0 ≤ k ∧ k ≤ 4) (h : zAnd (zShr s k) 1 = 0) : 0 ≤ zOr s (zShl 1 k) ∧ zOr s (zShl 1 k) < 32 ∧ nb (zOr s (zShl 1 k)) = nb s + 1 ∧ nb (zOr s (zShl 1 k)) ≤ 5 ∧ 0 ≤ nb s := by
  have e1 : ((s.toNat : Nat) : Int) = s := by omega
  have e2 : ((k.toNat : Nat) : Int) = k := by omega
  have := sb_all ⟨s.toNat, by omega⟩ ⟨k.toNat, by omega⟩
  simp only [e1, e2] at this
  exact this h
theorem topOf_in (k : Int) : 3 ≤ topOf k ∧ topOf k ≤ 99 := by
  unfold topOf
  repeat' split
  all_goals omega
theorem gTL_n {k : Int} (h : 0 ≤ k ∧ k ≤ 4) (h0 : ¬ k = 0) : gTL k = 0 := by
  rcases (by omega : k = 1 ∨ k = 2 ∨ k = 3 ∨ k = 4) with rfl | rfl | rfl | rfl <;> rfl
theorem gTM_t {k : Int} (h : 0 ≤ k ∧ k ≤ 4) : gTM k = topOf k := by
  rcases (by omega : k = 0 ∨ k = 1 ∨ k = 2 ∨ k = 3 ∨ k = 4) with rfl | rfl | rfl | rfl | rfl <;> rfl
/-- five numbers of a flat row -/
def rowW (R : Int → Int) (p : Int) (r : Int → Int) : Int → Int := fun x => if 5 * p ≤ x ∧ x < 5 * p + 5 then r (x - 5 * p) else R x
theorem rowW_put {R : Int → Int} {p k v : Int} {r : Int → Int} (h : 0 ≤ k ∧ k ≤ 4) : uZ (rowW R p r) (5 * p + k) v = rowW R p (uZ r k v) := by
  funext x
  unfold uZ rowW
  by_cases e : x = 5 * p + k
  · rw [if_pos e, if_pos (by omega)]; show v = if x - 5 * p = k then v else r (x - 5 * p); rw [if_pos (by omega)]
  · rw [if_neg e]
    by_cases e2 : 5 * p ≤ x ∧ x < 5 * p + 5
    · rw [if_pos e2, if_pos e2]; show r (x - 5 * p) = if x - 5 * p = k then v else r (x - 5 * p); rw [if_neg (by omega)]
    · rw [if_neg e2, if_neg e2]
theorem rowW_0 {R : Int → Int} {p : Int} : uZ (uZ (uZ (uZ (uZ R (5 * p + 0) 60) (5 * p + 1) 0) (5 * p + 2) 0) (5 * p + 3) (-1)) (5 * p + 4) 5 = rowW R p row0 := by
  funext x
  unfold uZ rowW row0
  repeat' split
  all_goals omega
theorem it_go {T : Int → Int} {n a b k v lo hi : Int} {f : Nat} {seen : Int} {r : Int → Int} (hk : k = itemOf (ch T n (sk T n a))) (h0 : 0 ≤ k) (hs : zAnd (zShr seen k) 1 = 0) (hl : gTL k = lo) (hh : gTM k = hi) (h2 : pNum T n 2 lo hi (sk T n a + 1) = .inr (b, v)) : pIt T n true (f + 1) seen a r = pIt T n true f (zOr seen (zShl 1 k)) b (uZ r k v) := by
  subst hk hl hh
  rw [pIt, if_neg (by omega), if_neg (by simp [hs]), h2]
theorem it_nf {T : Int → Int} {n a e k lo hi : Int} {f : Nat} {seen : Int} {r : Int → Int} (hk : k = itemOf (ch T n (sk T n a))) (h0 : 0 ≤ k) (hs : zAnd (zShr seen k) 1 = 0) (hl : gTL k = lo) (hh : gTM k = hi) (h2 : pNum T n 2 lo hi (sk T n a + 1) = .inl e) : pIt T n true (f + 1) seen a r = .inl e := by
  subst hk hl hh
  rw [pIt, if_neg (by omega), if_neg (by simp [hs]), h2]
theorem it_du {T : Int → Int} {n a k : Int} {f : Nat} {seen : Int} {r : Int → Int} (hf : 1 ≤ f) (hk : k = itemOf (ch T n (sk T n a))) (h0 : ¬ k = -1) (hs : ¬ zAnd (zShr seen k) 1 = 0) : pIt T n true f seen a r = .inl (sk T n a) := by
  obtain ⟨g, rfl⟩ : ∃ g, f = g + 1 := ⟨f - 1, by omega⟩
  subst hk
  rw [pIt, if_neg h0, if_pos (Or.inr hs)]
theorem it_st {T : Int → Int} {n a k : Int} {f : Nat} {seen : Int} {r : Int → Int} (hf : 1 ≤ f) (hk : k = itemOf (ch T n (sk T n a))) (h0 : k = -1) : pIt T n true f seen a r = .inr (sk T n a, r) := by
  obtain ⟨g, rfl⟩ : ∃ g, f = g + 1 := ⟨f - 1, by omega⟩
  subst hk
  rw [pIt, if_pos h0]
theorem item_m {T : Int → Int} {n a : Int} (h : (chM T n a = ch T n a ∧ 1 ≤ ch T n a ∧ ch T n a ≤ 255 ∧ a < n) ∨ (chM T n a = -1 ∧ ch T n a = 0 ∧ a = n)) : itemOf (chM T n a) = itemOf (ch T n a) := by
  rcases h with q | q
  · rw [q.1]
  · rw [q.1, q.2.1]; rfl
theorem item_lt {T : Int → Int} {n a : Int} (h : (chM T n a = ch T n a ∧ 1 ≤ ch T n a ∧ ch T n a ≤ 255 ∧ a < n) ∨ (chM T n a = -1 ∧ ch T n a = 0 ∧ a = n)) (h2 : ¬ itemOf (chM T n a) = -1) : a < n := by
  rcases h with q | q
  · exact q.2.2.2
  · exact absurd (by rw [q.1]; rfl) h2
set_option maxHeartbeats 4000000 in
set_option maxRecDepth 100000 in
theorem kX12_playerText (l : Launch) (h0 : Nat) (hT : Nat) (f : Nat → AV) (T : Int → Int) (n : Int) (a : Int) (dp : Int) (tx : Int) (pl : Int) (hR : Nat) (R1 : Int → Int) (hf0 : f 1 = rv hT) (hf1 : f 2 = iv n) (hf2 : f 17 = rv hR) (okT : okT T n) (ha : 0 ≤ a ∧ a < n) (hpl : 0 ≤ pl ∧ pl ≤ 6) : AMv l yX12_playerText cX12_playerText 4 3 0 0 [rv h0] [(h0, ob 11 (uF (uF (uF (uF (uF f 18 (iv pl)) 14 (iv tx)) 3 (iv a)) 4 (iv (-1))) 5 (iv dp))), (hT, ar 160 T), (hR, ar 30 R1)] (fun u => (u = [(h0, ob 11 (uF (uF (uF (uF (uF f 18 (iv pl)) 14 (iv tx)) 3 (iv a)) 4 (iv a)) 5 (iv dp))), (hT, ar 160 T), (hR, ar 30 R1)] ∧ pl = 6) ∨ (∃ a2 : Int, ∃ fl : Int, ∃ r : Int → Int, u = [(h0, ob 11 (uF (uF (uF (uF (uF f 18 (iv (pl + 1))) 14 (iv tx)) 3 (iv a2)) 4 (iv fl)) 5 (iv dp))), (hT, ar 160 T), (hR, ar 30 (rowW R1 pl r))] ∧ ¬ pl = 6 ∧ pIt T n true 6 0 (a + 1) row0 = .inl fl ∧ (0 ≤ fl ∧ fl ≤ n ∧ 0 ≤ a2 ∧ a2 ≤ n)) ∨ (∃ a2 : Int, ∃ r : Int → Int, u = [(h0, ob 11 (uF (uF (uF (uF (uF f 18 (iv (pl + 1))) 14 (iv tx)) 3 (iv (sk T n a2))) 4 (iv (-1))) 5 (iv dp))), (hT, ar 160 T), (hR, ar 30 (rowW R1 pl r))] ∧ ¬ pl = 6 ∧ pIt T n true 6 0 (a + 1) row0 = .inl (sk T n a2) ∧ (a < a2 ∧ a2 ≤ n) ∧ ¬ itemOf (ch T n (sk T n a2)) = -1 ∧ sk T n (sk T n a2) = sk T n a2) ∨ (∃ a2 : Int, ∃ r : Int → Int, u = [(h0, ob 11 (uF (uF (uF (uF (uF f 18 (iv (pl + 1))) 14 (iv tx)) 3 (iv (sk T n a2))) 4 (iv (-1))) 5 (iv dp))), (hT, ar 160 T), (hR, ar 30 (rowW R1 pl r))] ∧ ¬ pl = 6 ∧ pIt T n true 6 0 (a + 1) row0 = .inr (sk T n a2, r) ∧ (a < a2 ∧ a2 ≤ n))) := by
  refine AMv.of2 rfl (nle rfl) ?_
  intro D G A p e s m args below meth c Po hPo hnm X
  obtain ⟨hn0, hn1, hT2⟩ := id okT
  refine S_aload_n X dX12_playerText_0 rfl rfl ?_
  refine S_get (v := iv pl) X fgX12_220_11 0 rfl rfl dX12_playerText_1 ?_
  refine S_bipush X dX12_playerText_4 rfl ?_
  refine S_icmp_ne (tgt := 14) X dX12_playerText_6 (by decide) (by omega) (by decide) (fun c_1 => ?_) (fun c_1 => ?_)
  ·
    refine S_aload_n X dX12_playerText_14 rfl rfl ?_
    refine S_dup X dX12_playerText_15 ?_
    refine S_get (v := iv a) X fgX12_111_11 0 rfl rfl dX12_playerText_16 ?_
    refine S_iconst X dX12_playerText_19 ?_
    refine S_iadd X dX12_playerText_20 ?_
    refine S_put X fpX12_111_11 0 rfl FT_i dX12_playerText_21 ?_
    refine S_w (ws' := [(h0, ob 11 (uF (uF (uF (uF (uF f 18 (iv pl)) 14 (iv tx)) 3 (iv (a + 1))) 4 (iv (-1))) 5 (iv dp))), (hT, ar 160 T), (hR, ar 30 R1)]) (by simp only [List.set]; rw [uF_mv (j := 5) (k := 3) (by decide), uF_mv (j := 4) (k := 3) (by decide), uF_same (k := 3)]) ?_
    refine S_iconst X dX12_playerText_24 ?_
    refine S_aload_n X dX12_playerText_25 rfl rfl ?_
    refine S_get (v := iv pl) X fgX12_220_11 0 rfl rfl dX12_playerText_26 ?_
    refine S_imul X dX12_playerText_29 ?_
    refine S_istore_n X dX12_playerText_30 rfl (nle rfl) ?_
    refine S_iconst X dX12_playerText_31 ?_
    refine S_istore_n X dX12_playerText_32 rfl (nle rfl) ?_
    refine S_iload_n X dX12_playerText_33 rfl rfl ?_
    refine S_iconst X dX12_playerText_34 ?_
    refine S_icmp_ge (tgt := 80) X dX12_playerText_35 (by decide) (by decide) (by decide) (fun h9 => absurd h9 (by decide)) (fun _ => ?_)
    refine S_aload_n X dX12_playerText_38 rfl rfl ?_
    refine S_get X fgX12_40_11 0 rfl hf2 dX12_playerText_39 ?_
    refine S_iload_n X dX12_playerText_42 rfl rfl ?_
    refine S_iload_n X dX12_playerText_43 rfl rfl ?_
    refine S_iadd X dX12_playerText_44 ?_
    refine S_iload_n X dX12_playerText_45 rfl rfl ?_
    refine S_if_ne (tgt := 54) X dX12_playerText_46 (by decide) (by decide) (fun h9 => absurd h9 (by decide)) (fun _ => ?_)
    refine S_bipush X dX12_playerText_49 rfl ?_
    refine S_goto (tgt := 73) X dX12_playerText_51 (by decide) ?_
    refine S_iast X 2 rfl (by omega) (by omega) (nle rfl) dX12_playerText_73 ?_
    refine S_w (ws' := [(h0, ob 11 (uF (uF (uF (uF (uF f 18 (iv pl)) 14 (iv tx)) 3 (iv (a + 1))) 4 (iv (-1))) 5 (iv dp))), (hT, ar 160 T), (hR, ar 30 (uZ R1 ((5 * pl) + 0) 60))]) rfl ?_
    refine S_iincK (w := 1) X dX12_playerText_74 (nle rfl) rfl (by decide) ?_
    refine S_goto (tgt := 33) X dX12_playerText_77 (by decide) ?_
    refine S_iload_n X dX12_playerText_33 rfl rfl ?_
    refine S_iconst X dX12_playerText_34 ?_
    refine S_icmp_ge (tgt := 80) X dX12_playerText_35 (by decide) (by decide) (by decide) (fun h9 => absurd h9 (by decide)) (fun _ => ?_)
    refine S_aload_n X dX12_playerText_38 rfl rfl ?_
    refine S_get X fgX12_40_11 0 rfl hf2 dX12_playerText_39 ?_
    refine S_iload_n X dX12_playerText_42 rfl rfl ?_
    refine S_iload_n X dX12_playerText_43 rfl rfl ?_
    refine S_iadd X dX12_playerText_44 ?_
    refine S_iload_n X dX12_playerText_45 rfl rfl ?_
    refine S_if_ne (tgt := 54) X dX12_playerText_46 (by decide) (by decide) (fun _ => ?_) (fun h9 => absurd h9 (by decide))
    refine S_iload_n X dX12_playerText_54 rfl rfl ?_
    refine S_iconst X dX12_playerText_55 ?_
    refine S_icmp_ne (tgt := 63) X dX12_playerText_56 (by decide) (by decide) (by decide) (fun _ => ?_) (fun h9 => absurd h9 (by decide))
    refine S_iload_n X dX12_playerText_63 rfl rfl ?_
    refine S_iconst X dX12_playerText_64 ?_
    refine S_icmp_ne (tgt := 72) X dX12_playerText_65 (by decide) (by decide) (by decide) (fun _ => ?_) (fun h9 => absurd h9 (by decide))
    refine S_iconst X dX12_playerText_72 ?_
    refine S_iast X 2 rfl (by omega) (by omega) (nle rfl) dX12_playerText_73 ?_
    refine S_w (ws' := [(h0, ob 11 (uF (uF (uF (uF (uF f 18 (iv pl)) 14 (iv tx)) 3 (iv (a + 1))) 4 (iv (-1))) 5 (iv dp))), (hT, ar 160 T), (hR, ar 30 (uZ (uZ R1 ((5 * pl) + 0) 60) ((5 * pl) + 1) 0))]) rfl ?_
    refine S_iincK (w := 2) X dX12_playerText_74 (nle rfl) rfl (by decide) ?_
    refine S_goto (tgt := 33) X dX12_playerText_77 (by decide) ?_
    refine S_iload_n X dX12_playerText_33 rfl rfl ?_
    refine S_iconst X dX12_playerText_34 ?_
    refine S_icmp_ge (tgt := 80) X dX12_playerText_35 (by decide) (by decide) (by decide) (fun h9 => absurd h9 (by decide)) (fun _ => ?_)
    refine S_aload_n X dX12_playerText_38 rfl rfl ?_
    refine S_get X fgX12_40_11 0 rfl hf2 dX12_playerText_39 ?_
    refine S_iload_n X dX12_playerText_42 rfl rfl ?_
    refine S_iload_n X dX12_playerText_43 rfl rfl ?_
    refine S_iadd X dX12_playerText_44 ?_
    refine S_iload_n X dX12_playerText_45 rfl rfl ?_
    refine S_if_ne (tgt := 54) X dX12_playerText_46 (by decide) (by decide) (fun _ => ?_) (fun h9 => absurd h9 (by decide))
    refine S_iload_n X dX12_playerText_54 rfl rfl ?_
    refine S_iconst X dX12_playerText_55 ?_
    refine S_icmp_ne (tgt := 63) X dX12_playerText_56 (by decide) (by decide) (by decide) (fun _ => ?_) (fun h9 => absurd h9 (by decide))
    refine S_iload_n X dX12_playerText_63 rfl rfl ?_
    refine S_iconst X dX12_playerText_64 ?_
    refine S_icmp_ne (tgt := 72) X dX12_playerText_65 (by decide) (by decide) (by decide) (fun _ => ?_) (fun h9 => absurd h9 (by decide))
    refine S_iconst X dX12_playerText_72 ?_
    refine S_iast X 2 rfl (by omega) (by omega) (nle rfl) dX12_playerText_73 ?_
    refine S_w (ws' := [(h0, ob 11 (uF (uF (uF (uF (uF f 18 (iv pl)) 14 (iv tx)) 3 (iv (a + 1))) 4 (iv (-1))) 5 (iv dp))), (hT, ar 160 T), (hR, ar 30 (uZ (uZ (uZ R1 ((5 * pl) + 0) 60) ((5 * pl) + 1) 0) ((5 * pl) + 2) 0))]) rfl ?_
    refine S_iincK (w := 3) X dX12_playerText_74 (nle rfl) rfl (by decide) ?_
    refine S_goto (tgt := 33) X dX12_playerText_77 (by decide) ?_
    refine S_iload_n X dX12_playerText_33 rfl rfl ?_
    refine S_iconst X dX12_playerText_34 ?_
    refine S_icmp_ge (tgt := 80) X dX12_playerText_35 (by decide) (by decide) (by decide) (fun h9 => absurd h9 (by decide)) (fun _ => ?_)
    refine S_aload_n X dX12_playerText_38 rfl rfl ?_
    refine S_get X fgX12_40_11 0 rfl hf2 dX12_playerText_39 ?_
    refine S_iload_n X dX12_playerText_42 rfl rfl ?_
    refine S_iload_n X dX12_playerText_43 rfl rfl ?_
    refine S_iadd X dX12_playerText_44 ?_
    refine S_iload_n X dX12_playerText_45 rfl rfl ?_
    refine S_if_ne (tgt := 54) X dX12_playerText_46 (by decide) (by decide) (fun _ => ?_) (fun h9 => absurd h9 (by decide))
    refine S_iload_n X dX12_playerText_54 rfl rfl ?_
    refine S_iconst X dX12_playerText_55 ?_
    refine S_icmp_ne (tgt := 63) X dX12_playerText_56 (by decide) (by decide) (by decide) (fun h9 => absurd h9 (by decide)) (fun _ => ?_)
    refine S_iconst X dX12_playerText_59 ?_
    refine S_goto (tgt := 73) X dX12_playerText_60 (by decide) ?_
    refine S_iast X 2 rfl (by omega) (by omega) (nle rfl) dX12_playerText_73 ?_
    refine S_w (ws' := [(h0, ob 11 (uF (uF (uF (uF (uF f 18 (iv pl)) 14 (iv tx)) 3 (iv (a + 1))) 4 (iv (-1))) 5 (iv dp))), (hT, ar 160 T), (hR, ar 30 (uZ (uZ (uZ (uZ R1 ((5 * pl) + 0) 60) ((5 * pl) + 1) 0) ((5 * pl) + 2) 0) ((5 * pl) + 3) (-1)))]) rfl ?_
    refine S_iincK (w := 4) X dX12_playerText_74 (nle rfl) rfl (by decide) ?_
    refine S_goto (tgt := 33) X dX12_playerText_77 (by decide) ?_
    refine S_iload_n X dX12_playerText_33 rfl rfl ?_
    refine S_iconst X dX12_playerText_34 ?_
    refine S_icmp_ge (tgt := 80) X dX12_playerText_35 (by decide) (by decide) (by decide) (fun h9 => absurd h9 (by decide)) (fun _ => ?_)
    refine S_aload_n X dX12_playerText_38 rfl rfl ?_
    refine S_get X fgX12_40_11 0 rfl hf2 dX12_playerText_39 ?_
    refine S_iload_n X dX12_playerText_42 rfl rfl ?_
    refine S_iload_n X dX12_playerText_43 rfl rfl ?_
    refine S_iadd X dX12_playerText_44 ?_
    refine S_iload_n X dX12_playerText_45 rfl rfl ?_
    refine S_if_ne (tgt := 54) X dX12_playerText_46 (by decide) (by decide) (fun _ => ?_) (fun h9 => absurd h9 (by decide))
    refine S_iload_n X dX12_playerText_54 rfl rfl ?_
    refine S_iconst X dX12_playerText_55 ?_
    refine S_icmp_ne (tgt := 63) X dX12_playerText_56 (by decide) (by decide) (by decide) (fun _ => ?_) (fun h9 => absurd h9 (by decide))
    refine S_iload_n X dX12_playerText_63 rfl rfl ?_
    refine S_iconst X dX12_playerText_64 ?_
    refine S_icmp_ne (tgt := 72) X dX12_playerText_65 (by decide) (by decide) (by decide) (fun h9 => absurd h9 (by decide)) (fun _ => ?_)
    refine S_iconst X dX12_playerText_68 ?_
    refine S_goto (tgt := 73) X dX12_playerText_69 (by decide) ?_
    refine S_iast X 2 rfl (by omega) (by omega) (nle rfl) dX12_playerText_73 ?_
    refine S_w (ws' := [(h0, ob 11 (uF (uF (uF (uF (uF f 18 (iv pl)) 14 (iv tx)) 3 (iv (a + 1))) 4 (iv (-1))) 5 (iv dp))), (hT, ar 160 T), (hR, ar 30 (uZ (uZ (uZ (uZ (uZ R1 ((5 * pl) + 0) 60) ((5 * pl) + 1) 0) ((5 * pl) + 2) 0) ((5 * pl) + 3) (-1)) ((5 * pl) + 4) 5))]) rfl ?_
    refine S_iincK (w := 5) X dX12_playerText_74 (nle rfl) rfl (by decide) ?_
    refine S_goto (tgt := 33) X dX12_playerText_77 (by decide) ?_
    refine S_iload_n X dX12_playerText_33 rfl rfl ?_
    refine S_iconst X dX12_playerText_34 ?_
    refine S_icmp_ge (tgt := 80) X dX12_playerText_35 (by decide) (by decide) (by decide) (fun _ => ?_) (fun h9 => absurd h9 (by decide))
    refine S_w (ws' := [(h0, ob 11 (uF (uF (uF (uF (uF f 18 (iv pl)) 14 (iv tx)) 3 (iv (a + 1))) 4 (iv (-1))) 5 (iv dp))), (hT, ar 160 T), (hR, ar 30 (rowW R1 pl row0))]) (by rw [← rowW_0]) ?_
    refine S_iconst X dX12_playerText_80 ?_
    refine S_istore_n X dX12_playerText_81 rfl (nle rfl) ?_
    refine S_aload_n X dX12_playerText_82 rfl rfl ?_
    refine S_calli X (kX12_look l h0 hT (uF (uF f 18 (iv pl)) 14 (iv tx)) T n (a + 1) (-1) dp hf0 hf1 (by omega) (by omega)) (is := [0, 1]) rfl (run_V X lkX12_130 0 rfl rfl (is := [0, 1]) (avs := []) (rest := []) rfl rfl (nle rfl) ⟨nle rfl, nle rfl⟩ ⟨nle rfl, nle rfl⟩ dX12_playerText_83 (by decide) rfl) (fun z_22 u_20 hp_21 => ?_)
    obtain ⟨hz_23, hu_24⟩ := hp_21
    subst hz_23
    subst hu_24
    refine ⟨rfl, ?_⟩
    refine S_w (ws' := [(h0, ob 11 (uF (uF (uF (uF (uF f 18 (iv pl)) 14 (iv tx)) 3 (iv (sk T n (a + 1)))) 4 (iv (-1))) 5 (iv dp))), (hT, ar 160 T), (hR, ar 30 (rowW R1 pl row0))]) rfl ?_
    have hsk_25 := sk_in (T := T) (n := n) (a := a + 1) (by omega)
    have hcm_25 := chM_or okT (a := sk T n (a + 1)) (by omega) (by omega)
    have him_25 := item_m hcm_25
    have hit_25 := itemOf_in (ch T n (sk T n (a + 1)))
    refine S_calli X (kX12_itemOf l (chM T n (sk T n (a + 1))) (by omega)) (is := []) rfl (run_S X lkX12_223 (is := []) (avs := [iv (chM T n (sk T n (a + 1)))]) (rest := []) rfl rfl (nle rfl) ⟨nle rfl, nle rfl⟩ ⟨nle rfl, nle rfl⟩ dX12_playerText_86 (by decide) rfl) (fun z_28 u_26 hp_27 => ?_)
    obtain ⟨hz_29, hu_30⟩ := hp_27
    subst hz_29
    subst hu_30
    refine ⟨rfl, ?_⟩
    refine S_w (ws' := [(h0, ob 11 (uF (uF (uF (uF (uF f 18 (iv pl)) 14 (iv tx)) 3 (iv (sk T n (a + 1)))) 4 (iv (-1))) 5 (iv dp))), (hT, ar 160 T), (hR, ar 30 (rowW R1 pl row0))]) rfl ?_
    refine S_istore_n X dX12_playerText_89 rfl (nle rfl) ?_
    refine S_aload_n X dX12_playerText_90 rfl rfl ?_
    refine S_get (v := iv (-1)) X fgX12_118_11 0 rfl rfl dX12_playerText_91 ?_
    refine S_iconst X dX12_playerText_94 ?_
    refine S_icmp_ne (tgt := 175) X dX12_playerText_95 (by decide) (by decide) (by decide) (fun h9 => absurd h9 (by decide)) (fun _ => ?_)
    refine S_iload_n X dX12_playerText_98 rfl rfl ?_
    refine S_iconst X dX12_playerText_99 ?_
    refine S_icmp_eq (tgt := 175) X dX12_playerText_100 (by decide) (by omega) (by decide) (fun c_32 => ?_) (fun c_32 => ?_)
    ·
      refine S_aload_n X dX12_playerText_175 rfl rfl ?_
      refine S_dup X dX12_playerText_176 ?_
      refine S_get (v := iv pl) X fgX12_220_11 0 rfl rfl dX12_playerText_177 ?_
      refine S_iconst X dX12_playerText_180 ?_
      refine S_iadd X dX12_playerText_181 ?_
      refine S_put X fpX12_220_11 0 rfl FT_i dX12_playerText_182 ?_
      refine S_w (ws' := [(h0, ob 11 (uF (uF (uF (uF (uF f 18 (iv (pl + 1))) 14 (iv tx)) 3 (iv (sk T n (a + 1)))) 4 (iv (-1))) 5 (iv dp))), (hT, ar 160 T), (hR, ar 30 (rowW R1 pl row0))]) (by simp only [List.set]; rw [uF_mv (j := 5) (k := 18) (by decide), uF_mv (j := 4) (k := 18) (by decide), uF_mv (j := 3) (k := 18) (by decide), uF_mv (j := 14) (k := 18) (by decide), uF_same (k := 18)]) ?_
      exact S_vret X (nle rfl) (nle rfl) dX12_playerText_185 (hPo _ (Or.inr (Or.inr (Or.inr ⟨_, _, rfl, by omega, Eq.trans (rfl : pIt T n true 6 0 (a + 1) row0 = pIt T n true 6 0 (a + 1) row0) (it_st (by omega) him_25 (by omega)), by omega⟩))))
    ·
      refine S_iload_n X dX12_playerText_103 rfl rfl ?_
      refine S_iload_n X dX12_playerText_104 rfl rfl ?_
      refine S_calli X (kX12_has l 0 (itemOf (chM T n (sk T n (a + 1)))) ) (is := []) rfl (run_S X lkX12_226 (is := []) (avs := [iv 0, iv (itemOf (chM T n (sk T n (a + 1))))]) (rest := []) rfl rfl (nle rfl) ⟨nle rfl, nle rfl⟩ ⟨nle rfl, nle rfl⟩ dX12_playerText_105 (by decide) rfl) (fun z_35 u_33 hp_34 => ?_)
      rcases hp_34 with ⟨hz_36, hu_37, hq_38⟩ | ⟨hz_39, hu_40, hq_41⟩
      ·
        subst hz_36
        subst hu_37
        refine ⟨rfl, ?_⟩
        refine S_w (ws' := [(h0, ob 11 (uF (uF (uF (uF (uF f 18 (iv pl)) 14 (iv tx)) 3 (iv (sk T n (a + 1)))) 4 (iv (-1))) 5 (iv dp))), (hT, ar 160 T), (hR, ar 30 (rowW R1 pl row0))]) rfl ?_
        refine S_if_ne (tgt := 175) X dX12_playerText_108 (by decide) (by decide) (fun h9 => absurd h9 (by decide)) (fun _ => ?_)
        have lp111_3 : ∀ (N : Nat) (a1 : Int) (k1 : Int) (seen : Int) (r : Int → Int) (L : Nat → Option AV), a < a1 ∧ a1 ≤ n → sk T n a1 < n → k1 = itemOf (ch T n (sk T n a1)) → 0 ≤ k1 ∧ k1 ≤ 4 → 0 ≤ seen ∧ seen < 32 ∧ 0 ≤ nb seen ∧ nb seen ≤ 5 → zAnd (zShr seen k1) 1 = 0 → (∃ f : Nat, 6 - nb seen ≤ f ∧ pIt T n true f seen a1 r = pIt T n true 6 0 (a + 1) row0) → L 0 = some (rv h0) → L 1 = some (iv (5 * pl)) → L 2 = some (iv seen) → L 3 = some (iv k1) → 161 - a1 < (N : Int) → S_ p l e (rmD 3 0 0) s m args below meth c (MQ below (QcV D G A Po) args s 0 0 A) D G A 4 0 0 111 L [] [(h0, ob 11 (uF (uF (uF (uF (uF f 18 (iv pl)) 14 (iv tx)) 3 (iv (sk T n a1))) 4 (iv (-1))) 5 (iv dp))), (hT, ar 160 T), (hR, ar 30 (rowW R1 pl r))] := by
          intro N
          induction N with
          | zero =>
            intro a1 k1 seen r L111 hi hlt hk1 hk2 hsn hse hkl hL111_0 hL111_1 hL111_2 hL111_3 hN111
            exfalso; omega
          | succ N ih111 =>
            intro a1 k1 seen r L111 hi hlt hk1 hk2 hsn hse hkl hL111_0 hL111_1 hL111_2 hL111_3 hN111
            obtain ⟨f9, hf9, hk9⟩ := hkl
            obtain ⟨g9, rfl⟩ : ∃ g, f9 = g + 1 := ⟨f9 - 1, by omega⟩
            have hsk1 := sk_in (T := T) (n := n) (a := a1) (by omega)
            have htp := topOf_in k1
            have hsb := sb ⟨hsn.1, hsn.2.1⟩ hk2 hse
            refine S_iload_n X dX12_playerText_111 rfl hL111_2 ?_
            refine S_iconst X dX12_playerText_112 ?_
            refine S_iload_n X dX12_playerText_113 rfl hL111_3 ?_
            refine S_ishl X dX12_playerText_114 ?_
            refine S_ior X dX12_playerText_115 ?_
            refine S_istore_n X dX12_playerText_116 rfl (nle rfl) ?_
            refine S_aload_n X dX12_playerText_117 rfl hL111_0 ?_
            refine S_dup X dX12_playerText_118 ?_
            refine S_get (v := iv (sk T n a1)) X fgX12_111_11 0 rfl rfl dX12_playerText_119 ?_
            refine S_iconst X dX12_playerText_122 ?_
            refine S_iadd X dX12_playerText_123 ?_
            refine S_put X fpX12_111_11 0 rfl FT_i dX12_playerText_124 ?_
            refine S_w (ws' := [(h0, ob 11 (uF (uF (uF (uF (uF f 18 (iv pl)) 14 (iv tx)) 3 (iv ((sk T n a1) + 1))) 4 (iv (-1))) 5 (iv dp))), (hT, ar 160 T), (hR, ar 30 (rowW R1 pl r))]) (by simp only [List.set]; rw [uF_mv (j := 5) (k := 3) (by decide), uF_mv (j := 4) (k := 3) (by decide), uF_same (k := 3)]) ?_
            refine S_aload_n X dX12_playerText_127 rfl hL111_0 ?_
            refine S_get X fgX12_40_11 0 rfl hf2 dX12_playerText_128 ?_
            refine S_iload_n X dX12_playerText_131 rfl hL111_1 ?_
            refine S_iload_n X dX12_playerText_132 rfl hL111_3 ?_
            refine S_iadd X dX12_playerText_133 ?_
            refine S_aload_n X dX12_playerText_134 rfl hL111_0 ?_
            refine S_iload_n X dX12_playerText_135 rfl hL111_3 ?_
            refine S_if_ne (tgt := 143) X dX12_playerText_136 (by decide) (by omega) (fun c_43 => ?_) (fun c_43 => ?_)
            ·
              refine S_iconst X dX12_playerText_143 ?_
              refine S_iload_n X dX12_playerText_144 rfl hL111_3 ?_
              refine S_calli X (kX12_highest l k1 (by omega)) (is := []) rfl (run_S X lkX12_230 (is := []) (avs := [iv k1]) (rest := [iv 0, rv h0, iv ((5 * pl) + k1), rv hR]) rfl rfl (nle rfl) ⟨nle rfl, nle rfl⟩ ⟨nle rfl, nle rfl⟩ dX12_playerText_145 (by decide) rfl) (fun z_46 u_44 hp_45 => ?_)
              obtain ⟨hz_47, hu_48⟩ := hp_45
              subst hz_47
              subst hu_48
              refine ⟨rfl, ?_⟩
              refine S_w (ws' := [(h0, ob 11 (uF (uF (uF (uF (uF f 18 (iv pl)) 14 (iv tx)) 3 (iv ((sk T n a1) + 1))) 4 (iv (-1))) 5 (iv dp))), (hT, ar 160 T), (hR, ar 30 (rowW R1 pl r))]) rfl ?_
              refine S_calli X (kX12_number l h0 hT (uF (uF f 18 (iv pl)) 14 (iv tx)) T n ((sk T n a1) + 1) (-1) dp 0 (topOf k1) hf0 hf1 (by omega) (by omega) (by omega) (by omega)) (is := [0, 1]) rfl (run_V X lkX12_233 0 rfl rfl (is := [0, 1]) (avs := [iv 0, iv (topOf k1)]) (rest := [iv ((5 * pl) + k1), rv hR]) rfl rfl (nle rfl) ⟨nle rfl, nle rfl⟩ ⟨nle rfl, nle rfl⟩ dX12_playerText_148 (by decide) rfl) (fun z_51 u_49 hp_50 => ?_)
              rcases hp_50 with ⟨a2_52, fl_53, v_54, hz_55, hu_56, hq_57, hr_58⟩ | ⟨a2_59, v_60, hz_61, hu_62, hq_63⟩
              ·
                subst hz_55
                subst hu_56
                refine ⟨rfl, ?_⟩
                refine S_w (ws' := [(h0, ob 11 (uF (uF (uF (uF (uF f 18 (iv pl)) 14 (iv tx)) 3 (iv a2_52)) 4 (iv fl_53)) 5 (iv dp))), (hT, ar 160 T), (hR, ar 30 (rowW R1 pl r))]) rfl ?_
                refine S_iast X 2 rfl (by omega) (by omega) (nle rfl) dX12_playerText_151 ?_
                refine S_w (ws' := [(h0, ob 11 (uF (uF (uF (uF (uF f 18 (iv pl)) 14 (iv tx)) 3 (iv a2_52)) 4 (iv fl_53)) 5 (iv dp))), (hT, ar 160 T), (hR, ar 30 (uZ (rowW R1 pl r) ((5 * pl) + k1) z_51))]) rfl ?_
                refine S_w (ws' := [(h0, ob 11 (uF (uF (uF (uF (uF f 18 (iv pl)) 14 (iv tx)) 3 (iv a2_52)) 4 (iv fl_53)) 5 (iv dp))), (hT, ar 160 T), (hR, ar 30 (rowW R1 pl (uZ r k1 z_51)))]) (by rw [← rowW_put (by omega)]) ?_
                refine S_aload_n X dX12_playerText_152 rfl hL111_0 ?_
                refine S_get (v := iv fl_53) X fgX12_118_11 0 rfl rfl dX12_playerText_153 ?_
                refine S_iconst X dX12_playerText_156 ?_
                refine S_icmp_ne (tgt := 170) X dX12_playerText_157 (by decide) (by omega) (by decide) (fun c_65 => ?_) (fun c_65 => ?_)
                ·
                  refine S_iconst X dX12_playerText_170 ?_
                  refine S_istore_n X dX12_playerText_171 rfl (nle rfl) ?_
                  refine S_goto (tgt := 90) X dX12_playerText_172 (by decide) ?_
                  refine S_aload_n X dX12_playerText_90 rfl hL111_0 ?_
                  refine S_get (v := iv fl_53) X fgX12_118_11 0 rfl rfl dX12_playerText_91 ?_
                  refine S_iconst X dX12_playerText_94 ?_
                  refine S_icmp_ne (tgt := 175) X dX12_playerText_95 (by decide) (by omega) (by decide) (fun c_66 => ?_) (fun c_66 => by exfalso; omega)
                  refine S_aload_n X dX12_playerText_175 rfl hL111_0 ?_
                  refine S_dup X dX12_playerText_176 ?_
                  refine S_get (v := iv pl) X fgX12_220_11 0 rfl rfl dX12_playerText_177 ?_
                  refine S_iconst X dX12_playerText_180 ?_
                  refine S_iadd X dX12_playerText_181 ?_
                  refine S_put X fpX12_220_11 0 rfl FT_i dX12_playerText_182 ?_
                  refine S_w (ws' := [(h0, ob 11 (uF (uF (uF (uF (uF f 18 (iv (pl + 1))) 14 (iv tx)) 3 (iv a2_52)) 4 (iv fl_53)) 5 (iv dp))), (hT, ar 160 T), (hR, ar 30 (rowW R1 pl (uZ r k1 z_51)))]) (by simp only [List.set]; rw [uF_mv (j := 5) (k := 18) (by decide), uF_mv (j := 4) (k := 18) (by decide), uF_mv (j := 3) (k := 18) (by decide), uF_mv (j := 14) (k := 18) (by decide), uF_same (k := 18)]) ?_
                  exact S_vret X (nle rfl) (nle rfl) dX12_playerText_185 (hPo _ (Or.inr (Or.inl ⟨_, _, _, rfl, by omega, hk9.symm.trans (it_nf hk1 (by omega) hse (gTL_n (by omega) c_43) (gTM_t (by omega)) hq_57), by omega⟩)))
                ·
                  refine S_aload_n X dX12_playerText_160 rfl hL111_0 ?_
                  refine S_calli X (kX12_look l h0 hT (uF (uF f 18 (iv pl)) 14 (iv tx)) T n a2_52 fl_53 dp hf0 hf1 (by omega) (by omega)) (is := [0, 1]) rfl (run_V X lkX12_130 0 rfl rfl (is := [0, 1]) (avs := []) (rest := []) rfl rfl (nle rfl) ⟨nle rfl, nle rfl⟩ ⟨nle rfl, nle rfl⟩ dX12_playerText_161 (by decide) rfl) (fun z_69 u_67 hp_68 => ?_)
                  obtain ⟨hz_70, hu_71⟩ := hp_68
                  subst hz_70
                  subst hu_71
                  refine ⟨rfl, ?_⟩
                  refine S_w (ws' := [(h0, ob 11 (uF (uF (uF (uF (uF f 18 (iv pl)) 14 (iv tx)) 3 (iv (sk T n a2_52))) 4 (iv fl_53)) 5 (iv dp))), (hT, ar 160 T), (hR, ar 30 (rowW R1 pl (uZ r k1 z_51)))]) rfl ?_
                  have hsk_72 := sk_in (T := T) (n := n) (a := a + 1) (by omega)
                  have hcm_72 := chM_or okT (a := sk T n (a + 1)) (by omega) (by omega)
                  have him_72 := item_m hcm_72
                  have hit_72 := itemOf_in (ch T n (sk T n (a + 1)))
                  refine S_calli X (kX12_itemOf l (chM T n (sk T n a2_52)) (by omega)) (is := []) rfl (run_S X lkX12_223 (is := []) (avs := [iv (chM T n (sk T n a2_52))]) (rest := []) rfl rfl (nle rfl) ⟨nle rfl, nle rfl⟩ ⟨nle rfl, nle rfl⟩ dX12_playerText_164 (by decide) rfl) (fun z_75 u_73 hp_74 => ?_)
                  obtain ⟨hz_76, hu_77⟩ := hp_74
                  subst hz_76
                  subst hu_77
                  refine ⟨rfl, ?_⟩
                  refine S_w (ws' := [(h0, ob 11 (uF (uF (uF (uF (uF f 18 (iv pl)) 14 (iv tx)) 3 (iv (sk T n a2_52))) 4 (iv fl_53)) 5 (iv dp))), (hT, ar 160 T), (hR, ar 30 (rowW R1 pl (uZ r k1 z_51)))]) rfl ?_
                  refine S_goto (tgt := 171) X dX12_playerText_167 (by decide) ?_
                  refine S_istore_n X dX12_playerText_171 rfl (nle rfl) ?_
                  refine S_goto (tgt := 90) X dX12_playerText_172 (by decide) ?_
                  refine S_aload_n X dX12_playerText_90 rfl hL111_0 ?_
                  refine S_get (v := iv fl_53) X fgX12_118_11 0 rfl rfl dX12_playerText_91 ?_
                  refine S_iconst X dX12_playerText_94 ?_
                  refine S_icmp_ne (tgt := 175) X dX12_playerText_95 (by decide) (by omega) (by decide) (fun c_78 => ?_) (fun c_78 => by exfalso; omega)
                  refine S_aload_n X dX12_playerText_175 rfl hL111_0 ?_
                  refine S_dup X dX12_playerText_176 ?_
                  refine S_get (v := iv pl) X fgX12_220_11 0 rfl rfl dX12_playerText_177 ?_
                  refine S_iconst X dX12_playerText_180 ?_
                  refine S_iadd X dX12_playerText_181 ?_
                  refine S_put X fpX12_220_11 0 rfl FT_i dX12_playerText_182 ?_
                  refine S_w (ws' := [(h0, ob 11 (uF (uF (uF (uF (uF f 18 (iv (pl + 1))) 14 (iv tx)) 3 (iv (sk T n a2_52))) 4 (iv fl_53)) 5 (iv dp))), (hT, ar 160 T), (hR, ar 30 (rowW R1 pl (uZ r k1 z_51)))]) (by simp only [List.set]; rw [uF_mv (j := 5) (k := 18) (by decide), uF_mv (j := 4) (k := 18) (by decide), uF_mv (j := 3) (k := 18) (by decide), uF_mv (j := 14) (k := 18) (by decide), uF_same (k := 18)]) ?_
                  exact S_vret X (nle rfl) (nle rfl) dX12_playerText_185 (hPo _ (Or.inr (Or.inl ⟨_, _, _, rfl, by omega, hk9.symm.trans (it_nf hk1 (by omega) hse (gTL_n (by omega) c_43) (gTM_t (by omega)) hq_57), by omega⟩)))
              ·
                subst hz_61
                subst hu_62
                refine ⟨rfl, ?_⟩
                refine S_w (ws' := [(h0, ob 11 (uF (uF (uF (uF (uF f 18 (iv pl)) 14 (iv tx)) 3 (iv a2_59)) 4 (iv (-1))) 5 (iv dp))), (hT, ar 160 T), (hR, ar 30 (rowW R1 pl r))]) rfl ?_
                have hno_79 := (pNum_in (T := T) (n := n) (dg := 2) (a := sk T n a1 + 1) (by omega) (by decide) hn1 (by omega)).2 _ hq_63
                dsimp only at hno_79
                refine S_iast X 2 rfl (by omega) (by omega) (nle rfl) dX12_playerText_151 ?_
                refine S_w (ws' := [(h0, ob 11 (uF (uF (uF (uF (uF f 18 (iv pl)) 14 (iv tx)) 3 (iv a2_59)) 4 (iv (-1))) 5 (iv dp))), (hT, ar 160 T), (hR, ar 30 (uZ (rowW R1 pl r) ((5 * pl) + k1) z_51))]) rfl ?_
                refine S_w (ws' := [(h0, ob 11 (uF (uF (uF (uF (uF f 18 (iv pl)) 14 (iv tx)) 3 (iv a2_59)) 4 (iv (-1))) 5 (iv dp))), (hT, ar 160 T), (hR, ar 30 (rowW R1 pl (uZ r k1 z_51)))]) (by rw [← rowW_put (by omega)]) ?_
                have hkk_80 := (it_go (f := g9) (seen := seen) (r := r) hk1 (by omega) hse (gTL_n (by omega) c_43) (gTM_t (by omega)) hq_63).symm.trans hk9
                refine S_aload_n X dX12_playerText_152 rfl hL111_0 ?_
                refine S_get (v := iv (-1)) X fgX12_118_11 0 rfl rfl dX12_playerText_153 ?_
                refine S_iconst X dX12_playerText_156 ?_
                refine S_icmp_ne (tgt := 170) X dX12_playerText_157 (by decide) (by decide) (by decide) (fun h9 => absurd h9 (by decide)) (fun _ => ?_)
                refine S_aload_n X dX12_playerText_160 rfl hL111_0 ?_
                refine S_calli X (kX12_look l h0 hT (uF (uF f 18 (iv pl)) 14 (iv tx)) T n a2_59 (-1) dp hf0 hf1 (by omega) (by omega)) (is := [0, 1]) rfl (run_V X lkX12_130 0 rfl rfl (is := [0, 1]) (avs := []) (rest := []) rfl rfl (nle rfl) ⟨nle rfl, nle rfl⟩ ⟨nle rfl, nle rfl⟩ dX12_playerText_161 (by decide) rfl) (fun z_84 u_82 hp_83 => ?_)
                obtain ⟨hz_85, hu_86⟩ := hp_83
                subst hz_85
                subst hu_86
                refine ⟨rfl, ?_⟩
                refine S_w (ws' := [(h0, ob 11 (uF (uF (uF (uF (uF f 18 (iv pl)) 14 (iv tx)) 3 (iv (sk T n a2_59))) 4 (iv (-1))) 5 (iv dp))), (hT, ar 160 T), (hR, ar 30 (rowW R1 pl (uZ r k1 z_51)))]) rfl ?_
                have hsk_87 := sk_in (T := T) (n := n) (a := a2_59) (by omega)
                have hcm_87 := chM_or okT (a := sk T n a2_59) (by omega) (by omega)
                have him_87 := item_m hcm_87
                have hit_87 := itemOf_in (ch T n (sk T n a2_59))
                refine S_calli X (kX12_itemOf l (chM T n (sk T n a2_59)) (by omega)) (is := []) rfl (run_S X lkX12_223 (is := []) (avs := [iv (chM T n (sk T n a2_59))]) (rest := []) rfl rfl (nle rfl) ⟨nle rfl, nle rfl⟩ ⟨nle rfl, nle rfl⟩ dX12_playerText_164 (by decide) rfl) (fun z_90 u_88 hp_89 => ?_)
                obtain ⟨hz_91, hu_92⟩ := hp_89
                subst hz_91
                subst hu_92
                refine ⟨rfl, ?_⟩
                refine S_w (ws' := [(h0, ob 11 (uF (uF (uF (uF (uF f 18 (iv pl)) 14 (iv tx)) 3 (iv (sk T n a2_59))) 4 (iv (-1))) 5 (iv dp))), (hT, ar 160 T), (hR, ar 30 (rowW R1 pl (uZ r k1 z_51)))]) rfl ?_
                refine S_goto (tgt := 171) X dX12_playerText_167 (by decide) ?_
                refine S_istore_n X dX12_playerText_171 rfl (nle rfl) ?_
                refine S_goto (tgt := 90) X dX12_playerText_172 (by decide) ?_
                refine S_aload_n X dX12_playerText_90 rfl hL111_0 ?_
                refine S_get (v := iv (-1)) X fgX12_118_11 0 rfl rfl dX12_playerText_91 ?_
                refine S_iconst X dX12_playerText_94 ?_
                refine S_icmp_ne (tgt := 175) X dX12_playerText_95 (by decide) (by decide) (by decide) (fun h9 => absurd h9 (by decide)) (fun _ => ?_)
                refine S_iload_n X dX12_playerText_98 rfl rfl ?_
                refine S_iconst X dX12_playerText_99 ?_
                refine S_icmp_eq (tgt := 175) X dX12_playerText_100 (by decide) (by omega) (by decide) (fun c_94 => ?_) (fun c_94 => ?_)
                ·
                  refine S_aload_n X dX12_playerText_175 rfl hL111_0 ?_
                  refine S_dup X dX12_playerText_176 ?_
                  refine S_get (v := iv pl) X fgX12_220_11 0 rfl rfl dX12_playerText_177 ?_
                  refine S_iconst X dX12_playerText_180 ?_
                  refine S_iadd X dX12_playerText_181 ?_
                  refine S_put X fpX12_220_11 0 rfl FT_i dX12_playerText_182 ?_
                  refine S_w (ws' := [(h0, ob 11 (uF (uF (uF (uF (uF f 18 (iv (pl + 1))) 14 (iv tx)) 3 (iv (sk T n a2_59))) 4 (iv (-1))) 5 (iv dp))), (hT, ar 160 T), (hR, ar 30 (rowW R1 pl (uZ r k1 z_51)))]) (by simp only [List.set]; rw [uF_mv (j := 5) (k := 18) (by decide), uF_mv (j := 4) (k := 18) (by decide), uF_mv (j := 3) (k := 18) (by decide), uF_mv (j := 14) (k := 18) (by decide), uF_same (k := 18)]) ?_
                  exact S_vret X (nle rfl) (nle rfl) dX12_playerText_185 (hPo _ (Or.inr (Or.inr (Or.inr ⟨_, _, rfl, by omega, hkk_80.symm.trans (it_st (by omega) him_87 (by omega)), by omega⟩))))
                ·
                  refine S_iload_n X dX12_playerText_103 rfl rfl ?_
                  refine S_iload_n X dX12_playerText_104 rfl rfl ?_
                  refine S_calli X (kX12_has l (zOr seen (zShl 1 k1)) (itemOf (chM T n (sk T n a2_59))) ) (is := []) rfl (run_S X lkX12_226 (is := []) (avs := [iv (zOr seen (zShl 1 k1)), iv (itemOf (chM T n (sk T n a2_59)))]) (rest := []) rfl rfl (nle rfl) ⟨nle rfl, nle rfl⟩ ⟨nle rfl, nle rfl⟩ dX12_playerText_105 (by decide) rfl) (fun z_97 u_95 hp_96 => ?_)
                  rcases hp_96 with ⟨hz_98, hu_99, hq_100⟩ | ⟨hz_101, hu_102, hq_103⟩
                  ·
                    subst hz_98
                    subst hu_99
                    refine ⟨rfl, ?_⟩
                    refine S_w (ws' := [(h0, ob 11 (uF (uF (uF (uF (uF f 18 (iv pl)) 14 (iv tx)) 3 (iv (sk T n a2_59))) 4 (iv (-1))) 5 (iv dp))), (hT, ar 160 T), (hR, ar 30 (rowW R1 pl (uZ r k1 z_51)))]) rfl ?_
                    refine S_if_ne (tgt := 175) X dX12_playerText_108 (by decide) (by decide) (fun h9 => absurd h9 (by decide)) (fun _ => ?_)
                    exact ih111 a2_59 (itemOf (chM T n (sk T n a2_59))) (zOr seen (zShl 1 k1)) (uZ r k1 z_51) _ (by omega) (item_lt hcm_87 (by omega)) (by omega) (by omega) (by omega) (hq_100) (⟨g9, by omega, hkk_80⟩) hL111_0 hL111_1 rfl rfl (by omega)
                  ·
                    subst hz_101
                    subst hu_102
                    refine ⟨rfl, ?_⟩
                    refine S_w (ws' := [(h0, ob 11 (uF (uF (uF (uF (uF f 18 (iv pl)) 14 (iv tx)) 3 (iv (sk T n a2_59))) 4 (iv (-1))) 5 (iv dp))), (hT, ar 160 T), (hR, ar 30 (rowW R1 pl (uZ r k1 z_51)))]) rfl ?_
                    refine S_if_ne (tgt := 175) X dX12_playerText_108 (by decide) (by decide) (fun _ => ?_) (fun h9 => absurd h9 (by decide))
                    refine S_aload_n X dX12_playerText_175 rfl hL111_0 ?_
                    refine S_dup X dX12_playerText_176 ?_
                    refine S_get (v := iv pl) X fgX12_220_11 0 rfl rfl dX12_playerText_177 ?_
                    refine S_iconst X dX12_playerText_180 ?_
                    refine S_iadd X dX12_playerText_181 ?_
                    refine S_put X fpX12_220_11 0 rfl FT_i dX12_playerText_182 ?_
                    refine S_w (ws' := [(h0, ob 11 (uF (uF (uF (uF (uF f 18 (iv (pl + 1))) 14 (iv tx)) 3 (iv (sk T n a2_59))) 4 (iv (-1))) 5 (iv dp))), (hT, ar 160 T), (hR, ar 30 (rowW R1 pl (uZ r k1 z_51)))]) (by simp only [List.set]; rw [uF_mv (j := 5) (k := 18) (by decide), uF_mv (j := 4) (k := 18) (by decide), uF_mv (j := 3) (k := 18) (by decide), uF_mv (j := 14) (k := 18) (by decide), uF_same (k := 18)]) ?_
                    exact S_vret X (nle rfl) (nle rfl) dX12_playerText_185 (hPo _ (Or.inr (Or.inr (Or.inl ⟨_, _, rfl, by omega, hkk_80.symm.trans (it_du (by omega) him_87 (by omega) hq_103), by omega, by omega, sk_idem⟩))))
            ·
              refine S_iconst X dX12_playerText_139 ?_
              refine S_goto (tgt := 144) X dX12_playerText_140 (by decide) ?_
              refine S_iload_n X dX12_playerText_144 rfl hL111_3 ?_
              refine S_calli X (kX12_highest l k1 (by omega)) (is := []) rfl (run_S X lkX12_230 (is := []) (avs := [iv k1]) (rest := [iv 1, rv h0, iv ((5 * pl) + k1), rv hR]) rfl rfl (nle rfl) ⟨nle rfl, nle rfl⟩ ⟨nle rfl, nle rfl⟩ dX12_playerText_145 (by decide) rfl) (fun z_108 u_106 hp_107 => ?_)
              obtain ⟨hz_109, hu_110⟩ := hp_107
              subst hz_109
              subst hu_110
              refine ⟨rfl, ?_⟩
              refine S_w (ws' := [(h0, ob 11 (uF (uF (uF (uF (uF f 18 (iv pl)) 14 (iv tx)) 3 (iv ((sk T n a1) + 1))) 4 (iv (-1))) 5 (iv dp))), (hT, ar 160 T), (hR, ar 30 (rowW R1 pl r))]) rfl ?_
              refine S_calli X (kX12_number l h0 hT (uF (uF f 18 (iv pl)) 14 (iv tx)) T n ((sk T n a1) + 1) (-1) dp 1 (topOf k1) hf0 hf1 (by omega) (by omega) (by omega) (by omega)) (is := [0, 1]) rfl (run_V X lkX12_233 0 rfl rfl (is := [0, 1]) (avs := [iv 1, iv (topOf k1)]) (rest := [iv ((5 * pl) + k1), rv hR]) rfl rfl (nle rfl) ⟨nle rfl, nle rfl⟩ ⟨nle rfl, nle rfl⟩ dX12_playerText_148 (by decide) rfl) (fun z_113 u_111 hp_112 => ?_)
              rcases hp_112 with ⟨a2_114, fl_115, v_116, hz_117, hu_118, hq_119, hr_120⟩ | ⟨a2_121, v_122, hz_123, hu_124, hq_125⟩
              ·
                subst hz_117
                subst hu_118
                refine ⟨rfl, ?_⟩
                refine S_w (ws' := [(h0, ob 11 (uF (uF (uF (uF (uF f 18 (iv pl)) 14 (iv tx)) 3 (iv a2_114)) 4 (iv fl_115)) 5 (iv dp))), (hT, ar 160 T), (hR, ar 30 (rowW R1 pl r))]) rfl ?_
                refine S_iast X 2 rfl (by omega) (by omega) (nle rfl) dX12_playerText_151 ?_
                refine S_w (ws' := [(h0, ob 11 (uF (uF (uF (uF (uF f 18 (iv pl)) 14 (iv tx)) 3 (iv a2_114)) 4 (iv fl_115)) 5 (iv dp))), (hT, ar 160 T), (hR, ar 30 (uZ (rowW R1 pl r) ((5 * pl) + k1) z_113))]) rfl ?_
                refine S_w (ws' := [(h0, ob 11 (uF (uF (uF (uF (uF f 18 (iv pl)) 14 (iv tx)) 3 (iv a2_114)) 4 (iv fl_115)) 5 (iv dp))), (hT, ar 160 T), (hR, ar 30 (rowW R1 pl (uZ r k1 z_113)))]) (by rw [← rowW_put (by omega)]) ?_
                refine S_aload_n X dX12_playerText_152 rfl hL111_0 ?_
                refine S_get (v := iv fl_115) X fgX12_118_11 0 rfl rfl dX12_playerText_153 ?_
                refine S_iconst X dX12_playerText_156 ?_
                refine S_icmp_ne (tgt := 170) X dX12_playerText_157 (by decide) (by omega) (by decide) (fun c_127 => ?_) (fun c_127 => ?_)
                ·
                  refine S_iconst X dX12_playerText_170 ?_
                  refine S_istore_n X dX12_playerText_171 rfl (nle rfl) ?_
                  refine S_goto (tgt := 90) X dX12_playerText_172 (by decide) ?_
                  refine S_aload_n X dX12_playerText_90 rfl hL111_0 ?_
                  refine S_get (v := iv fl_115) X fgX12_118_11 0 rfl rfl dX12_playerText_91 ?_
                  refine S_iconst X dX12_playerText_94 ?_
                  refine S_icmp_ne (tgt := 175) X dX12_playerText_95 (by decide) (by omega) (by decide) (fun c_128 => ?_) (fun c_128 => by exfalso; omega)
                  refine S_aload_n X dX12_playerText_175 rfl hL111_0 ?_
                  refine S_dup X dX12_playerText_176 ?_
                  refine S_get (v := iv pl) X fgX12_220_11 0 rfl rfl dX12_playerText_177 ?_
                  refine S_iconst X dX12_playerText_180 ?_
                  refine S_iadd X dX12_playerText_181 ?_
                  refine S_put X fpX12_220_11 0 rfl FT_i dX12_playerText_182 ?_
                  refine S_w (ws' := [(h0, ob 11 (uF (uF (uF (uF (uF f 18 (iv (pl + 1))) 14 (iv tx)) 3 (iv a2_114)) 4 (iv fl_115)) 5 (iv dp))), (hT, ar 160 T), (hR, ar 30 (rowW R1 pl (uZ r k1 z_113)))]) (by simp only [List.set]; rw [uF_mv (j := 5) (k := 18) (by decide), uF_mv (j := 4) (k := 18) (by decide), uF_mv (j := 3) (k := 18) (by decide), uF_mv (j := 14) (k := 18) (by decide), uF_same (k := 18)]) ?_
                  exact S_vret X (nle rfl) (nle rfl) dX12_playerText_185 (hPo _ (Or.inr (Or.inl ⟨_, _, _, rfl, by omega, hk9.symm.trans (it_nf hk1 (by omega) hse (by rw [c_43]; rfl) (gTM_t (by omega)) hq_119), by omega⟩)))
                ·
                  refine S_aload_n X dX12_playerText_160 rfl hL111_0 ?_
                  refine S_calli X (kX12_look l h0 hT (uF (uF f 18 (iv pl)) 14 (iv tx)) T n a2_114 fl_115 dp hf0 hf1 (by omega) (by omega)) (is := [0, 1]) rfl (run_V X lkX12_130 0 rfl rfl (is := [0, 1]) (avs := []) (rest := []) rfl rfl (nle rfl) ⟨nle rfl, nle rfl⟩ ⟨nle rfl, nle rfl⟩ dX12_playerText_161 (by decide) rfl) (fun z_131 u_129 hp_130 => ?_)
                  obtain ⟨hz_132, hu_133⟩ := hp_130
                  subst hz_132
                  subst hu_133
                  refine ⟨rfl, ?_⟩
                  refine S_w (ws' := [(h0, ob 11 (uF (uF (uF (uF (uF f 18 (iv pl)) 14 (iv tx)) 3 (iv (sk T n a2_114))) 4 (iv fl_115)) 5 (iv dp))), (hT, ar 160 T), (hR, ar 30 (rowW R1 pl (uZ r k1 z_113)))]) rfl ?_
                  have hsk_134 := sk_in (T := T) (n := n) (a := a + 1) (by omega)
                  have hcm_134 := chM_or okT (a := sk T n (a + 1)) (by omega) (by omega)
                  have him_134 := item_m hcm_134
                  have hit_134 := itemOf_in (ch T n (sk T n (a + 1)))
                  refine S_calli X (kX12_itemOf l (chM T n (sk T n a2_114)) (by omega)) (is := []) rfl (run_S X lkX12_223 (is := []) (avs := [iv (chM T n (sk T n a2_114))]) (rest := []) rfl rfl (nle rfl) ⟨nle rfl, nle rfl⟩ ⟨nle rfl, nle rfl⟩ dX12_playerText_164 (by decide) rfl) (fun z_137 u_135 hp_136 => ?_)
                  obtain ⟨hz_138, hu_139⟩ := hp_136
                  subst hz_138
                  subst hu_139
                  refine ⟨rfl, ?_⟩
                  refine S_w (ws' := [(h0, ob 11 (uF (uF (uF (uF (uF f 18 (iv pl)) 14 (iv tx)) 3 (iv (sk T n a2_114))) 4 (iv fl_115)) 5 (iv dp))), (hT, ar 160 T), (hR, ar 30 (rowW R1 pl (uZ r k1 z_113)))]) rfl ?_
                  refine S_goto (tgt := 171) X dX12_playerText_167 (by decide) ?_
                  refine S_istore_n X dX12_playerText_171 rfl (nle rfl) ?_
                  refine S_goto (tgt := 90) X dX12_playerText_172 (by decide) ?_
                  refine S_aload_n X dX12_playerText_90 rfl hL111_0 ?_
                  refine S_get (v := iv fl_115) X fgX12_118_11 0 rfl rfl dX12_playerText_91 ?_
                  refine S_iconst X dX12_playerText_94 ?_
                  refine S_icmp_ne (tgt := 175) X dX12_playerText_95 (by decide) (by omega) (by decide) (fun c_140 => ?_) (fun c_140 => by exfalso; omega)
                  refine S_aload_n X dX12_playerText_175 rfl hL111_0 ?_
                  refine S_dup X dX12_playerText_176 ?_
                  refine S_get (v := iv pl) X fgX12_220_11 0 rfl rfl dX12_playerText_177 ?_
                  refine S_iconst X dX12_playerText_180 ?_
                  refine S_iadd X dX12_playerText_181 ?_
                  refine S_put X fpX12_220_11 0 rfl FT_i dX12_playerText_182 ?_
                  refine S_w (ws' := [(h0, ob 11 (uF (uF (uF (uF (uF f 18 (iv (pl + 1))) 14 (iv tx)) 3 (iv (sk T n a2_114))) 4 (iv fl_115)) 5 (iv dp))), (hT, ar 160 T), (hR, ar 30 (rowW R1 pl (uZ r k1 z_113)))]) (by simp only [List.set]; rw [uF_mv (j := 5) (k := 18) (by decide), uF_mv (j := 4) (k := 18) (by decide), uF_mv (j := 3) (k := 18) (by decide), uF_mv (j := 14) (k := 18) (by decide), uF_same (k := 18)]) ?_
                  exact S_vret X (nle rfl) (nle rfl) dX12_playerText_185 (hPo _ (Or.inr (Or.inl ⟨_, _, _, rfl, by omega, hk9.symm.trans (it_nf hk1 (by omega) hse (by rw [c_43]; rfl) (gTM_t (by omega)) hq_119), by omega⟩)))
              ·
                subst hz_123
                subst hu_124
                refine ⟨rfl, ?_⟩
                refine S_w (ws' := [(h0, ob 11 (uF (uF (uF (uF (uF f 18 (iv pl)) 14 (iv tx)) 3 (iv a2_121)) 4 (iv (-1))) 5 (iv dp))), (hT, ar 160 T), (hR, ar 30 (rowW R1 pl r))]) rfl ?_
                have hno_141 := (pNum_in (T := T) (n := n) (dg := 2) (a := sk T n a1 + 1) (by omega) (by decide) hn1 (by omega)).2 _ hq_125
                dsimp only at hno_141
                refine S_iast X 2 rfl (by omega) (by omega) (nle rfl) dX12_playerText_151 ?_
                refine S_w (ws' := [(h0, ob 11 (uF (uF (uF (uF (uF f 18 (iv pl)) 14 (iv tx)) 3 (iv a2_121)) 4 (iv (-1))) 5 (iv dp))), (hT, ar 160 T), (hR, ar 30 (uZ (rowW R1 pl r) ((5 * pl) + k1) z_113))]) rfl ?_
                refine S_w (ws' := [(h0, ob 11 (uF (uF (uF (uF (uF f 18 (iv pl)) 14 (iv tx)) 3 (iv a2_121)) 4 (iv (-1))) 5 (iv dp))), (hT, ar 160 T), (hR, ar 30 (rowW R1 pl (uZ r k1 z_113)))]) (by rw [← rowW_put (by omega)]) ?_
                have hkk_142 := (it_go (f := g9) (seen := seen) (r := r) hk1 (by omega) hse (by rw [c_43]; rfl) (gTM_t (by omega)) hq_125).symm.trans hk9
                refine S_aload_n X dX12_playerText_152 rfl hL111_0 ?_
                refine S_get (v := iv (-1)) X fgX12_118_11 0 rfl rfl dX12_playerText_153 ?_
                refine S_iconst X dX12_playerText_156 ?_
                refine S_icmp_ne (tgt := 170) X dX12_playerText_157 (by decide) (by decide) (by decide) (fun h9 => absurd h9 (by decide)) (fun _ => ?_)
                refine S_aload_n X dX12_playerText_160 rfl hL111_0 ?_
                refine S_calli X (kX12_look l h0 hT (uF (uF f 18 (iv pl)) 14 (iv tx)) T n a2_121 (-1) dp hf0 hf1 (by omega) (by omega)) (is := [0, 1]) rfl (run_V X lkX12_130 0 rfl rfl (is := [0, 1]) (avs := []) (rest := []) rfl rfl (nle rfl) ⟨nle rfl, nle rfl⟩ ⟨nle rfl, nle rfl⟩ dX12_playerText_161 (by decide) rfl) (fun z_146 u_144 hp_145 => ?_)
                obtain ⟨hz_147, hu_148⟩ := hp_145
                subst hz_147
                subst hu_148
                refine ⟨rfl, ?_⟩
                refine S_w (ws' := [(h0, ob 11 (uF (uF (uF (uF (uF f 18 (iv pl)) 14 (iv tx)) 3 (iv (sk T n a2_121))) 4 (iv (-1))) 5 (iv dp))), (hT, ar 160 T), (hR, ar 30 (rowW R1 pl (uZ r k1 z_113)))]) rfl ?_
                have hsk_149 := sk_in (T := T) (n := n) (a := a2_121) (by omega)
                have hcm_149 := chM_or okT (a := sk T n a2_121) (by omega) (by omega)
                have him_149 := item_m hcm_149
                have hit_149 := itemOf_in (ch T n (sk T n a2_121))
                refine S_calli X (kX12_itemOf l (chM T n (sk T n a2_121)) (by omega)) (is := []) rfl (run_S X lkX12_223 (is := []) (avs := [iv (chM T n (sk T n a2_121))]) (rest := []) rfl rfl (nle rfl) ⟨nle rfl, nle rfl⟩ ⟨nle rfl, nle rfl⟩ dX12_playerText_164 (by decide) rfl) (fun z_152 u_150 hp_151 => ?_)
                obtain ⟨hz_153, hu_154⟩ := hp_151
                subst hz_153
                subst hu_154
                refine ⟨rfl, ?_⟩
                refine S_w (ws' := [(h0, ob 11 (uF (uF (uF (uF (uF f 18 (iv pl)) 14 (iv tx)) 3 (iv (sk T n a2_121))) 4 (iv (-1))) 5 (iv dp))), (hT, ar 160 T), (hR, ar 30 (rowW R1 pl (uZ r k1 z_113)))]) rfl ?_
                refine S_goto (tgt := 171) X dX12_playerText_167 (by decide) ?_
                refine S_istore_n X dX12_playerText_171 rfl (nle rfl) ?_
                refine S_goto (tgt := 90) X dX12_playerText_172 (by decide) ?_
                refine S_aload_n X dX12_playerText_90 rfl hL111_0 ?_
                refine S_get (v := iv (-1)) X fgX12_118_11 0 rfl rfl dX12_playerText_91 ?_
                refine S_iconst X dX12_playerText_94 ?_
                refine S_icmp_ne (tgt := 175) X dX12_playerText_95 (by decide) (by decide) (by decide) (fun h9 => absurd h9 (by decide)) (fun _ => ?_)
                refine S_iload_n X dX12_playerText_98 rfl rfl ?_
                refine S_iconst X dX12_playerText_99 ?_
                refine S_icmp_eq (tgt := 175) X dX12_playerText_100 (by decide) (by omega) (by decide) (fun c_156 => ?_) (fun c_156 => ?_)
                ·
                  refine S_aload_n X dX12_playerText_175 rfl hL111_0 ?_
                  refine S_dup X dX12_playerText_176 ?_
                  refine S_get (v := iv pl) X fgX12_220_11 0 rfl rfl dX12_playerText_177 ?_
                  refine S_iconst X dX12_playerText_180 ?_
                  refine S_iadd X dX12_playerText_181 ?_
                  refine S_put X fpX12_220_11 0 rfl FT_i dX12_playerText_182 ?_
                  refine S_w (ws' := [(h0, ob 11 (uF (uF (uF (uF (uF f 18 (iv (pl + 1))) 14 (iv tx)) 3 (iv (sk T n a2_121))) 4 (iv (-1))) 5 (iv dp))), (hT, ar 160 T), (hR, ar 30 (rowW R1 pl (uZ r k1 z_113)))]) (by simp only [List.set]; rw [uF_mv (j := 5) (k := 18) (by decide), uF_mv (j := 4) (k := 18) (by decide), uF_mv (j := 3) (k := 18) (by decide), uF_mv (j := 14) (k := 18) (by decide), uF_same (k := 18)]) ?_
                  exact S_vret X (nle rfl) (nle rfl) dX12_playerText_185 (hPo _ (Or.inr (Or.inr (Or.inr ⟨_, _, rfl, by omega, hkk_142.symm.trans (it_st (by omega) him_149 (by omega)), by omega⟩))))
                ·
                  refine S_iload_n X dX12_playerText_103 rfl rfl ?_
                  refine S_iload_n X dX12_playerText_104 rfl rfl ?_
                  refine S_calli X (kX12_has l (zOr seen (zShl 1 k1)) (itemOf (chM T n (sk T n a2_121))) ) (is := []) rfl (run_S X lkX12_226 (is := []) (avs := [iv (zOr seen (zShl 1 k1)), iv (itemOf (chM T n (sk T n a2_121)))]) (rest := []) rfl rfl (nle rfl) ⟨nle rfl, nle rfl⟩ ⟨nle rfl, nle rfl⟩ dX12_playerText_105 (by decide) rfl) (fun z_159 u_157 hp_158 => ?_)
                  rcases hp_158 with ⟨hz_160, hu_161, hq_162⟩ | ⟨hz_163, hu_164, hq_165⟩
                  ·
                    subst hz_160
                    subst hu_161
                    refine ⟨rfl, ?_⟩
                    refine S_w (ws' := [(h0, ob 11 (uF (uF (uF (uF (uF f 18 (iv pl)) 14 (iv tx)) 3 (iv (sk T n a2_121))) 4 (iv (-1))) 5 (iv dp))), (hT, ar 160 T), (hR, ar 30 (rowW R1 pl (uZ r k1 z_113)))]) rfl ?_
                    refine S_if_ne (tgt := 175) X dX12_playerText_108 (by decide) (by decide) (fun h9 => absurd h9 (by decide)) (fun _ => ?_)
                    exact ih111 a2_121 (itemOf (chM T n (sk T n a2_121))) (zOr seen (zShl 1 k1)) (uZ r k1 z_113) _ (by omega) (item_lt hcm_149 (by omega)) (by omega) (by omega) (by omega) (hq_162) (⟨g9, by omega, hkk_142⟩) hL111_0 hL111_1 rfl rfl (by omega)
                  ·
                    subst hz_163
                    subst hu_164
                    refine ⟨rfl, ?_⟩
                    refine S_w (ws' := [(h0, ob 11 (uF (uF (uF (uF (uF f 18 (iv pl)) 14 (iv tx)) 3 (iv (sk T n a2_121))) 4 (iv (-1))) 5 (iv dp))), (hT, ar 160 T), (hR, ar 30 (rowW R1 pl (uZ r k1 z_113)))]) rfl ?_
                    refine S_if_ne (tgt := 175) X dX12_playerText_108 (by decide) (by decide) (fun _ => ?_) (fun h9 => absurd h9 (by decide))
                    refine S_aload_n X dX12_playerText_175 rfl hL111_0 ?_
                    refine S_dup X dX12_playerText_176 ?_
                    refine S_get (v := iv pl) X fgX12_220_11 0 rfl rfl dX12_playerText_177 ?_
                    refine S_iconst X dX12_playerText_180 ?_
                    refine S_iadd X dX12_playerText_181 ?_
                    refine S_put X fpX12_220_11 0 rfl FT_i dX12_playerText_182 ?_
                    refine S_w (ws' := [(h0, ob 11 (uF (uF (uF (uF (uF f 18 (iv (pl + 1))) 14 (iv tx)) 3 (iv (sk T n a2_121))) 4 (iv (-1))) 5 (iv dp))), (hT, ar 160 T), (hR, ar 30 (rowW R1 pl (uZ r k1 z_113)))]) (by simp only [List.set]; rw [uF_mv (j := 5) (k := 18) (by decide), uF_mv (j := 4) (k := 18) (by decide), uF_mv (j := 3) (k := 18) (by decide), uF_mv (j := 14) (k := 18) (by decide), uF_same (k := 18)]) ?_
                    exact S_vret X (nle rfl) (nle rfl) dX12_playerText_185 (hPo _ (Or.inr (Or.inr (Or.inl ⟨_, _, rfl, by omega, hkk_142.symm.trans (it_du (by omega) him_149 (by omega) hq_165), by omega, by omega, sk_idem⟩))))
        exact lp111_3 (Int.toNat (161 - (a + 1)) + 1) (a + 1) (itemOf (chM T n (sk T n (a + 1)))) 0 row0 _ (by omega) (item_lt hcm_25 (by omega)) (by omega) (by omega) (by decide) (hq_38) (⟨6, by decide, rfl⟩) rfl rfl rfl rfl (by omega)
      ·
        subst hz_39
        subst hu_40
        refine ⟨rfl, ?_⟩
        refine S_w (ws' := [(h0, ob 11 (uF (uF (uF (uF (uF f 18 (iv pl)) 14 (iv tx)) 3 (iv (sk T n (a + 1)))) 4 (iv (-1))) 5 (iv dp))), (hT, ar 160 T), (hR, ar 30 (rowW R1 pl row0))]) rfl ?_
        refine S_if_ne (tgt := 175) X dX12_playerText_108 (by decide) (by decide) (fun _ => ?_) (fun h9 => absurd h9 (by decide))
        refine S_aload_n X dX12_playerText_175 rfl rfl ?_
        refine S_dup X dX12_playerText_176 ?_
        refine S_get (v := iv pl) X fgX12_220_11 0 rfl rfl dX12_playerText_177 ?_
        refine S_iconst X dX12_playerText_180 ?_
        refine S_iadd X dX12_playerText_181 ?_
        refine S_put X fpX12_220_11 0 rfl FT_i dX12_playerText_182 ?_
        refine S_w (ws' := [(h0, ob 11 (uF (uF (uF (uF (uF f 18 (iv (pl + 1))) 14 (iv tx)) 3 (iv (sk T n (a + 1)))) 4 (iv (-1))) 5 (iv dp))), (hT, ar 160 T), (hR, ar 30 (rowW R1 pl row0))]) (by simp only [List.set]; rw [uF_mv (j := 5) (k := 18) (by decide), uF_mv (j := 4) (k := 18) (by decide), uF_mv (j := 3) (k := 18) (by decide), uF_mv (j := 14) (k := 18) (by decide), uF_same (k := 18)]) ?_
        exact S_vret X (nle rfl) (nle rfl) dX12_playerText_185 (hPo _ (Or.inr (Or.inr (Or.inl ⟨_, _, rfl, by omega, Eq.trans (rfl : pIt T n true 6 0 (a + 1) row0 = pIt T n true 6 0 (a + 1) row0) (it_du (by omega) him_25 (by omega) hq_41), by omega, by omega, sk_idem⟩))))
  ·
    refine S_aload_n X dX12_playerText_9 rfl rfl ?_
    refine S_callv X (kX12_bad l h0 (uF (uF f 18 (iv pl)) 14 (iv tx)) a (-1) dp (by omega)) (is := [0]) rfl (run_V X lkX12_127 0 rfl rfl (is := [0]) (avs := []) (rest := []) rfl rfl (nle rfl) ⟨nle rfl, nle rfl⟩ ⟨nle rfl, nle rfl⟩ dX12_playerText_10 (by decide) rfl) (fun u_169 hp_170 => ?_)
    have hu_173 := hp_170
    subst hu_173
    refine ⟨rfl, ?_⟩
    refine S_w (ws' := [(h0, ob 11 (uF (uF (uF (uF (uF f 18 (iv pl)) 14 (iv tx)) 3 (iv a)) 4 (iv a)) 5 (iv dp))), (hT, ar 160 T), (hR, ar 30 R1)]) rfl ?_
    exact S_vret X (nle rfl) (nle rfl) dX12_playerText_13 (hPo _ (Or.inl ⟨rfl, by omega⟩))
end pt_27ref7
/- 28.ref8.lean.txt -/
section pt_28ref8
def okFl (pl : Int) (R : Int → Int) : Prop := 0 < pl ∧ ∀ i, 0 ≤ i → i < pl → R (5 * i + 3) ≠ i ∧ R (5 * i + 3) < pl
set_option maxHeartbeats 4000000 in
set_option maxRecDepth 100000 in
theorem kX12_areTold (l : Launch) (h0 : Nat) (f : Nat → AV) (a : Int) (dp : Int) (tx : Int) (pl : Int) (hR : Nat) (R1 : Int → Int) (w : Int) (hf0 : f 17 = rv hR) (hpl : 0 ≤ pl ∧ pl ≤ 6) (hRr : ∀ i, 0 ≤ i → i < pl → -1 ≤ R1 (5 * i + 3) ∧ R1 (5 * i + 3) ≤ 5) : AMi l yX12_areTold cX12_areTold 3 .boolean 2 0 0 [rv h0] [(h0, ob 11 (uF (uF (uF (uF (uF f 18 (iv pl)) 14 (iv tx)) 3 (iv a)) 4 (iv w)) 5 (iv dp))), (hR, ar 30 R1)] (fun z u => (z = 0 ∧ u = [(h0, ob 11 (uF (uF (uF (uF (uF f 18 (iv pl)) 14 (iv tx)) 3 (iv a)) 4 (iv w)) 5 (iv dp))), (hR, ar 30 R1)] ∧ ¬ okFl pl R1) ∨ (z = 1 ∧ u = [(h0, ob 11 (uF (uF (uF (uF (uF f 18 (iv pl)) 14 (iv tx)) 3 (iv a)) 4 (iv w)) 5 (iv dp))), (hR, ar 30 R1)] ∧ okFl pl R1)) := by
  refine AMi.of2 rfl (nle rfl) ?_
  intro D G A p e s m args below meth c Po hPo X
  refine S_iconst X dX12_areTold_0 ?_
  refine S_istore_n X dX12_areTold_1 rfl (nle rfl) ?_
  have lp2_0 : ∀ (N : Nat) (i : Int) (L : Nat → Option AV), 0 ≤ i ∧ i ≤ pl → (∀ j, 0 ≤ j → j < i → R1 (5 * j + 3) ≠ j ∧ R1 (5 * j + 3) < pl) → L 0 = some (rv h0) → L 1 = some (iv i) → 7 - i < (N : Int) → S_ p l e (rmD 2 0 0) s m args below meth c (MQ below (QcI D G A Po) args s 0 0 A) D G A 3 0 0 2 L [] [(h0, ob 11 (uF (uF (uF (uF (uF f 18 (iv pl)) 14 (iv tx)) 3 (iv a)) 4 (iv w)) 5 (iv dp))), (hR, ar 30 R1)] := by
    intro N
    induction N with
    | zero =>
      intro i L2 hi hk hL2_0 hL2_1 hN2
      exfalso; omega
    | succ N ih2 =>
      intro i L2 hi hk hL2_0 hL2_1 hN2
      refine S_iload_n X dX12_areTold_2 rfl hL2_1 ?_
      refine S_aload_n X dX12_areTold_3 rfl hL2_0 ?_
      refine S_get (v := iv pl) X fgX12_220_11 0 rfl rfl dX12_areTold_4 ?_
      refine S_icmp_ge (tgt := 42) X dX12_areTold_7 (by decide) (by omega) (by omega) (fun c_1 => ?_) (fun c_1 => ?_)
      ·
        refine S_aload_n X dX12_areTold_42 rfl hL2_0 ?_
        refine S_get (v := iv pl) X fgX12_220_11 0 rfl rfl dX12_areTold_43 ?_
        refine S_if_le (tgt := 53) X dX12_areTold_46 (by decide) (by omega) (fun c_2 => ?_) (fun c_2 => ?_)
        ·
          refine S_iconst X dX12_areTold_53 ?_
          exact S_zret X (Or.inl rfl) (nle rfl) (nle rfl) dX12_areTold_54 (hPo _ _ (Or.inl ⟨rfl, rfl, fun q9 => by have := q9.1; omega⟩))
        ·
          refine S_iconst X dX12_areTold_49 ?_
          refine S_goto (tgt := 54) X dX12_areTold_50 (by decide) ?_
          exact S_zret X (Or.inr rfl) (nle rfl) (nle rfl) dX12_areTold_54 (hPo _ _ (Or.inr ⟨rfl, rfl, by omega, fun j h0 h1 => hk j h0 (by omega)⟩))
      ·
        refine S_aload_n X dX12_areTold_10 rfl hL2_0 ?_
        refine S_get X fgX12_40_11 0 rfl hf0 dX12_areTold_11 ?_
        refine S_iconst X dX12_areTold_14 ?_
        refine S_iload_n X dX12_areTold_15 rfl hL2_1 ?_
        refine S_imul X dX12_areTold_16 ?_
        refine S_iconst X dX12_areTold_17 ?_
        refine S_iadd X dX12_areTold_18 ?_
        refine S_iald X 1 rfl (by omega) (by omega) (nle rfl) dX12_areTold_19 ?_
        have hb_1 := hRr i (by omega) (by omega)
        refine S_istore_n X dX12_areTold_20 rfl (nle rfl) ?_
        refine S_iload_n X dX12_areTold_21 rfl rfl ?_
        refine S_iload_n X dX12_areTold_22 rfl hL2_1 ?_
        refine S_icmp_eq (tgt := 34) X dX12_areTold_23 (by decide) (by omega) (by omega) (fun c_3 => ?_) (fun c_3 => ?_)
        ·
          refine S_iconst X dX12_areTold_34 ?_
          exact S_zret X (Or.inl rfl) (nle rfl) (nle rfl) dX12_areTold_35 (hPo _ _ (Or.inl ⟨rfl, rfl, fun q9 => by have := q9.2 i (by omega) (by omega); omega⟩))
        ·
          refine S_iload_n X dX12_areTold_26 rfl rfl ?_
          refine S_aload_n X dX12_areTold_27 rfl hL2_0 ?_
          refine S_get (v := iv pl) X fgX12_220_11 0 rfl rfl dX12_areTold_28 ?_
          refine S_icmp_lt (tgt := 36) X dX12_areTold_31 (by decide) (by omega) (by omega) (fun c_4 => ?_) (fun c_4 => ?_)
          ·
            refine S_iinc X dX12_areTold_36 (nle rfl) hL2_1 ?_
            refine S_goto (tgt := 2) X dX12_areTold_39 (by decide) ?_
            exact ih2 (i + 1) _ (by omega) (fun j h0 h1 => (by omega : j < i ∨ j = i).elim (fun q9 => hk j h0 q9) (fun q9 => by rw [q9]; exact ⟨by omega, by omega⟩)) hL2_0 rfl (by omega)
          ·
            refine S_iconst X dX12_areTold_34 ?_
            exact S_zret X (Or.inl rfl) (nle rfl) (nle rfl) dX12_areTold_35 (hPo _ _ (Or.inl ⟨rfl, rfl, fun q9 => by have := q9.2 i (by omega) (by omega); omega⟩))
  exact lp2_0 (Int.toNat (7 - 0) + 1) 0 _ (by omega) (fun j h0 h1 => by omega) rfl rfl (by omega)
end pt_28ref8
/- 29.ref9.lean.txt -/
section pt_29ref9
theorem mt_n {T : Int → Int} {n a : Int} {r : Int → Int} (h : itemOf (ch T n (sk T n a)) = -1) : pIt T n false 6 0 a r = .inr (sk T n a, r) := by rw [pIt, if_pos h]
theorem mt_o {T : Int → Int} {n a : Int} {r : Int → Int} (h : ¬ itemOf (ch T n (sk T n a)) = -1) (h0 : ¬ itemOf (ch T n (sk T n a)) = 0) : pIt T n false 6 0 a r = .inl (sk T n a) := by rw [pIt, if_neg h, if_pos (Or.inl ⟨rfl, h0⟩)]
theorem mt_f {T : Int → Int} {n a e : Int} {r : Int → Int} (h : itemOf (ch T n (sk T n a)) = 0) (h2 : pNum T n 2 1 99 (sk T n a + 1) = .inl e) : pIt T n false 6 0 a r = .inl e := by
  rw [pIt, h, if_neg (by decide), if_neg (by decide), show gTL 0 = 1 from rfl, show gTM 0 = 99 from rfl, h2]
theorem mt_1 {T : Int → Int} {n a b v : Int} {r : Int → Int} (h : itemOf (ch T n (sk T n a)) = 0) (h2 : pNum T n 2 1 99 (sk T n a + 1) = .inr (b, v)) : pIt T n false 6 0 a r = pIt T n false 5 (zOr 0 (zShl 1 0)) b (uZ r 0 v) := by
  rw [pIt, h, if_neg (by decide), if_neg (by decide), show gTL 0 = 1 from rfl, show gTM 0 = 99 from rfl, h2]
theorem mt_b {T : Int → Int} {n a b v : Int} {r : Int → Int} (h : itemOf (ch T n (sk T n a)) = 0) (h2 : pNum T n 2 1 99 (sk T n a + 1) = .inr (b, v)) (h3 : itemOf (ch T n (sk T n b)) = -1) : pIt T n false 6 0 a r = .inr (sk T n b, uZ r 0 v) := by
  rw [mt_1 h h2, pIt, if_pos h3]
theorem mt_d {T : Int → Int} {n a b v : Int} {r : Int → Int} (h : itemOf (ch T n (sk T n a)) = 0) (h2 : pNum T n 2 1 99 (sk T n a + 1) = .inr (b, v)) (h3 : ¬ itemOf (ch T n (sk T n b)) = -1) : pIt T n false 6 0 a r = .inl (sk T n b) := by
  rw [mt_1 h h2, pIt, if_neg h3]
  by_cases h4 : itemOf (ch T n (sk T n b)) = 0
  · rw [h4, if_pos (Or.inr (by decide))]
  · rw [if_pos (Or.inl ⟨rfl, h4⟩)]
theorem pCl_no {T : Int → Int} {n a : Int} {s : TS} (h : ¬ (ch T n (sk T n a) = 112 ∧ s.1 < 6)) (h2 : ¬ (ch T n (sk T n a) = 109 ∧ s.2.2.1 = 0)) : pCl T n a s = .inl (sk T n a) := by unfold pCl; rw [if_neg h, if_neg h2]
/-- the flat row holds what the rows hold -/
def flat (pl : Int) (R : Int → Int) (Rc : Int → Int → Int) : Prop := ∀ i j, 0 ≤ i → i < pl → 0 ≤ j → j ≤ 4 → R (5 * i + j) = Rc i j
theorem flat_0 {R : Int → Int} {Rc : Int → Int → Int} : flat 0 R Rc := fun i j h0 h1 => by omega
theorem flat_put {pl : Int} {R r : Int → Int} {Rc : Int → Int → Int} (h : flat pl R Rc) : flat (pl + 1) (rowW R pl r) (uZ Rc pl r) := fun i j h0 h1 h2 h3 => by
  unfold rowW
  by_cases e : i = pl
  · rw [if_pos (by omega), e, show uZ Rc pl r pl = r from uZ_at]
    congr 1
    omega
  · rw [if_neg (by omega), show uZ Rc pl r i = Rc i from uZ_ne e]
    exact h i j h0 (by omega) h2 h3
theorem flat_ok {pl mt x : Int} {R : Int → Int} {Rc : Int → Int → Int} (h : flat pl R Rc) : okFl pl R ↔ okTn (pl, mt, x, Rc) := by
  unfold okFl okTn
  dsimp only
  constructor
  · exact fun q => ⟨q.1, fun i h0 h1 => by have := q.2 i h0 h1; rw [h i 3 h0 h1 (by omega) (by omega)] at this; exact this⟩
  · exact fun q => ⟨q.1, fun i h0 h1 => by rw [h i 3 h0 h1 (by omega) (by omega)]; exact q.2 i h0 h1⟩
theorem flat_in {pl mt x : Int} {R : Int → Int} {Rc : Int → Int → Int} (h : flat pl R Rc) (hs : okTS (pl, mt, x, Rc)) : ∀ i, 0 ≤ i → i < pl → -1 ≤ R (5 * i + 3) ∧ R (5 * i + 3) ≤ 5 := fun i h0 h1 => by
  rw [h i 3 h0 h1 (by omega) (by omega)]
  exact (hs.2.2.2 i h0 h1).2.2.2.1
/-- how a clause ended at p: read (left), or stopped at an item that may not stand there (right) -/
def ends (T : Int → Int) (n a : Int) (s : TS) (p : Int) (s2 : TS) : Prop := pCl T n a s = .inr (sk T n p, s2) ∨ (pCl T n a s = .inl (sk T n p) ∧ ¬ itemOf (ch T n (sk T n p)) = -1)
theorem ends_l {T : Int → Int} {n a p : Int} {s s2 : TS} (h : ends T n a s p s2) (h2 : ch T n (sk T n p) = 59 ∨ ch T n (sk T n p) = 0) : pCl T n a s = .inr (sk T n p, s2) := by
  rcases h with h | h
  · exact h
  · exfalso
    apply h.2
    rcases h2 with q | q <;> (rw [q]; rfl)
theorem ends_59 {T : Int → Int} {n a p : Int} {s s2 : TS} {g : Nat} (h : ends T n a s p s2) (h2 : ch T n (sk T n p) = 59) : pTnL T n (g + 1) a s = pTnL T n g (sk T n p + 1) s2 := by
  rw [pTnL_g (ends_l h (Or.inl h2)) (by dsimp only; rw [sk_idem]; omega) (by dsimp only; rw [sk_idem]; omega)]
  dsimp only
  rw [sk_idem]
theorem ends_0 {T : Int → Int} {n a p : Int} {s s2 : TS} {g : Nat} (h : ends T n a s p s2) (h2 : ch T n (sk T n p) = 0) : pTnL T n (g + 1) a s = .inr (sk T n p, s2) := by
  rw [pTnL_e (ends_l h (Or.inr h2)) (by dsimp only; rw [sk_idem]; omega)]
  dsimp only
  rw [sk_idem]
theorem ends_x {T : Int → Int} {n a p : Int} {s s2 : TS} {g : Nat} (h : ends T n a s p s2) (h2 : ¬ ch T n (sk T n p) = 0) (h3 : ¬ ch T n (sk T n p) = 59) : pTnL T n (g + 1) a s = .inl (sk T n p) := by
  rcases h with h | h
  · rw [pTnL_n h (by dsimp only; rw [sk_idem]; omega) (by dsimp only; rw [sk_idem]; omega)]
    dsimp only
    rw [sk_idem]
  · exact pTnL_f h.1
theorem ends_mb {T : Int → Int} {n a b v : Int} {s : TS} (h : ch T n (sk T n a) = 109 ∧ s.2.2.1 = 0) (h1 : itemOf (ch T n (sk T n (sk T n a + 1))) = 0) (h2 : pNum T n 2 1 99 (sk T n (sk T n a + 1) + 1) = .inr (b, v)) : ends T n a s b (s.1, v, 1, s.2.2.2) := by
  by_cases h3 : itemOf (ch T n (sk T n b)) = -1
  · exact Or.inl (by rw [pCl_m h (mt_b h1 h2 h3)]; rw [show uZ (fun _ => s.2.1) 0 v 0 = v from uZ_at])
  · exact Or.inr ⟨pCl_mf h (mt_d h1 h2 h3), h3⟩
theorem ends_mo {T : Int → Int} {n a : Int} {s : TS} (h : ch T n (sk T n a) = 109 ∧ s.2.2.1 = 0) (h1 : ¬ itemOf (ch T n (sk T n (sk T n a + 1))) = 0) : ends T n a s (sk T n (sk T n a + 1)) (s.1, s.2.1, 1, s.2.2.2) := by
  unfold ends
  rw [sk_idem]
  by_cases h3 : itemOf (ch T n (sk T n (sk T n a + 1))) = -1
  · exact Or.inl (pCl_m h (mt_n h3))
  · exact Or.inr ⟨pCl_mf h (mt_o h3 h1), h3⟩
end pt_29ref9
