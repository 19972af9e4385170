theorem cond_u {T : Int → Int} {n a e : Int} {k : Nat} (h : pUnit T n k a = .inl e) : pCond T n k a = .inl e := pCond_f h
theorem cond_a {T : Int → Int} {n a b e : Int} {k : Nat} {ts : List Int} (hn : n ≤ 160) (h0 : 0 ≤ b ∧ b ≤ n) (h : pUnit T n k a = .inr (b, ts)) (h2 : loopL T n 38 38 (pUnit T n k) 161 b ts = .inl e) : pCond T n k a = .inl e := by
  rw [pCond_r h, pMore_C hn k b ts h0.1 h0.2, h2]
theorem cond_o {T : Int → Int} {n a b c : Int} {k : Nat} {ts us : List Int} {r : LR} (hn : n ≤ 160) (h0 : 0 ≤ b ∧ b ≤ n) (h : pUnit T n k a = .inr (b, ts)) (h2 : loopL T n 38 38 (pUnit T n k) 161 b ts = .inr (c, us)) (h3 : loopL T n 124 124 (pCj T n k) 161 c us = r) : pCond T n k a = r := by
  rw [pCond_r h, pMore_C hn k b ts h0.1 h0.2, h2]; exact h3
def C_X12_unit (l : Launch) (K : Nat) (d : Nat) : Prop := ∀ (h0 : Nat) (hT : Nat) (f : Nat → AV) (T : Int → Int) (n : Int) (a : Int) (dp : Int) (hC : Nat) (hV : Nat) (hN : Nat) (C : Int → Int) (V : Int → Int) (Nk : Int → Int) (tx : Int) (k : Int), (f 1 = rv hT) → (f 2 = iv n) → (f 6 = rv hC) → (f 7 = rv hV) → (f 8 = rv hN) → (f 14 = iv tx) → (okT T n) → (0 ≤ a ∧ a ≤ n) → (0 ≤ tx ∧ tx ≤ 4) → (0 ≤ k ∧ k ≤ a) → (dp + K = 6 ∧ 0 ≤ dp) → AMv l yX12_unit cX12_unit 2 d 0 0 [rv h0] [(h0, ob 11 (uF (uF (uF f 3 (iv a)) 4 (iv (-1))) 5 (iv dp))), (hT, ar 160 T), (hC, ar 1700 C), (hV, ar 1700 V), (hN, ar 5 (uZ Nk tx k))] (fun u => (∃ a2 : Int, ∃ fl : Int, ∃ k2 : Int, ∃ dp2 : Int, ∃ C2 : Int → Int, ∃ V2 : Int → Int, u = [(h0, ob 11 (uF (uF (uF f 3 (iv a2)) 4 (iv fl)) 5 (iv dp2))), (hT, ar 160 T), (hC, ar 1700 C2), (hV, ar 1700 V2), (hN, ar 5 (uZ Nk tx k2))] ∧ pUnit T n K a = .inl fl ∧ (0 ≤ fl ∧ fl ≤ n) ∧ (a ≤ a2 ∧ a2 ≤ n + K + 1 ∧ k ≤ k2 ∧ k2 - k ≤ a2 - a ∧ dp ≤ dp2 ∧ dp2 ≤ 7)) ∨ (∃ a2 : Int, ∃ ts : List Int, u = [(h0, ob 11 (uF (uF (uF f 3 (iv a2)) 4 (iv (-1))) 5 (iv dp))), (hT, ar 160 T), (hC, ar 1700 (wrL C (340 * tx + k) (List.map kC ts))), (hV, ar 1700 (wrL V (340 * tx + k) (List.map kV ts))), (hN, ar 5 (uZ Nk tx (k + ((ts).length : Int))))] ∧ pUnit T n K a = .inr (a2, ts)))
def C_X12_goOnAnd_N (l : Launch) (K : Nat) (d : Nat) : Prop := ∀ (h0 : Nat) (hT : Nat) (f : Nat → AV) (T : Int → Int) (n : Int) (a : Int) (dp : Int) (hC : Nat) (hV : Nat) (hN : Nat) (C : Int → Int) (V : Int → Int) (Nk : Int → Int) (tx : Int) (k : Int) (tl : List Int), (f 1 = rv hT) → (f 2 = iv n) → (f 6 = rv hC) → (f 7 = rv hV) → (f 8 = rv hN) → (f 14 = iv tx) → (okT T n) → (0 ≤ a ∧ a ≤ n) → (0 ≤ tx ∧ tx ≤ 4) → (0 ≤ k ∧ k + (tl.length : Int) ≤ a) → (dp + K = 6 ∧ 0 ≤ dp) → AMv l yX12_goOnAnd cX12_goOnAnd 1 d 0 0 [rv h0] [(h0, ob 11 (uF (uF (uF f 3 (iv a)) 4 (iv (-1))) 5 (iv dp))), (hT, ar 160 T), (hC, ar 1700 (wrL C (340 * tx + k) (List.map kC tl))), (hV, ar 1700 (wrL V (340 * tx + k) (List.map kV tl))), (hN, ar 5 (uZ Nk tx (k + ((tl).length : Int))))] (fun u => (∃ a2 : Int, ∃ fl : Int, ∃ k2 : Int, ∃ dp2 : Int, ∃ C2 : Int → Int, ∃ V2 : Int → Int, u = [(h0, ob 11 (uF (uF (uF f 3 (iv a2)) 4 (iv fl)) 5 (iv dp2))), (hT, ar 160 T), (hC, ar 1700 C2), (hV, ar 1700 V2), (hN, ar 5 (uZ Nk tx k2))] ∧ loopL T n 38 38 (pUnit T n K) 161 a tl = .inl fl ∧ (0 ≤ fl ∧ fl ≤ n) ∧ (a ≤ a2 ∧ a2 ≤ n + K + 1 ∧ k + (tl.length : Int) ≤ k2 ∧ k2 - (k + (tl.length : Int)) ≤ a2 - a ∧ dp ≤ dp2 ∧ dp2 ≤ 7)) ∨ (∃ a2 : Int, ∃ ts : List Int, u = [(h0, ob 11 (uF (uF (uF f 3 (iv a2)) 4 (iv (-1))) 5 (iv dp))), (hT, ar 160 T), (hC, ar 1700 (wrL C (340 * tx + k) (List.map kC ts))), (hV, ar 1700 (wrL V (340 * tx + k) (List.map kV ts))), (hN, ar 5 (uZ Nk tx (k + ((ts).length : Int))))] ∧ loopL T n 38 38 (pUnit T n K) 161 a tl = .inr (a2, ts) ∧ (a ≤ a2 ∧ a2 ≤ n ∧ (tl.length : Int) ≤ (ts.length : Int) ∧ (ts.length : Int) - (tl.length : Int) ≤ a2 - a)))
def C_X12_goOnOr_N (l : Launch) (K : Nat) (d : Nat) : Prop := ∀ (h0 : Nat) (hT : Nat) (f : Nat → AV) (T : Int → Int) (n : Int) (a : Int) (dp : Int) (hC : Nat) (hV : Nat) (hN : Nat) (C : Int → Int) (V : Int → Int) (Nk : Int → Int) (tx : Int) (k : Int) (tl : List Int), (f 1 = rv hT) → (f 2 = iv n) → (f 6 = rv hC) → (f 7 = rv hV) → (f 8 = rv hN) → (f 14 = iv tx) → (okT T n) → (0 ≤ a ∧ a ≤ n) → (0 ≤ tx ∧ tx ≤ 4) → (0 ≤ k ∧ k + (tl.length : Int) ≤ a) → (dp + K = 6 ∧ 0 ≤ dp) → AMv l yX12_goOnOr cX12_goOnOr 1 d 0 0 [rv h0] [(h0, ob 11 (uF (uF (uF f 3 (iv a)) 4 (iv (-1))) 5 (iv dp))), (hT, ar 160 T), (hC, ar 1700 (wrL C (340 * tx + k) (List.map kC tl))), (hV, ar 1700 (wrL V (340 * tx + k) (List.map kV tl))), (hN, ar 5 (uZ Nk tx (k + ((tl).length : Int))))] (fun u => (∃ a2 : Int, ∃ fl : Int, ∃ k2 : Int, ∃ dp2 : Int, ∃ C2 : Int → Int, ∃ V2 : Int → Int, u = [(h0, ob 11 (uF (uF (uF f 3 (iv a2)) 4 (iv fl)) 5 (iv dp2))), (hT, ar 160 T), (hC, ar 1700 C2), (hV, ar 1700 V2), (hN, ar 5 (uZ Nk tx k2))] ∧ loopL T n 124 124 (pCj T n K) 161 a tl = .inl fl ∧ (0 ≤ fl ∧ fl ≤ n) ∧ (a ≤ a2 ∧ a2 ≤ n + K + 1 ∧ k + (tl.length : Int) ≤ k2 ∧ k2 - (k + (tl.length : Int)) ≤ a2 - a ∧ dp ≤ dp2 ∧ dp2 ≤ 7)) ∨ (∃ a2 : Int, ∃ ts : List Int, u = [(h0, ob 11 (uF (uF (uF f 3 (iv a2)) 4 (iv (-1))) 5 (iv dp))), (hT, ar 160 T), (hC, ar 1700 (wrL C (340 * tx + k) (List.map kC ts))), (hV, ar 1700 (wrL V (340 * tx + k) (List.map kV ts))), (hN, ar 5 (uZ Nk tx (k + ((ts).length : Int))))] ∧ loopL T n 124 124 (pCj T n K) 161 a tl = .inr (a2, ts) ∧ (a ≤ a2 ∧ a2 ≤ n ∧ (tl.length : Int) ≤ (ts.length : Int) ∧ (ts.length : Int) - (tl.length : Int) ≤ a2 - a)))
def C_X12_condition (l : Launch) (K : Nat) (d : Nat) : Prop := ∀ (h0 : Nat) (hT : Nat) (f : Nat → AV) (T : Int → Int) (n : Int) (a : Int) (dp : Int) (hC : Nat) (hV : Nat) (hN : Nat) (C : Int → Int) (V : Int → Int) (Nk : Int → Int) (tx : Int) (k : Int), (f 1 = rv hT) → (f 2 = iv n) → (f 6 = rv hC) → (f 7 = rv hV) → (f 8 = rv hN) → (f 14 = iv tx) → (okT T n) → (0 ≤ a ∧ a ≤ n) → (0 ≤ tx ∧ tx ≤ 4) → (0 ≤ k ∧ k ≤ a) → (dp + K = 6 ∧ 0 ≤ dp) → AMv l yX12_condition cX12_condition 1 d 0 0 [rv h0] [(h0, ob 11 (uF (uF (uF f 3 (iv a)) 4 (iv (-1))) 5 (iv dp))), (hT, ar 160 T), (hC, ar 1700 C), (hV, ar 1700 V), (hN, ar 5 (uZ Nk tx k))] (fun u => (∃ a2 : Int, ∃ fl : Int, ∃ k2 : Int, ∃ dp2 : Int, ∃ C2 : Int → Int, ∃ V2 : Int → Int, u = [(h0, ob 11 (uF (uF (uF f 3 (iv a2)) 4 (iv fl)) 5 (iv dp2))), (hT, ar 160 T), (hC, ar 1700 C2), (hV, ar 1700 V2), (hN, ar 5 (uZ Nk tx k2))] ∧ pCond T n K a = .inl fl ∧ (0 ≤ fl ∧ fl ≤ n) ∧ (a ≤ a2 ∧ a2 ≤ n + K + 1 ∧ k ≤ k2 ∧ k2 - k ≤ a2 - a ∧ dp ≤ dp2 ∧ dp2 ≤ 7)) ∨ (∃ a2 : Int, ∃ ts : List Int, u = [(h0, ob 11 (uF (uF (uF f 3 (iv a2)) 4 (iv (-1))) 5 (iv dp))), (hT, ar 160 T), (hC, ar 1700 (wrL C (340 * tx + k) (List.map kC ts))), (hV, ar 1700 (wrL V (340 * tx + k) (List.map kV ts))), (hN, ar 5 (uZ Nk tx (k + ((ts).length : Int))))] ∧ pCond T n K a = .inr (a2, ts)))
set_option maxHeartbeats 4000000 in
set_option maxRecDepth 100000 in
theorem kX12_goOnAnd_E (l : Launch) (h0 : Nat) (f : Nat → AV) (a : Int) (w : Int) (dp : Int) (hw : ¬ w = -1) (hw2 : inR w) : AMv l yX12_goOnAnd cX12_goOnAnd 1 2 0 0 [rv h0] [(h0, ob 11 (uF (uF (uF f 3 (iv a)) 4 (iv w)) 5 (iv dp)))] (fun u => u = [(h0, ob 11 (uF (uF (uF f 3 (iv a)) 4 (iv w)) 5 (iv dp)))]) := by
  refine AMv.of2 rfl (nle rfl) ?_
  intro D G A p e s m args below meth c Po hPo hnm X
  refine S_aload_n X dX12_goOnAnd_0 rfl rfl ?_
  refine S_get (v := iv w) X fgX12_118_11 0 rfl rfl dX12_goOnAnd_1 ?_
  refine S_iconst X dX12_goOnAnd_4 ?_
  refine S_icmp_ne (tgt := 41) X dX12_goOnAnd_5 (by decide) (by omega) (by decide) (fun c_1 => ?_) (fun c_1 => by exfalso; omega)
  exact S_vret X (nle rfl) (nle rfl) dX12_goOnAnd_41 (hPo _ (rfl))
set_option maxHeartbeats 4000000 in
set_option maxRecDepth 100000 in
theorem kX12_goOnOr_E (l : Launch) (h0 : Nat) (f : Nat → AV) (a : Int) (w : Int) (dp : Int) (hw : ¬ w = -1) (hw2 : inR w) : AMv l yX12_goOnOr cX12_goOnOr 1 2 0 0 [rv h0] [(h0, ob 11 (uF (uF (uF f 3 (iv a)) 4 (iv w)) 5 (iv dp)))] (fun u => u = [(h0, ob 11 (uF (uF (uF f 3 (iv a)) 4 (iv w)) 5 (iv dp)))]) := by
  refine AMv.of2 rfl (nle rfl) ?_
  intro D G A p e s m args below meth c Po hPo hnm X
  refine S_aload_n X dX12_goOnOr_0 rfl rfl ?_
  refine S_get (v := iv w) X fgX12_118_11 0 rfl rfl dX12_goOnOr_1 ?_
  refine S_iconst X dX12_goOnOr_4 ?_
  refine S_icmp_ne (tgt := 45) X dX12_goOnOr_5 (by decide) (by omega) (by decide) (fun c_1 => ?_) (fun c_1 => by exfalso; omega)
  exact S_vret X (nle rfl) (nle rfl) dX12_goOnOr_45 (hPo _ (rfl))
set_option maxHeartbeats 4000000 in
set_option maxRecDepth 100000 in
theorem kX12_goOnAnd_N (l : Launch) (K : Nat) (d : Nat) (hd : 5 ≤ d) (d1 : Nat) (hd1 : d1 ≤ d) (hun : C_X12_unit l K d1) : C_X12_goOnAnd_N l K (d + 1) := by
  intro h0 hT f T n a dp hC hV hN C V Nk tx k tl hf0 hf1 hf2 hf3 hf4 hf5 okT ha ht hk hw
  refine AMv.of2 rfl (nle rfl) ?_
  intro D G A p e s m args below meth c Po hPo hnm X
  obtain ⟨hn0, hn1, hT2⟩ := id okT
  have hsk := sk_in (T := T) ha.2
  have hcm := chM_or okT (a := sk T n a) (by omega) (by omega)
  refine S_aload_n X dX12_goOnAnd_0 rfl rfl ?_
  refine S_get (v := iv (-1)) X fgX12_118_11 0 rfl rfl dX12_goOnAnd_1 ?_
  refine S_iconst X dX12_goOnAnd_4 ?_
  refine S_icmp_ne (tgt := 41) X dX12_goOnAnd_5 (by decide) (by decide) (by decide) (fun h9 => absurd h9 (by decide)) (fun _ => ?_)
  refine S_aload_n X dX12_goOnAnd_8 rfl rfl ?_
  refine S_calli X (kX12_look l h0 hT f T n a (-1) dp hf0 hf1 (by omega) (by omega)) (is := [0, 1]) rfl (run_V X lkX12_130 0 rfl rfl (is := [0, 1]) (avs := []) (rest := []) rfl rfl (nle rfl) ⟨by simp only [rmD]; omega, by simp only [rmD]; omega⟩ ⟨nle rfl, nle rfl⟩ dX12_goOnAnd_9 (by decide) rfl) (fun z_4 u_2 hp_3 => ?_)
  obtain ⟨hz_5, hu_6⟩ := hp_3
  subst hz_5
  subst hu_6
  refine ⟨rfl, ?_⟩
  refine S_w (ws' := [(h0, ob 11 (uF (uF (uF f 3 (iv (sk T n a))) 4 (iv (-1))) 5 (iv dp))), (hT, ar 160 T), (hC, ar 1700 (wrL C (340 * tx + k) (List.map kC tl))), (hV, ar 1700 (wrL V (340 * tx + k) (List.map kV tl))), (hN, ar 5 (uZ Nk tx (k + ((tl).length : Int))))]) rfl ?_
  have hsk_7 := sk_in (T := T) (n := n) (a := a) (by omega)
  have hcm_7 := chM_or okT (a := sk T n a) (by omega) (by omega)
  refine S_bipush X dX12_goOnAnd_12 rfl ?_
  refine S_icmp_ne (tgt := 41) X dX12_goOnAnd_14 (by decide) (by omega) (by decide) (fun c_8 => ?_) (fun c_8 => ?_)
  ·
    exact S_vret X (nle rfl) (nle rfl) dX12_goOnAnd_41 (hPo _ (Or.inr ⟨_, _, rfl, lpE (by omega) (by omega), by omega⟩))
  ·
    have lp17_1 : ∀ (N : Nat) (a1 : Int) (acc : List Int) (L : Nat → Option AV), a ≤ a1 ∧ a1 ≤ n → sk T n a1 < n → ch T n (sk T n a1) = 38 → (tl.length : Int) ≤ (acc.length : Int) ∧ (acc.length : Int) - (tl.length : Int) ≤ a1 - a → (∃ f : Nat, 161 - a1 ≤ f ∧ loopL T n 38 38 (pUnit T n K) f a1 acc = loopL T n 38 38 (pUnit T n K) 161 a tl) → L 0 = some (rv h0) → 161 - a1 < (N : Int) → S_ p l e (rmD (d + 1) 0 0) s m args below meth c (MQ below (QcV D G A Po) args s 0 0 A) D G A 1 0 0 17 L [] [(h0, ob 11 (uF (uF (uF f 3 (iv (sk T n a1))) 4 (iv (-1))) 5 (iv dp))), (hT, ar 160 T), (hC, ar 1700 (wrL C (340 * tx + k) (List.map kC acc))), (hV, ar 1700 (wrL V (340 * tx + k) (List.map kV acc))), (hN, ar 5 (uZ Nk tx (k + ((acc).length : Int))))] := by
      intro N
      induction N with
      | zero =>
        intro a1 acc L17 hi hlt hc1 hbd hkl hL17_0 hN17
        exfalso; omega
      | succ N ih17 =>
        intro a1 acc L17 hi hlt hc1 hbd hkl hL17_0 hN17
        obtain ⟨f9, hf9, hk9⟩ := hkl
        obtain ⟨g9, rfl⟩ : ∃ g, f9 = g + 1 := ⟨f9 - 1, by omega⟩
        have hsk1 := sk_in (T := T) (n := n) (a := a1) (by omega)
        refine S_aload_n X dX12_goOnAnd_17 rfl hL17_0 ?_
        refine S_dup X dX12_goOnAnd_18 ?_
        refine S_get (v := iv (sk T n a1)) X fgX12_111_11 0 rfl rfl dX12_goOnAnd_19 ?_
        refine S_iconst X dX12_goOnAnd_22 ?_
        refine S_iadd X dX12_goOnAnd_23 ?_
        refine S_put X fpX12_111_11 0 rfl FT_i dX12_goOnAnd_24 ?_
        refine S_w (ws' := [(h0, ob 11 (uF (uF (uF f 3 (iv ((sk T n a1) + 1))) 4 (iv (-1))) 5 (iv dp))), (hT, ar 160 T), (hC, ar 1700 (wrL C (340 * tx + k) (List.map kC acc))), (hV, ar 1700 (wrL V (340 * tx + k) (List.map kV acc))), (hN, ar 5 (uZ Nk tx (k + ((acc).length : Int))))]) (by simp only [List.set]; rw [uF_mv (j := 5) (k := 3) (by decide), uF_mv (j := 4) (k := 3) (by decide), uF_same (k := 3)]) ?_
        refine S_aload_n X dX12_goOnAnd_27 rfl hL17_0 ?_
        refine S_callv X (hun h0 hT f T n ((sk T n a1) + 1) dp hC hV hN (wrL C (340 * tx + k) (List.map kC acc)) (wrL V (340 * tx + k) (List.map kV acc)) Nk tx (k + ((acc).length : Int)) hf0 hf1 hf2 hf3 hf4 hf5 (by omega) (by omega) (by omega) (by omega) (by omega)) (is := [0, 1, 2, 3, 4]) rfl (run_V X lkX12_167 0 rfl rfl (is := [0, 1, 2, 3, 4]) (avs := []) (rest := []) rfl rfl (nle rfl) ⟨by simp only [rmD]; omega, by simp only [rmD]; omega⟩ ⟨nle rfl, nle rfl⟩ dX12_goOnAnd_28 (by decide) rfl) (fun u_9 hp_10 => ?_)
        rcases hp_10 with ⟨a2_12, fl_13, k2_14, dp2_15, C2_16, V2_17, hu_19, hq_20, hfl_21, hr_22⟩ | ⟨a2_23, ts_24, hu_26, hq_27⟩
        ·
          subst hu_19
          refine ⟨rfl, ?_⟩
          refine S_w (ws' := [(h0, ob 11 (uF (uF (uF f 3 (iv a2_12)) 4 (iv fl_13)) 5 (iv dp2_15))), (hT, ar 160 T), (hC, ar 1700 C2_16), (hV, ar 1700 V2_17), (hN, ar 5 (uZ Nk tx k2_14))]) rfl ?_
          refine S_aload_n X dX12_goOnAnd_31 rfl hL17_0 ?_
          refine S_bipush X dX12_goOnAnd_32 rfl ?_
          refine S_iconst X dX12_goOnAnd_34 ?_
          refine S_callv X (kX12_put l h0 f a2_12 fl_13 dp2_15 hC hV hN C2_16 V2_17 Nk tx k2_14 10 0 hf2 hf3 hf4 hf5 (by omega) (by omega)) (is := [0, 2, 3, 4]) rfl (run_V X lkX12_140 0 rfl rfl (is := [0, 2, 3, 4]) (avs := [iv 10, iv 0]) (rest := []) rfl rfl (nle rfl) ⟨by simp only [rmD]; omega, by simp only [rmD]; omega⟩ ⟨nle rfl, nle rfl⟩ dX12_goOnAnd_35 (by decide) rfl) (fun u_28 hp_29 => ?_)
          have hu_32 := hp_29
          subst hu_32
          refine ⟨rfl, ?_⟩
          refine S_w (ws' := [(h0, ob 11 (uF (uF (uF f 3 (iv a2_12)) 4 (iv fl_13)) 5 (iv dp2_15))), (hT, ar 160 T), (hC, ar 1700 (uZ C2_16 (340 * tx + k2_14) 10)), (hV, ar 1700 (uZ V2_17 (340 * tx + k2_14) 0)), (hN, ar 5 (uZ Nk tx (k2_14 + 1)))]) rfl ?_
          refine S_goto (tgt := 0) X dX12_goOnAnd_38 (by decide) ?_
          refine S_aload_n X dX12_goOnAnd_0 rfl hL17_0 ?_
          refine S_get (v := iv fl_13) X fgX12_118_11 0 rfl rfl dX12_goOnAnd_1 ?_
          refine S_iconst X dX12_goOnAnd_4 ?_
          refine S_icmp_ne (tgt := 41) X dX12_goOnAnd_5 (by decide) (by omega) (by decide) (fun c_33 => ?_) (fun c_33 => by exfalso; omega)
          exact S_vret X (nle rfl) (nle rfl) dX12_goOnAnd_41 (hPo _ (Or.inl ⟨_, _, _, _, _, _, rfl, hk9.symm.trans (loopL_f (by omega) hq_20), by omega, by omega⟩))
        ·
          subst hu_26
          refine ⟨rfl, ?_⟩
          refine S_w (ws' := [(h0, ob 11 (uF (uF (uF f 3 (iv a2_23)) 4 (iv (-1))) 5 (iv dp))), (hT, ar 160 T), (hC, ar 1700 (wrL (wrL C (340 * tx + k) (List.map kC acc)) (340 * tx + (k + ((acc).length : Int))) (List.map kC ts_24))), (hV, ar 1700 (wrL (wrL V (340 * tx + k) (List.map kV acc)) (340 * tx + (k + ((acc).length : Int))) (List.map kV ts_24))), (hN, ar 5 (uZ Nk tx ((k + ((acc).length : Int)) + ((ts_24).length : Int))))]) rfl ?_
          refine S_w (ws' := [(h0, ob 11 (uF (uF (uF f 3 (iv a2_23)) 4 (iv (-1))) 5 (iv dp))), (hT, ar 160 T), (hC, ar 1700 (wrL C (340 * tx + k) (List.map kC (acc ++ ts_24)))), (hV, ar 1700 (wrL V (340 * tx + k) (List.map kV (acc ++ ts_24)))), (hN, ar 5 (uZ Nk tx (k + ((acc ++ ts_24).length : Int))))]) (by simp only [rW_app, rK_app]) ?_
          have ho_34 := (pUnit_ok (T := T) hn1 K (sk T n a1 + 1) (by omega) (by omega)).2 _ hq_27
          dsimp only at ho_34
          have hln_34 : (((acc ++ ts_24).length : Nat) : Int) = _ := congrArg Nat.cast List.length_append
          rw [Int.natCast_add] at hln_34
          refine S_aload_n X dX12_goOnAnd_31 rfl hL17_0 ?_
          refine S_bipush X dX12_goOnAnd_32 rfl ?_
          refine S_iconst X dX12_goOnAnd_34 ?_
          refine S_callv X (kX12_put l h0 f a2_23 (-1) dp hC hV hN (wrL C (340 * tx + k) (List.map kC (acc ++ ts_24))) (wrL V (340 * tx + k) (List.map kV (acc ++ ts_24))) Nk tx (k + ((acc ++ ts_24).length : Int)) 10 0 hf2 hf3 hf4 hf5 (by omega) (by omega)) (is := [0, 2, 3, 4]) rfl (run_V X lkX12_140 0 rfl rfl (is := [0, 2, 3, 4]) (avs := [iv 10, iv 0]) (rest := []) rfl rfl (nle rfl) ⟨by simp only [rmD]; omega, by simp only [rmD]; omega⟩ ⟨nle rfl, nle rfl⟩ dX12_goOnAnd_35 (by decide) rfl) (fun u_35 hp_36 => ?_)
          have hu_39 := hp_36
          subst hu_39
          refine ⟨rfl, ?_⟩
          refine S_w (ws' := [(h0, ob 11 (uF (uF (uF f 3 (iv a2_23)) 4 (iv (-1))) 5 (iv dp))), (hT, ar 160 T), (hC, ar 1700 (uZ (wrL C (340 * tx + k) (List.map kC (acc ++ ts_24))) (340 * tx + (k + ((acc ++ ts_24).length : Int))) 10)), (hV, ar 1700 (uZ (wrL V (340 * tx + k) (List.map kV (acc ++ ts_24))) (340 * tx + (k + ((acc ++ ts_24).length : Int))) 0)), (hN, ar 5 (uZ Nk tx ((k + ((acc ++ ts_24).length : Int)) + 1)))]) rfl ?_
          refine S_w (ws' := [(h0, ob 11 (uF (uF (uF f 3 (iv a2_23)) 4 (iv (-1))) 5 (iv dp))), (hT, ar 160 T), (hC, ar 1700 (wrL C (340 * tx + k) (List.map kC (acc ++ ts_24 ++ [-38])))), (hV, ar 1700 (wrL V (340 * tx + k) (List.map kV (acc ++ ts_24 ++ [-38])))), (hN, ar 5 (uZ Nk tx (k + ((acc ++ ts_24 ++ [-38]).length : Int))))]) (by rw [rW_put (g := kC) (c0 := 10) (-38) rfl, rW_put (g := kV) (c0 := 0) (-38) rfl, rK_put (-38)]) ?_
          have hln_40 : (((acc ++ ts_24 ++ [-38]).length : Nat) : Int) = _ := congrArg Nat.cast List.length_append
          rw [Int.natCast_add, List.length_singleton] at hln_40
          have hkk_41 := (lpS (f := g9) (acc := acc) (show ch T n (sk T n a1) = 38 by omega) (by omega) hq_27).symm.trans hk9
          refine S_goto (tgt := 0) X dX12_goOnAnd_38 (by decide) ?_
          refine S_aload_n X dX12_goOnAnd_0 rfl hL17_0 ?_
          refine S_get (v := iv (-1)) X fgX12_118_11 0 rfl rfl dX12_goOnAnd_1 ?_
          refine S_iconst X dX12_goOnAnd_4 ?_
          refine S_icmp_ne (tgt := 41) X dX12_goOnAnd_5 (by decide) (by decide) (by decide) (fun h9 => absurd h9 (by decide)) (fun _ => ?_)
          refine S_aload_n X dX12_goOnAnd_8 rfl hL17_0 ?_
          refine S_calli X (kX12_look l h0 hT f T n a2_23 (-1) dp hf0 hf1 (by omega) (by omega)) (is := [0, 1]) rfl (run_V X lkX12_130 0 rfl rfl (is := [0, 1]) (avs := []) (rest := []) rfl rfl (nle rfl) ⟨by simp only [rmD]; omega, by simp only [rmD]; omega⟩ ⟨nle rfl, nle rfl⟩ dX12_goOnAnd_9 (by decide) rfl) (fun z_45 u_43 hp_44 => ?_)
          obtain ⟨hz_46, hu_47⟩ := hp_44
          subst hz_46
          subst hu_47
          refine ⟨rfl, ?_⟩
          refine S_w (ws' := [(h0, ob 11 (uF (uF (uF f 3 (iv (sk T n a2_23))) 4 (iv (-1))) 5 (iv dp))), (hT, ar 160 T), (hC, ar 1700 (wrL C (340 * tx + k) (List.map kC (acc ++ ts_24 ++ [-38])))), (hV, ar 1700 (wrL V (340 * tx + k) (List.map kV (acc ++ ts_24 ++ [-38])))), (hN, ar 5 (uZ Nk tx (k + ((acc ++ ts_24 ++ [-38]).length : Int))))]) rfl ?_
          have hsk_48 := sk_in (T := T) (n := n) (a := a2_23) (by omega)
          have hcm_48 := chM_or okT (a := sk T n a2_23) (by omega) (by omega)
          refine S_bipush X dX12_goOnAnd_12 rfl ?_
          refine S_icmp_ne (tgt := 41) X dX12_goOnAnd_14 (by decide) (by omega) (by decide) (fun c_49 => ?_) (fun c_49 => ?_)
          ·
            exact S_vret X (nle rfl) (nle rfl) dX12_goOnAnd_41 (hPo _ (Or.inr ⟨_, _, rfl, hkk_41.symm.trans (lpE (by omega) (by omega)), by omega⟩))
          ·
            exact ih17 a2_23 (acc ++ ts_24 ++ [-38]) _ (by omega) (by omega) (by omega) (by omega) (⟨g9, by omega, hkk_41⟩) hL17_0 (by omega)
    exact lp17_1 (Int.toNat (161 - a) + 1) a tl _ (by omega) (by omega) (by omega) (by omega) (⟨161, by omega, rfl⟩) rfl (by omega)
set_option maxHeartbeats 4000000 in
set_option maxRecDepth 100000 in
theorem kX12_goOnOr_N (l : Launch) (K : Nat) (d : Nat) (hd : 5 ≤ d) (d1 : Nat) (hd1 : d1 ≤ d) (hun : C_X12_unit l K d1) (d2 : Nat) (hd2 : d2 ≤ d) (han : C_X12_goOnAnd_N l K d2) : C_X12_goOnOr_N l K (d + 1) := by
  intro h0 hT f T n a dp hC hV hN C V Nk tx k tl hf0 hf1 hf2 hf3 hf4 hf5 okT ha ht hk hw
  refine AMv.of2 rfl (nle rfl) ?_
  intro D G A p e s m args below meth c Po hPo hnm X
  obtain ⟨hn0, hn1, hT2⟩ := id okT
  have hsk := sk_in (T := T) ha.2
  have hcm := chM_or okT (a := sk T n a) (by omega) (by omega)
  refine S_aload_n X dX12_goOnOr_0 rfl rfl ?_
  refine S_get (v := iv (-1)) X fgX12_118_11 0 rfl rfl dX12_goOnOr_1 ?_
  refine S_iconst X dX12_goOnOr_4 ?_
  refine S_icmp_ne (tgt := 45) X dX12_goOnOr_5 (by decide) (by decide) (by decide) (fun h9 => absurd h9 (by decide)) (fun _ => ?_)
  refine S_aload_n X dX12_goOnOr_8 rfl rfl ?_
  refine S_calli X (kX12_look l h0 hT f T n a (-1) dp hf0 hf1 (by omega) (by omega)) (is := [0, 1]) rfl (run_V X lkX12_130 0 rfl rfl (is := [0, 1]) (avs := []) (rest := []) rfl rfl (nle rfl) ⟨by simp only [rmD]; omega, by simp only [rmD]; omega⟩ ⟨nle rfl, nle rfl⟩ dX12_goOnOr_9 (by decide) rfl) (fun z_4 u_2 hp_3 => ?_)
  obtain ⟨hz_5, hu_6⟩ := hp_3
  subst hz_5
  subst hu_6
  refine ⟨rfl, ?_⟩
  refine S_w (ws' := [(h0, ob 11 (uF (uF (uF f 3 (iv (sk T n a))) 4 (iv (-1))) 5 (iv dp))), (hT, ar 160 T), (hC, ar 1700 (wrL C (340 * tx + k) (List.map kC tl))), (hV, ar 1700 (wrL V (340 * tx + k) (List.map kV tl))), (hN, ar 5 (uZ Nk tx (k + ((tl).length : Int))))]) rfl ?_
  have hsk_7 := sk_in (T := T) (n := n) (a := a) (by omega)
  have hcm_7 := chM_or okT (a := sk T n a) (by omega) (by omega)
  refine S_bipush X dX12_goOnOr_12 rfl ?_
  refine S_icmp_ne (tgt := 45) X dX12_goOnOr_14 (by decide) (by omega) (by decide) (fun c_8 => ?_) (fun c_8 => ?_)
  ·
    exact S_vret X (nle rfl) (nle rfl) dX12_goOnOr_45 (hPo _ (Or.inr ⟨_, _, rfl, lpE (by omega) (by omega), by omega⟩))
  ·
    have lp17_1 : ∀ (N : Nat) (a1 : Int) (acc : List Int) (L : Nat → Option AV), a ≤ a1 ∧ a1 ≤ n → sk T n a1 < n → ch T n (sk T n a1) = 124 → (tl.length : Int) ≤ (acc.length : Int) ∧ (acc.length : Int) - (tl.length : Int) ≤ a1 - a → (∃ f : Nat, 161 - a1 ≤ f ∧ loopL T n 124 124 (pCj T n K) f a1 acc = loopL T n 124 124 (pCj T n K) 161 a tl) → L 0 = some (rv h0) → 161 - a1 < (N : Int) → S_ p l e (rmD (d + 1) 0 0) s m args below meth c (MQ below (QcV D G A Po) args s 0 0 A) D G A 1 0 0 17 L [] [(h0, ob 11 (uF (uF (uF f 3 (iv (sk T n a1))) 4 (iv (-1))) 5 (iv dp))), (hT, ar 160 T), (hC, ar 1700 (wrL C (340 * tx + k) (List.map kC acc))), (hV, ar 1700 (wrL V (340 * tx + k) (List.map kV acc))), (hN, ar 5 (uZ Nk tx (k + ((acc).length : Int))))] := by
      intro N
      induction N with
      | zero =>
        intro a1 acc L17 hi hlt hc1 hbd hkl hL17_0 hN17
        exfalso; omega
      | succ N ih17 =>
        intro a1 acc L17 hi hlt hc1 hbd hkl hL17_0 hN17
        obtain ⟨f9, hf9, hk9⟩ := hkl
        obtain ⟨g9, rfl⟩ : ∃ g, f9 = g + 1 := ⟨f9 - 1, by omega⟩
        have hsk1 := sk_in (T := T) (n := n) (a := a1) (by omega)
        refine S_aload_n X dX12_goOnOr_17 rfl hL17_0 ?_
        refine S_dup X dX12_goOnOr_18 ?_
        refine S_get (v := iv (sk T n a1)) X fgX12_111_11 0 rfl rfl dX12_goOnOr_19 ?_
        refine S_iconst X dX12_goOnOr_22 ?_
        refine S_iadd X dX12_goOnOr_23 ?_
        refine S_put X fpX12_111_11 0 rfl FT_i dX12_goOnOr_24 ?_
        refine S_w (ws' := [(h0, ob 11 (uF (uF (uF f 3 (iv ((sk T n a1) + 1))) 4 (iv (-1))) 5 (iv dp))), (hT, ar 160 T), (hC, ar 1700 (wrL C (340 * tx + k) (List.map kC acc))), (hV, ar 1700 (wrL V (340 * tx + k) (List.map kV acc))), (hN, ar 5 (uZ Nk tx (k + ((acc).length : Int))))]) (by simp only [List.set]; rw [uF_mv (j := 5) (k := 3) (by decide), uF_mv (j := 4) (k := 3) (by decide), uF_same (k := 3)]) ?_
        refine S_aload_n X dX12_goOnOr_27 rfl hL17_0 ?_
        refine S_callv X (hun h0 hT f T n ((sk T n a1) + 1) dp hC hV hN (wrL C (340 * tx + k) (List.map kC acc)) (wrL V (340 * tx + k) (List.map kV acc)) Nk tx (k + ((acc).length : Int)) hf0 hf1 hf2 hf3 hf4 hf5 (by omega) (by omega) (by omega) (by omega) (by omega)) (is := [0, 1, 2, 3, 4]) rfl (run_V X lkX12_167 0 rfl rfl (is := [0, 1, 2, 3, 4]) (avs := []) (rest := []) rfl rfl (nle rfl) ⟨by simp only [rmD]; omega, by simp only [rmD]; omega⟩ ⟨nle rfl, nle rfl⟩ dX12_goOnOr_28 (by decide) rfl) (fun u_9 hp_10 => ?_)
        rcases hp_10 with ⟨a2_12, fl_13, k2_14, dp2_15, C2_16, V2_17, hu_19, hq_20, hfl_21, hr_22⟩ | ⟨a2_23, ts_24, hu_26, hq_27⟩
        ·
          subst hu_19
          refine ⟨rfl, ?_⟩
          refine S_w (ws' := [(h0, ob 11 (uF (uF (uF f 3 (iv a2_12)) 4 (iv fl_13)) 5 (iv dp2_15))), (hT, ar 160 T), (hC, ar 1700 C2_16), (hV, ar 1700 V2_17), (hN, ar 5 (uZ Nk tx k2_14))]) rfl ?_
          refine S_aload_n X dX12_goOnOr_31 rfl hL17_0 ?_
          refine S_callv X (kX12_goOnAnd_E l h0 f a2_12 fl_13 dp2_15 (by omega) (by omega)) (is := [0]) rfl (run_V X lkX12_176 0 rfl rfl (is := [0]) (avs := []) (rest := []) rfl rfl (nle rfl) ⟨by simp only [rmD]; omega, by simp only [rmD]; omega⟩ ⟨nle rfl, nle rfl⟩ dX12_goOnOr_32 (by decide) rfl) (fun u_28 hp_29 => ?_)
          have hu_32 := hp_29
          subst hu_32
          refine ⟨rfl, ?_⟩
          refine S_w (ws' := [(h0, ob 11 (uF (uF (uF f 3 (iv a2_12)) 4 (iv fl_13)) 5 (iv dp2_15))), (hT, ar 160 T), (hC, ar 1700 C2_16), (hV, ar 1700 V2_17), (hN, ar 5 (uZ Nk tx k2_14))]) rfl ?_
          refine S_aload_n X dX12_goOnOr_35 rfl hL17_0 ?_
          refine S_bipush X dX12_goOnOr_36 rfl ?_
          refine S_iconst X dX12_goOnOr_38 ?_
          refine S_callv X (kX12_put l h0 f a2_12 fl_13 dp2_15 hC hV hN C2_16 V2_17 Nk tx k2_14 11 0 hf2 hf3 hf4 hf5 (by omega) (by omega)) (is := [0, 2, 3, 4]) rfl (run_V X lkX12_140 0 rfl rfl (is := [0, 2, 3, 4]) (avs := [iv 11, iv 0]) (rest := []) rfl rfl (nle rfl) ⟨by simp only [rmD]; omega, by simp only [rmD]; omega⟩ ⟨nle rfl, nle rfl⟩ dX12_goOnOr_39 (by decide) rfl) (fun u_33 hp_34 => ?_)
          have hu_37 := hp_34
          subst hu_37
          refine ⟨rfl, ?_⟩
          refine S_w (ws' := [(h0, ob 11 (uF (uF (uF f 3 (iv a2_12)) 4 (iv fl_13)) 5 (iv dp2_15))), (hT, ar 160 T), (hC, ar 1700 (uZ C2_16 (340 * tx + k2_14) 11)), (hV, ar 1700 (uZ V2_17 (340 * tx + k2_14) 0)), (hN, ar 5 (uZ Nk tx (k2_14 + 1)))]) rfl ?_
          refine S_goto (tgt := 0) X dX12_goOnOr_42 (by decide) ?_
          refine S_aload_n X dX12_goOnOr_0 rfl hL17_0 ?_
          refine S_get (v := iv fl_13) X fgX12_118_11 0 rfl rfl dX12_goOnOr_1 ?_
          refine S_iconst X dX12_goOnOr_4 ?_
          refine S_icmp_ne (tgt := 45) X dX12_goOnOr_5 (by decide) (by omega) (by decide) (fun c_38 => ?_) (fun c_38 => by exfalso; omega)
          exact S_vret X (nle rfl) (nle rfl) dX12_goOnOr_45 (hPo _ (Or.inl ⟨_, _, _, _, _, _, rfl, hk9.symm.trans (loopL_f (by omega) (seqG_f hq_20)), by omega, by omega⟩))
        ·
          subst hu_26
          refine ⟨rfl, ?_⟩
          refine S_w (ws' := [(h0, ob 11 (uF (uF (uF f 3 (iv a2_23)) 4 (iv (-1))) 5 (iv dp))), (hT, ar 160 T), (hC, ar 1700 (wrL (wrL C (340 * tx + k) (List.map kC acc)) (340 * tx + (k + ((acc).length : Int))) (List.map kC ts_24))), (hV, ar 1700 (wrL (wrL V (340 * tx + k) (List.map kV acc)) (340 * tx + (k + ((acc).length : Int))) (List.map kV ts_24))), (hN, ar 5 (uZ Nk tx ((k + ((acc).length : Int)) + ((ts_24).length : Int))))]) rfl ?_
          have ho_39 := (pUnit_ok (T := T) hn1 K (sk T n a1 + 1) (by omega) (by omega)).2 _ hq_27
          dsimp only at ho_39
          refine S_aload_n X dX12_goOnOr_31 rfl hL17_0 ?_
          refine S_callv X (han h0 hT f T n a2_23 dp hC hV hN (wrL C (340 * tx + k) (List.map kC acc)) (wrL V (340 * tx + k) (List.map kV acc)) Nk tx (k + ((acc).length : Int)) ts_24 hf0 hf1 hf2 hf3 hf4 hf5 (by omega) (by omega) (by omega) (by omega) (by omega)) (is := [0, 1, 2, 3, 4]) rfl (run_V X lkX12_176 0 rfl rfl (is := [0, 1, 2, 3, 4]) (avs := []) (rest := []) rfl rfl (nle rfl) ⟨by simp only [rmD]; omega, by simp only [rmD]; omega⟩ ⟨nle rfl, nle rfl⟩ dX12_goOnOr_32 (by decide) rfl) (fun u_40 hp_41 => ?_)
          rcases hp_41 with ⟨a2_43, fl_44, k2_45, dp2_46, C2_47, V2_48, hu_50, hq_51, hfl_52, hr_53⟩ | ⟨a2_54, ts_55, hu_57, hq_58, hr2_59⟩
          ·
            subst hu_50
            refine ⟨rfl, ?_⟩
            refine S_w (ws' := [(h0, ob 11 (uF (uF (uF f 3 (iv a2_43)) 4 (iv fl_44)) 5 (iv dp2_46))), (hT, ar 160 T), (hC, ar 1700 C2_47), (hV, ar 1700 V2_48), (hN, ar 5 (uZ Nk tx k2_45))]) rfl ?_
            refine S_aload_n X dX12_goOnOr_35 rfl hL17_0 ?_
            refine S_bipush X dX12_goOnOr_36 rfl ?_
            refine S_iconst X dX12_goOnOr_38 ?_
            refine S_callv X (kX12_put l h0 f a2_43 fl_44 dp2_46 hC hV hN C2_47 V2_48 Nk tx k2_45 11 0 hf2 hf3 hf4 hf5 (by omega) (by omega)) (is := [0, 2, 3, 4]) rfl (run_V X lkX12_140 0 rfl rfl (is := [0, 2, 3, 4]) (avs := [iv 11, iv 0]) (rest := []) rfl rfl (nle rfl) ⟨by simp only [rmD]; omega, by simp only [rmD]; omega⟩ ⟨nle rfl, nle rfl⟩ dX12_goOnOr_39 (by decide) rfl) (fun u_60 hp_61 => ?_)
            have hu_64 := hp_61
            subst hu_64
            refine ⟨rfl, ?_⟩
            refine S_w (ws' := [(h0, ob 11 (uF (uF (uF f 3 (iv a2_43)) 4 (iv fl_44)) 5 (iv dp2_46))), (hT, ar 160 T), (hC, ar 1700 (uZ C2_47 (340 * tx + k2_45) 11)), (hV, ar 1700 (uZ V2_48 (340 * tx + k2_45) 0)), (hN, ar 5 (uZ Nk tx (k2_45 + 1)))]) rfl ?_
            refine S_goto (tgt := 0) X dX12_goOnOr_42 (by decide) ?_
            refine S_aload_n X dX12_goOnOr_0 rfl hL17_0 ?_
            refine S_get (v := iv fl_44) X fgX12_118_11 0 rfl rfl dX12_goOnOr_1 ?_
            refine S_iconst X dX12_goOnOr_4 ?_
            refine S_icmp_ne (tgt := 45) X dX12_goOnOr_5 (by decide) (by omega) (by decide) (fun c_65 => ?_) (fun c_65 => by exfalso; omega)
            exact S_vret X (nle rfl) (nle rfl) dX12_goOnOr_45 (hPo _ (Or.inl ⟨_, _, _, _, _, _, rfl, hk9.symm.trans (loopL_f (by omega) ((seqG_r hq_27).trans hq_51)), by omega, by omega⟩))
          ·
            subst hu_57
            refine ⟨rfl, ?_⟩
            refine S_w (ws' := [(h0, ob 11 (uF (uF (uF f 3 (iv a2_54)) 4 (iv (-1))) 5 (iv dp))), (hT, ar 160 T), (hC, ar 1700 (wrL (wrL C (340 * tx + k) (List.map kC acc)) (340 * tx + (k + ((acc).length : Int))) (List.map kC ts_55))), (hV, ar 1700 (wrL (wrL V (340 * tx + k) (List.map kV acc)) (340 * tx + (k + ((acc).length : Int))) (List.map kV ts_55))), (hN, ar 5 (uZ Nk tx ((k + ((acc).length : Int)) + ((ts_55).length : Int))))]) rfl ?_
            refine S_w (ws' := [(h0, ob 11 (uF (uF (uF f 3 (iv a2_54)) 4 (iv (-1))) 5 (iv dp))), (hT, ar 160 T), (hC, ar 1700 (wrL C (340 * tx + k) (List.map kC (acc ++ ts_55)))), (hV, ar 1700 (wrL V (340 * tx + k) (List.map kV (acc ++ ts_55)))), (hN, ar 5 (uZ Nk tx (k + ((acc ++ ts_55).length : Int))))]) (by simp only [rW_app, rK_app]) ?_
            have hln_66 : (((acc ++ ts_55).length : Nat) : Int) = _ := congrArg Nat.cast List.length_append
            rw [Int.natCast_add] at hln_66
            refine S_aload_n X dX12_goOnOr_35 rfl hL17_0 ?_
            refine S_bipush X dX12_goOnOr_36 rfl ?_
            refine S_iconst X dX12_goOnOr_38 ?_
            refine S_callv X (kX12_put l h0 f a2_54 (-1) dp hC hV hN (wrL C (340 * tx + k) (List.map kC (acc ++ ts_55))) (wrL V (340 * tx + k) (List.map kV (acc ++ ts_55))) Nk tx (k + ((acc ++ ts_55).length : Int)) 11 0 hf2 hf3 hf4 hf5 (by omega) (by omega)) (is := [0, 2, 3, 4]) rfl (run_V X lkX12_140 0 rfl rfl (is := [0, 2, 3, 4]) (avs := [iv 11, iv 0]) (rest := []) rfl rfl (nle rfl) ⟨by simp only [rmD]; omega, by simp only [rmD]; omega⟩ ⟨nle rfl, nle rfl⟩ dX12_goOnOr_39 (by decide) rfl) (fun u_67 hp_68 => ?_)
            have hu_71 := hp_68
            subst hu_71
            refine ⟨rfl, ?_⟩
            refine S_w (ws' := [(h0, ob 11 (uF (uF (uF f 3 (iv a2_54)) 4 (iv (-1))) 5 (iv dp))), (hT, ar 160 T), (hC, ar 1700 (uZ (wrL C (340 * tx + k) (List.map kC (acc ++ ts_55))) (340 * tx + (k + ((acc ++ ts_55).length : Int))) 11)), (hV, ar 1700 (uZ (wrL V (340 * tx + k) (List.map kV (acc ++ ts_55))) (340 * tx + (k + ((acc ++ ts_55).length : Int))) 0)), (hN, ar 5 (uZ Nk tx ((k + ((acc ++ ts_55).length : Int)) + 1)))]) rfl ?_
            refine S_w (ws' := [(h0, ob 11 (uF (uF (uF f 3 (iv a2_54)) 4 (iv (-1))) 5 (iv dp))), (hT, ar 160 T), (hC, ar 1700 (wrL C (340 * tx + k) (List.map kC (acc ++ ts_55 ++ [-124])))), (hV, ar 1700 (wrL V (340 * tx + k) (List.map kV (acc ++ ts_55 ++ [-124])))), (hN, ar 5 (uZ Nk tx (k + ((acc ++ ts_55 ++ [-124]).length : Int))))]) (by rw [rW_put (g := kC) (c0 := 11) (-124) rfl, rW_put (g := kV) (c0 := 0) (-124) rfl, rK_put (-124)]) ?_
            have hln_72 : (((acc ++ ts_55 ++ [-124]).length : Nat) : Int) = _ := congrArg Nat.cast List.length_append
            rw [Int.natCast_add, List.length_singleton] at hln_72
            have hkk_73 := (lpS (f := g9) (acc := acc) (show ch T n (sk T n a1) = 124 by omega) (by omega) ((seqG_r hq_27).trans hq_58)).symm.trans hk9
            refine S_goto (tgt := 0) X dX12_goOnOr_42 (by decide) ?_
            refine S_aload_n X dX12_goOnOr_0 rfl hL17_0 ?_
            refine S_get (v := iv (-1)) X fgX12_118_11 0 rfl rfl dX12_goOnOr_1 ?_
            refine S_iconst X dX12_goOnOr_4 ?_
            refine S_icmp_ne (tgt := 45) X dX12_goOnOr_5 (by decide) (by decide) (by decide) (fun h9 => absurd h9 (by decide)) (fun _ => ?_)
            refine S_aload_n X dX12_goOnOr_8 rfl hL17_0 ?_
            refine S_calli X (kX12_look l h0 hT f T n a2_54 (-1) dp hf0 hf1 (by omega) (by omega)) (is := [0, 1]) rfl (run_V X lkX12_130 0 rfl rfl (is := [0, 1]) (avs := []) (rest := []) rfl rfl (nle rfl) ⟨by simp only [rmD]; omega, by simp only [rmD]; omega⟩ ⟨nle rfl, nle rfl⟩ dX12_goOnOr_9 (by decide) rfl) (fun z_77 u_75 hp_76 => ?_)
            obtain ⟨hz_78, hu_79⟩ := hp_76
            subst hz_78
            subst hu_79
            refine ⟨rfl, ?_⟩
            refine S_w (ws' := [(h0, ob 11 (uF (uF (uF f 3 (iv (sk T n a2_54))) 4 (iv (-1))) 5 (iv dp))), (hT, ar 160 T), (hC, ar 1700 (wrL C (340 * tx + k) (List.map kC (acc ++ ts_55 ++ [-124])))), (hV, ar 1700 (wrL V (340 * tx + k) (List.map kV (acc ++ ts_55 ++ [-124])))), (hN, ar 5 (uZ Nk tx (k + ((acc ++ ts_55 ++ [-124]).length : Int))))]) rfl ?_
            have hsk_80 := sk_in (T := T) (n := n) (a := a2_54) (by omega)
            have hcm_80 := chM_or okT (a := sk T n a2_54) (by omega) (by omega)
            refine S_bipush X dX12_goOnOr_12 rfl ?_
            refine S_icmp_ne (tgt := 45) X dX12_goOnOr_14 (by decide) (by omega) (by decide) (fun c_81 => ?_) (fun c_81 => ?_)
            ·
              exact S_vret X (nle rfl) (nle rfl) dX12_goOnOr_45 (hPo _ (Or.inr ⟨_, _, rfl, hkk_73.symm.trans (lpE (by omega) (by omega)), by omega⟩))
            ·
              exact ih17 a2_54 (acc ++ ts_55 ++ [-124]) _ (by omega) (by omega) (by omega) (by omega) (⟨g9, by omega, hkk_73⟩) hL17_0 (by omega)
    exact lp17_1 (Int.toNat (161 - a) + 1) a tl _ (by omega) (by omega) (by omega) (by omega) (⟨161, by omega, rfl⟩) rfl (by omega)
set_option maxHeartbeats 4000000 in
set_option maxRecDepth 100000 in
theorem kX12_condition (l : Launch) (K : Nat) (d : Nat) (hd : 5 ≤ d) (d1 : Nat) (hd1 : d1 ≤ d) (hun : C_X12_unit l K d1) (d2 : Nat) (hd2 : d2 ≤ d) (han : C_X12_goOnAnd_N l K d2) (d3 : Nat) (hd3 : d3 ≤ d) (hor : C_X12_goOnOr_N l K d3) : C_X12_condition l K (d + 1) := by
  intro h0 hT f T n a dp hC hV hN C V Nk tx k hf0 hf1 hf2 hf3 hf4 hf5 okT ha ht hk hw
  refine AMv.of2 rfl (nle rfl) ?_
  intro D G A p e s m args below meth c Po hPo hnm X
  obtain ⟨hn0, hn1, hT2⟩ := id okT
  have hsk := sk_in (T := T) ha.2
  have hcm := chM_or okT (a := sk T n a) (by omega) (by omega)
  refine S_aload_n X dX12_condition_0 rfl rfl ?_
  refine S_callv X (hun h0 hT f T n a dp hC hV hN C V Nk tx k hf0 hf1 hf2 hf3 hf4 hf5 (by omega) (by omega) (by omega) (by omega) (by omega)) (is := [0, 1, 2, 3, 4]) rfl (run_V X lkX12_167 0 rfl rfl (is := [0, 1, 2, 3, 4]) (avs := []) (rest := []) rfl rfl (nle rfl) ⟨by simp only [rmD]; omega, by simp only [rmD]; omega⟩ ⟨nle rfl, nle rfl⟩ dX12_condition_1 (by decide) rfl) (fun u_1 hp_2 => ?_)
  rcases hp_2 with ⟨a2_4, fl_5, k2_6, dp2_7, C2_8, V2_9, hu_11, hq_12, hfl_13, hr_14⟩ | ⟨a2_15, ts_16, hu_18, hq_19⟩
  ·
    subst hu_11
    refine ⟨rfl, ?_⟩
    refine S_w (ws' := [(h0, ob 11 (uF (uF (uF f 3 (iv a2_4)) 4 (iv fl_5)) 5 (iv dp2_7))), (hT, ar 160 T), (hC, ar 1700 C2_8), (hV, ar 1700 V2_9), (hN, ar 5 (uZ Nk tx k2_6))]) rfl ?_
    refine S_aload_n X dX12_condition_4 rfl rfl ?_
    refine S_callv X (kX12_goOnAnd_E l h0 f a2_4 fl_5 dp2_7 (by omega) (by omega)) (is := [0]) rfl (run_V X lkX12_176 0 rfl rfl (is := [0]) (avs := []) (rest := []) rfl rfl (nle rfl) ⟨by simp only [rmD]; omega, by simp only [rmD]; omega⟩ ⟨nle rfl, nle rfl⟩ dX12_condition_5 (by decide) rfl) (fun u_20 hp_21 => ?_)
    have hu_24 := hp_21
    subst hu_24
    refine ⟨rfl, ?_⟩
    refine S_w (ws' := [(h0, ob 11 (uF (uF (uF f 3 (iv a2_4)) 4 (iv fl_5)) 5 (iv dp2_7))), (hT, ar 160 T), (hC, ar 1700 C2_8), (hV, ar 1700 V2_9), (hN, ar 5 (uZ Nk tx k2_6))]) rfl ?_
    refine S_aload_n X dX12_condition_8 rfl rfl ?_
    refine S_callv X (kX12_goOnOr_E l h0 f a2_4 fl_5 dp2_7 (by omega) (by omega)) (is := [0]) rfl (run_V X lkX12_179 0 rfl rfl (is := [0]) (avs := []) (rest := []) rfl rfl (nle rfl) ⟨by simp only [rmD]; omega, by simp only [rmD]; omega⟩ ⟨nle rfl, nle rfl⟩ dX12_condition_9 (by decide) rfl) (fun u_25 hp_26 => ?_)
    have hu_29 := hp_26
    subst hu_29
    refine ⟨rfl, ?_⟩
    refine S_w (ws' := [(h0, ob 11 (uF (uF (uF f 3 (iv a2_4)) 4 (iv fl_5)) 5 (iv dp2_7))), (hT, ar 160 T), (hC, ar 1700 C2_8), (hV, ar 1700 V2_9), (hN, ar 5 (uZ Nk tx k2_6))]) rfl ?_
    exact S_vret X (nle rfl) (nle rfl) dX12_condition_12 (hPo _ (Or.inl ⟨_, _, _, _, _, _, rfl, cond_u hq_12, by omega, by omega⟩))
  ·
    subst hu_18
    refine ⟨rfl, ?_⟩
    refine S_w (ws' := [(h0, ob 11 (uF (uF (uF f 3 (iv a2_15)) 4 (iv (-1))) 5 (iv dp))), (hT, ar 160 T), (hC, ar 1700 (wrL C (340 * tx + k) (List.map kC ts_16))), (hV, ar 1700 (wrL V (340 * tx + k) (List.map kV ts_16))), (hN, ar 5 (uZ Nk tx (k + ((ts_16).length : Int))))]) rfl ?_
    have ho_30 := (pUnit_ok (T := T) hn1 K a ha.1 ha.2).2 _ hq_19
    dsimp only at ho_30
    refine S_aload_n X dX12_condition_4 rfl rfl ?_
    refine S_callv X (han h0 hT f T n a2_15 dp hC hV hN C V Nk tx k ts_16 hf0 hf1 hf2 hf3 hf4 hf5 (by omega) (by omega) (by omega) (by omega) (by omega)) (is := [0, 1, 2, 3, 4]) rfl (run_V X lkX12_176 0 rfl rfl (is := [0, 1, 2, 3, 4]) (avs := []) (rest := []) rfl rfl (nle rfl) ⟨by simp only [rmD]; omega, by simp only [rmD]; omega⟩ ⟨nle rfl, nle rfl⟩ dX12_condition_5 (by decide) rfl) (fun u_31 hp_32 => ?_)
    rcases hp_32 with ⟨a2_34, fl_35, k2_36, dp2_37, C2_38, V2_39, hu_41, hq_42, hfl_43, hr_44⟩ | ⟨a2_45, ts_46, hu_48, hq_49, hr2_50⟩
    ·
      subst hu_41
      refine ⟨rfl, ?_⟩
      refine S_w (ws' := [(h0, ob 11 (uF (uF (uF f 3 (iv a2_34)) 4 (iv fl_35)) 5 (iv dp2_37))), (hT, ar 160 T), (hC, ar 1700 C2_38), (hV, ar 1700 V2_39), (hN, ar 5 (uZ Nk tx k2_36))]) rfl ?_
      refine S_aload_n X dX12_condition_8 rfl rfl ?_
      refine S_callv X (kX12_goOnOr_E l h0 f a2_34 fl_35 dp2_37 (by omega) (by omega)) (is := [0]) rfl (run_V X lkX12_179 0 rfl rfl (is := [0]) (avs := []) (rest := []) rfl rfl (nle rfl) ⟨by simp only [rmD]; omega, by simp only [rmD]; omega⟩ ⟨nle rfl, nle rfl⟩ dX12_condition_9 (by decide) rfl) (fun u_51 hp_52 => ?_)
      have hu_55 := hp_52
      subst hu_55
      refine ⟨rfl, ?_⟩
      refine S_w (ws' := [(h0, ob 11 (uF (uF (uF f 3 (iv a2_34)) 4 (iv fl_35)) 5 (iv dp2_37))), (hT, ar 160 T), (hC, ar 1700 C2_38), (hV, ar 1700 V2_39), (hN, ar 5 (uZ Nk tx k2_36))]) rfl ?_
      exact S_vret X (nle rfl) (nle rfl) dX12_condition_12 (hPo _ (Or.inl ⟨_, _, _, _, _, _, rfl, cond_a hn1 (by omega) hq_19 hq_42, by omega, by omega⟩))
    ·
      subst hu_48
      refine ⟨rfl, ?_⟩
      refine S_w (ws' := [(h0, ob 11 (uF (uF (uF f 3 (iv a2_45)) 4 (iv (-1))) 5 (iv dp))), (hT, ar 160 T), (hC, ar 1700 (wrL C (340 * tx + k) (List.map kC ts_46))), (hV, ar 1700 (wrL V (340 * tx + k) (List.map kV ts_46))), (hN, ar 5 (uZ Nk tx (k + ((ts_46).length : Int))))]) rfl ?_
      refine S_aload_n X dX12_condition_8 rfl rfl ?_
      refine S_callv X (hor h0 hT f T n a2_45 dp hC hV hN C V Nk tx k ts_46 hf0 hf1 hf2 hf3 hf4 hf5 (by omega) (by omega) (by omega) (by omega) (by omega)) (is := [0, 1, 2, 3, 4]) rfl (run_V X lkX12_179 0 rfl rfl (is := [0, 1, 2, 3, 4]) (avs := []) (rest := []) rfl rfl (nle rfl) ⟨by simp only [rmD]; omega, by simp only [rmD]; omega⟩ ⟨nle rfl, nle rfl⟩ dX12_condition_9 (by decide) rfl) (fun u_56 hp_57 => ?_)
      rcases hp_57 with ⟨a2_59, fl_60, k2_61, dp2_62, C2_63, V2_64, hu_66, hq_67, hfl_68, hr_69⟩ | ⟨a2_70, ts_71, hu_73, hq_74, hr2_75⟩
      ·
        subst hu_66
        refine ⟨rfl, ?_⟩
        refine S_w (ws' := [(h0, ob 11 (uF (uF (uF f 3 (iv a2_59)) 4 (iv fl_60)) 5 (iv dp2_62))), (hT, ar 160 T), (hC, ar 1700 C2_63), (hV, ar 1700 V2_64), (hN, ar 5 (uZ Nk tx k2_61))]) rfl ?_
        exact S_vret X (nle rfl) (nle rfl) dX12_condition_12 (hPo _ (Or.inl ⟨_, _, _, _, _, _, rfl, cond_o hn1 (by omega) hq_19 hq_49 hq_67, by omega, by omega⟩))
      ·
        subst hu_73
        refine ⟨rfl, ?_⟩
        refine S_w (ws' := [(h0, ob 11 (uF (uF (uF f 3 (iv a2_70)) 4 (iv (-1))) 5 (iv dp))), (hT, ar 160 T), (hC, ar 1700 (wrL C (340 * tx + k) (List.map kC ts_71))), (hV, ar 1700 (wrL V (340 * tx + k) (List.map kV ts_71))), (hN, ar 5 (uZ Nk tx (k + ((ts_71).length : Int))))]) rfl ?_
        exact S_vret X (nle rfl) (nle rfl) dX12_condition_12 (hPo _ (Or.inr ⟨_, _, rfl, cond_o hn1 (by omega) hq_19 hq_49 hq_74⟩))
set_option maxHeartbeats 4000000 in
set_option maxRecDepth 100000 in
theorem kX12_unit (l : Launch) (K : Nat) (d : Nat) (hd : 5 ≤ d) (d1 : Nat) (hd1 : d1 ≤ d) (hsu : C_X12_sum l K d1) (d2 : Nat) (hd2 : d2 ≤ d) (hcp : C_X12_compare l K d2) (d3 : Nat) (hd3 : d3 ≤ d) (hun : ∀ K2 : Nat, K = K2 + 1 → C_X12_unit l K2 d3) (d4 : Nat) (hd4 : d4 ≤ d) (hco : ∀ K2 : Nat, K = K2 + 1 → C_X12_condition l K2 d4) : C_X12_unit l K (d + 1) := by
  intro h0 hT f T n a dp hC hV hN C V Nk tx k hf0 hf1 hf2 hf3 hf4 hf5 okT ha ht hk hw
  refine AMv.of2 rfl (nle rfl) ?_
  intro D G A p e s m args below meth c Po hPo hnm X
  obtain ⟨hn0, hn1, hT2⟩ := id okT
  have hsk := sk_in (T := T) ha.2
  have hcm := chM_or okT (a := sk T n a) (by omega) (by omega)
  refine S_aload_n X dX12_unit_0 rfl rfl ?_
  refine S_calli X (kX12_look l h0 hT f T n a (-1) dp hf0 hf1 (by omega) (by omega)) (is := [0, 1]) rfl (run_V X lkX12_130 0 rfl rfl (is := [0, 1]) (avs := []) (rest := []) rfl rfl (nle rfl) ⟨by simp only [rmD]; omega, by simp only [rmD]; omega⟩ ⟨nle rfl, nle rfl⟩ dX12_unit_1 (by decide) rfl) (fun z_3 u_1 hp_2 => ?_)
  obtain ⟨hz_4, hu_5⟩ := hp_2
  subst hz_4
  subst hu_5
  refine ⟨rfl, ?_⟩
  refine S_w (ws' := [(h0, ob 11 (uF (uF (uF f 3 (iv (sk T n a))) 4 (iv (-1))) 5 (iv dp))), (hT, ar 160 T), (hC, ar 1700 C), (hV, ar 1700 V), (hN, ar 5 (uZ Nk tx k))]) rfl ?_
  refine S_istore_n X dX12_unit_4 rfl (nle rfl) ?_
  refine S_iload_n X dX12_unit_5 rfl rfl ?_
  refine S_bipush X dX12_unit_6 rfl ?_
  refine S_icmp_ne (tgt := 47) X dX12_unit_8 (by decide) (by omega) (by decide) (fun c_6 => ?_) (fun c_6 => ?_)
  ·
    refine S_iload_n X dX12_unit_47 rfl rfl ?_
    refine S_bipush X dX12_unit_48 rfl ?_
    refine S_icmp_ne (tgt := 78) X dX12_unit_50 (by decide) (by omega) (by decide) (fun c_7 => ?_) (fun c_7 => ?_)
    ·
      refine S_aload_n X dX12_unit_78 rfl rfl ?_
      refine S_callv X (hsu h0 hT f T n (sk T n a) dp hC hV hN C V Nk tx k hf0 hf1 hf2 hf3 hf4 hf5 (by omega) (by omega) (by omega) (by omega) (by omega)) (is := [0, 1, 2, 3, 4]) rfl (run_V X lkX12_151 0 rfl rfl (is := [0, 1, 2, 3, 4]) (avs := []) (rest := []) rfl rfl (nle rfl) ⟨by simp only [rmD]; omega, by simp only [rmD]; omega⟩ ⟨nle rfl, nle rfl⟩ dX12_unit_79 (by decide) rfl) (fun u_8 hp_9 => ?_)
      rcases hp_9 with ⟨a2_11, fl_12, k2_13, dp2_14, C2_15, V2_16, hu_18, hq_19, hfl_20, hr_21⟩ | ⟨a2_22, ts_23, hu_25, hq_26⟩
      ·
        subst hu_18
        refine ⟨rfl, ?_⟩
        refine S_w (ws' := [(h0, ob 11 (uF (uF (uF f 3 (iv a2_11)) 4 (iv fl_12)) 5 (iv dp2_14))), (hT, ar 160 T), (hC, ar 1700 C2_15), (hV, ar 1700 V2_16), (hN, ar 5 (uZ Nk tx k2_13))]) rfl ?_
        refine S_aload_n X dX12_unit_82 rfl rfl ?_
        refine S_get (v := iv fl_12) X fgX12_118_11 0 rfl rfl dX12_unit_83 ?_
        refine S_iconst X dX12_unit_86 ?_
        refine S_icmp_ne (tgt := 94) X dX12_unit_87 (by decide) (by omega) (by decide) (fun c_27 => ?_) (fun c_27 => by exfalso; omega)
        exact S_vret X (nle rfl) (nle rfl) dX12_unit_94 (hPo _ (Or.inl ⟨_, _, _, _, _, _, rfl, unit_sf (by omega) hq_19, by omega, by omega⟩))
      ·
        subst hu_25
        refine ⟨rfl, ?_⟩
        refine S_w (ws' := [(h0, ob 11 (uF (uF (uF f 3 (iv a2_22)) 4 (iv (-1))) 5 (iv dp))), (hT, ar 160 T), (hC, ar 1700 (wrL C (340 * tx + k) (List.map kC ts_23))), (hV, ar 1700 (wrL V (340 * tx + k) (List.map kV ts_23))), (hN, ar 5 (uZ Nk tx (k + ((ts_23).length : Int))))]) rfl ?_
        have ho_28 := ((pAS_ok (T := T) hn1 K).2 (sk T n a) (by omega) (by omega)).2 _ hq_26
        dsimp only at ho_28
        have hskb_28 := sk_in (T := T) (n := n) (a := a2_22) (by omega)
        refine S_aload_n X dX12_unit_82 rfl rfl ?_
        refine S_get (v := iv (-1)) X fgX12_118_11 0 rfl rfl dX12_unit_83 ?_
        refine S_iconst X dX12_unit_86 ?_
        refine S_icmp_ne (tgt := 94) X dX12_unit_87 (by decide) (by decide) (by decide) (fun h9 => absurd h9 (by decide)) (fun _ => ?_)
        refine S_aload_n X dX12_unit_90 rfl rfl ?_
        refine S_callv X (hcp h0 hT f T n a2_22 dp hC hV hN (wrL C (340 * tx + k) (List.map kC ts_23)) (wrL V (340 * tx + k) (List.map kV ts_23)) Nk tx (k + ((ts_23).length : Int)) hf0 hf1 hf2 hf3 hf4 hf5 (by omega) (by omega) (by omega) (by omega) (by omega)) (is := [0, 1, 2, 3, 4]) rfl (run_V X lkX12_173 0 rfl rfl (is := [0, 1, 2, 3, 4]) (avs := []) (rest := []) rfl rfl (nle rfl) ⟨by simp only [rmD]; omega, by simp only [rmD]; omega⟩ ⟨nle rfl, nle rfl⟩ dX12_unit_91 (by decide) rfl) (fun u_30 hp_31 => ?_)
        rcases hp_31 with ⟨a2_33, fl_34, k2_35, dp2_36, C2_37, V2_38, hu_40, hq_41, hfl_42, hr_43⟩ | ⟨a2_44, ts_45, hu_47, hq_48⟩
        ·
          subst hu_40
          refine ⟨rfl, ?_⟩
          refine S_w (ws' := [(h0, ob 11 (uF (uF (uF f 3 (iv a2_33)) 4 (iv fl_34)) 5 (iv dp2_36))), (hT, ar 160 T), (hC, ar 1700 C2_37), (hV, ar 1700 V2_38), (hN, ar 5 (uZ Nk tx k2_35))]) rfl ?_
          exact S_vret X (nle rfl) (nle rfl) dX12_unit_94 (hPo _ (Or.inl ⟨_, _, _, _, _, _, rfl, unit_cf (by omega) hq_26 hq_41, by omega, by omega⟩))
        ·
          subst hu_47
          refine ⟨rfl, ?_⟩
          refine S_w (ws' := [(h0, ob 11 (uF (uF (uF f 3 (iv a2_44)) 4 (iv (-1))) 5 (iv dp))), (hT, ar 160 T), (hC, ar 1700 (wrL (wrL C (340 * tx + k) (List.map kC ts_23)) (340 * tx + (k + ((ts_23).length : Int))) (List.map kC ts_45))), (hV, ar 1700 (wrL (wrL V (340 * tx + k) (List.map kV ts_23)) (340 * tx + (k + ((ts_23).length : Int))) (List.map kV ts_45))), (hN, ar 5 (uZ Nk tx ((k + ((ts_23).length : Int)) + ((ts_45).length : Int))))]) rfl ?_
          refine S_w (ws' := [(h0, ob 11 (uF (uF (uF f 3 (iv a2_44)) 4 (iv (-1))) 5 (iv dp))), (hT, ar 160 T), (hC, ar 1700 (wrL C (340 * tx + k) (List.map kC (ts_23 ++ ts_45)))), (hV, ar 1700 (wrL V (340 * tx + k) (List.map kV (ts_23 ++ ts_45)))), (hN, ar 5 (uZ Nk tx (k + ((ts_23 ++ ts_45).length : Int))))]) (by simp only [rW_app, rK_app]) ?_
          have ho_49 := (cmpG_ok (T := T) hn1 K a2_22 (by omega) (by omega)).2 _ hq_48
          dsimp only at ho_49
          have hln_49 : (((ts_23 ++ ts_45).length : Nat) : Int) = _ := congrArg Nat.cast List.length_append
          rw [Int.natCast_add] at hln_49
          exact S_vret X (nle rfl) (nle rfl) dX12_unit_94 (hPo _ (Or.inr ⟨_, _, rfl, unit_c (by omega) hq_26 hq_48⟩))
    ·
      refine S_aload_n X dX12_unit_53 rfl rfl ?_
      refine S_callv X (kX12_opens l h0 f (sk T n a) (-1) dp (by omega) (by omega)) (is := [0]) rfl (run_V X lkX12_148 0 rfl rfl (is := [0]) (avs := []) (rest := []) rfl rfl (nle rfl) ⟨by simp only [rmD]; omega, by simp only [rmD]; omega⟩ ⟨nle rfl, nle rfl⟩ dX12_unit_54 (by decide) rfl) (fun u_50 hp_51 => ?_)
      rcases hp_51 with ⟨hu_54, hq_55⟩ | ⟨hu_57, hq_58⟩
      ·
        subst hu_54
        refine ⟨rfl, ?_⟩
        refine S_w (ws' := [(h0, ob 11 (uF (uF (uF f 3 (iv ((sk T n a) + 1))) 4 (iv (sk T n a))) 5 (iv (dp + 1)))), (hT, ar 160 T), (hC, ar 1700 C), (hV, ar 1700 V), (hN, ar 5 (uZ Nk tx k))]) rfl ?_
        refine S_aload_n X dX12_unit_57 rfl rfl ?_
        refine S_get (v := iv (sk T n a)) X fgX12_118_11 0 rfl rfl dX12_unit_58 ?_
        refine S_iconst X dX12_unit_61 ?_
        refine S_icmp_ne (tgt := 94) X dX12_unit_62 (by decide) (by omega) (by decide) (fun c_59 => ?_) (fun c_59 => by exfalso; omega)
        exact S_vret X (nle rfl) (nle rfl) dX12_unit_94 (hPo _ (Or.inl ⟨_, _, _, _, _, _, rfl, unit_d (by omega) (by omega), by omega, by omega⟩))
      ·
        subst hu_57
        refine ⟨rfl, ?_⟩
        refine S_w (ws' := [(h0, ob 11 (uF (uF (uF f 3 (iv ((sk T n a) + 1))) 4 (iv (-1))) 5 (iv (dp + 1)))), (hT, ar 160 T), (hC, ar 1700 C), (hV, ar 1700 V), (hN, ar 5 (uZ Nk tx k))]) rfl ?_
        obtain ⟨K2, hK2⟩ : ∃ K2 : Nat, K = K2 + 1 := ⟨K - 1, by omega⟩
        refine S_aload_n X dX12_unit_57 rfl rfl ?_
        refine S_get (v := iv (-1)) X fgX12_118_11 0 rfl rfl dX12_unit_58 ?_
        refine S_iconst X dX12_unit_61 ?_
        refine S_icmp_ne (tgt := 94) X dX12_unit_62 (by decide) (by decide) (by decide) (fun h9 => absurd h9 (by decide)) (fun _ => ?_)
        refine S_aload_n X dX12_unit_65 rfl rfl ?_
        refine S_callv X ((hco K2 hK2) h0 hT f T n ((sk T n a) + 1) (dp + 1) hC hV hN C V Nk tx k hf0 hf1 hf2 hf3 hf4 hf5 (by omega) (by omega) (by omega) (by omega) (by omega)) (is := [0, 1, 2, 3, 4]) rfl (run_V X lkX12_170 0 rfl rfl (is := [0, 1, 2, 3, 4]) (avs := []) (rest := []) rfl rfl (nle rfl) ⟨by simp only [rmD]; omega, by simp only [rmD]; omega⟩ ⟨nle rfl, nle rfl⟩ dX12_unit_66 (by decide) rfl) (fun u_61 hp_62 => ?_)
        rcases hp_62 with ⟨a2_64, fl_65, k2_66, dp2_67, C2_68, V2_69, hu_71, hq_72, hfl_73, hr_74⟩ | ⟨a2_75, ts_76, hu_78, hq_79⟩
        ·
          subst hu_71
          refine ⟨rfl, ?_⟩
          refine S_w (ws' := [(h0, ob 11 (uF (uF (uF f 3 (iv a2_64)) 4 (iv fl_65)) 5 (iv dp2_67))), (hT, ar 160 T), (hC, ar 1700 C2_68), (hV, ar 1700 V2_69), (hN, ar 5 (uZ Nk tx k2_66))]) rfl ?_
          refine S_aload_n X dX12_unit_69 rfl rfl ?_
          refine S_bipush X dX12_unit_70 rfl ?_
          refine S_callv X (kX12_closes_E l h0 f a2_64 fl_65 dp2_67 41 (by omega) (by omega)) (is := [0]) rfl (run_V X lkX12_154 0 rfl rfl (is := [0]) (avs := [iv 41]) (rest := []) rfl rfl (nle rfl) ⟨by simp only [rmD]; omega, by simp only [rmD]; omega⟩ ⟨nle rfl, nle rfl⟩ dX12_unit_72 (by decide) rfl) (fun u_80 hp_81 => ?_)
          have hu_84 := hp_81
          subst hu_84
          refine ⟨rfl, ?_⟩
          refine S_w (ws' := [(h0, ob 11 (uF (uF (uF f 3 (iv (a2_64 + 1))) 4 (iv fl_65)) 5 (iv (dp2_67 - 1)))), (hT, ar 160 T), (hC, ar 1700 C2_68), (hV, ar 1700 V2_69), (hN, ar 5 (uZ Nk tx k2_66))]) rfl ?_
          refine S_goto (tgt := 94) X dX12_unit_75 (by decide) ?_
          exact S_vret X (nle rfl) (nle rfl) dX12_unit_94 (hPo _ (Or.inl ⟨_, _, _, _, _, _, rfl, by rw [hK2]; exact unit_pf (by omega) hq_72, by omega, by omega⟩))
        ·
          subst hu_78
          refine ⟨rfl, ?_⟩
          refine S_w (ws' := [(h0, ob 11 (uF (uF (uF f 3 (iv a2_75)) 4 (iv (-1))) 5 (iv (dp + 1)))), (hT, ar 160 T), (hC, ar 1700 (wrL C (340 * tx + k) (List.map kC ts_76))), (hV, ar 1700 (wrL V (340 * tx + k) (List.map kV ts_76))), (hN, ar 5 (uZ Nk tx (k + ((ts_76).length : Int))))]) rfl ?_
          have ho_85 := (pCond_ok (T := T) hn1 K2 (sk T n a + 1) (by omega) (by omega)).2 _ hq_79
          dsimp only at ho_85
          have hskb_85 := sk_in (T := T) (n := n) (a := a2_75) (by omega)
          refine S_aload_n X dX12_unit_69 rfl rfl ?_
          refine S_bipush X dX12_unit_70 rfl ?_
          refine S_callv X (kX12_closes_N l h0 hT f T n a2_75 (-1) (dp + 1) 41 hf0 hf1 (by omega) (by omega) (by omega) (by omega)) (is := [0, 1]) rfl (run_V X lkX12_154 0 rfl rfl (is := [0, 1]) (avs := [iv 41]) (rest := []) rfl rfl (nle rfl) ⟨by simp only [rmD]; omega, by simp only [rmD]; omega⟩ ⟨nle rfl, nle rfl⟩ dX12_unit_72 (by decide) rfl) (fun u_86 hp_87 => ?_)
          rcases hp_87 with ⟨hu_90, hq_91⟩ | ⟨hu_93, hq_94⟩
          ·
            subst hu_90
            refine ⟨rfl, ?_⟩
            refine S_w (ws' := [(h0, ob 11 (uF (uF (uF f 3 (iv ((sk T n a2_75) + 1))) 4 (iv (sk T n a2_75))) 5 (iv ((dp + 1) - 1)))), (hT, ar 160 T), (hC, ar 1700 (wrL C (340 * tx + k) (List.map kC ts_76))), (hV, ar 1700 (wrL V (340 * tx + k) (List.map kV ts_76))), (hN, ar 5 (uZ Nk tx (k + ((ts_76).length : Int))))]) rfl ?_
            refine S_goto (tgt := 94) X dX12_unit_75 (by decide) ?_
            exact S_vret X (nle rfl) (nle rfl) dX12_unit_94 (hPo _ (Or.inl ⟨_, _, _, _, _, _, rfl, by rw [hK2]; exact (unit_p (by omega) hq_79).trans (if_neg hq_91), by omega, by omega⟩))
          ·
            subst hu_93
            refine ⟨rfl, ?_⟩
            refine S_w (ws' := [(h0, ob 11 (uF (uF (uF f 3 (iv ((sk T n a2_75) + 1))) 4 (iv (-1))) 5 (iv ((dp + 1) - 1)))), (hT, ar 160 T), (hC, ar 1700 (wrL C (340 * tx + k) (List.map kC ts_76))), (hV, ar 1700 (wrL V (340 * tx + k) (List.map kV ts_76))), (hN, ar 5 (uZ Nk tx (k + ((ts_76).length : Int))))]) rfl ?_
            refine S_w (ws' := [(h0, ob 11 (uF (uF (uF f 3 (iv ((sk T n a2_75) + 1))) 4 (iv (-1))) 5 (iv dp))), (hT, ar 160 T), (hC, ar 1700 (wrL C (340 * tx + k) (List.map kC ts_76))), (hV, ar 1700 (wrL V (340 * tx + k) (List.map kV ts_76))), (hN, ar 5 (uZ Nk tx (k + ((ts_76).length : Int))))]) (by rw [show (dp + 1) - 1 = dp by omega]) ?_
            refine S_goto (tgt := 94) X dX12_unit_75 (by decide) ?_
            exact S_vret X (nle rfl) (nle rfl) dX12_unit_94 (hPo _ (Or.inr ⟨_, _, rfl, by rw [hK2]; exact (unit_p (by omega) hq_79).trans (if_pos hq_94)⟩))
  ·
    refine S_aload_n X dX12_unit_11 rfl rfl ?_
    refine S_callv X (kX12_opens l h0 f (sk T n a) (-1) dp (by omega) (by omega)) (is := [0]) rfl (run_V X lkX12_148 0 rfl rfl (is := [0]) (avs := []) (rest := []) rfl rfl (nle rfl) ⟨by simp only [rmD]; omega, by simp only [rmD]; omega⟩ ⟨nle rfl, nle rfl⟩ dX12_unit_12 (by decide) rfl) (fun u_95 hp_96 => ?_)
    rcases hp_96 with ⟨hu_99, hq_100⟩ | ⟨hu_102, hq_103⟩
    ·
      subst hu_99
      refine ⟨rfl, ?_⟩
      refine S_w (ws' := [(h0, ob 11 (uF (uF (uF f 3 (iv ((sk T n a) + 1))) 4 (iv (sk T n a))) 5 (iv (dp + 1)))), (hT, ar 160 T), (hC, ar 1700 C), (hV, ar 1700 V), (hN, ar 5 (uZ Nk tx k))]) rfl ?_
      refine S_aload_n X dX12_unit_15 rfl rfl ?_
      refine S_get (v := iv (sk T n a)) X fgX12_118_11 0 rfl rfl dX12_unit_16 ?_
      refine S_iconst X dX12_unit_19 ?_
      refine S_icmp_ne (tgt := 94) X dX12_unit_20 (by decide) (by omega) (by decide) (fun c_104 => ?_) (fun c_104 => by exfalso; omega)
      exact S_vret X (nle rfl) (nle rfl) dX12_unit_94 (hPo _ (Or.inl ⟨_, _, _, _, _, _, rfl, unit_d (by omega) (by omega), by omega, by omega⟩))
    ·
      subst hu_102
      refine ⟨rfl, ?_⟩
      refine S_w (ws' := [(h0, ob 11 (uF (uF (uF f 3 (iv ((sk T n a) + 1))) 4 (iv (-1))) 5 (iv (dp + 1)))), (hT, ar 160 T), (hC, ar 1700 C), (hV, ar 1700 V), (hN, ar 5 (uZ Nk tx k))]) rfl ?_
      obtain ⟨K2, hK2⟩ : ∃ K2 : Nat, K = K2 + 1 := ⟨K - 1, by omega⟩
      refine S_aload_n X dX12_unit_15 rfl rfl ?_
      refine S_get (v := iv (-1)) X fgX12_118_11 0 rfl rfl dX12_unit_16 ?_
      refine S_iconst X dX12_unit_19 ?_
      refine S_icmp_ne (tgt := 94) X dX12_unit_20 (by decide) (by decide) (by decide) (fun h9 => absurd h9 (by decide)) (fun _ => ?_)
      refine S_aload_n X dX12_unit_23 rfl rfl ?_
      refine S_callv X ((hun K2 hK2) h0 hT f T n ((sk T n a) + 1) (dp + 1) hC hV hN C V Nk tx k hf0 hf1 hf2 hf3 hf4 hf5 (by omega) (by omega) (by omega) (by omega) (by omega)) (is := [0, 1, 2, 3, 4]) rfl (run_V X lkX12_167 0 rfl rfl (is := [0, 1, 2, 3, 4]) (avs := []) (rest := []) rfl rfl (nle rfl) ⟨by simp only [rmD]; omega, by simp only [rmD]; omega⟩ ⟨nle rfl, nle rfl⟩ dX12_unit_24 (by decide) rfl) (fun u_106 hp_107 => ?_)
      rcases hp_107 with ⟨a2_109, fl_110, k2_111, dp2_112, C2_113, V2_114, hu_116, hq_117, hfl_118, hr_119⟩ | ⟨a2_120, ts_121, hu_123, hq_124⟩
      ·
        subst hu_116
        refine ⟨rfl, ?_⟩
        refine S_w (ws' := [(h0, ob 11 (uF (uF (uF f 3 (iv a2_109)) 4 (iv fl_110)) 5 (iv dp2_112))), (hT, ar 160 T), (hC, ar 1700 C2_113), (hV, ar 1700 V2_114), (hN, ar 5 (uZ Nk tx k2_111))]) rfl ?_
        refine S_aload_n X dX12_unit_27 rfl rfl ?_
        refine S_bipush X dX12_unit_28 rfl ?_
        refine S_iconst X dX12_unit_30 ?_
        refine S_callv X (kX12_put l h0 f a2_109 fl_110 dp2_112 hC hV hN C2_113 V2_114 Nk tx k2_111 9 0 hf2 hf3 hf4 hf5 (by omega) (by omega)) (is := [0, 2, 3, 4]) rfl (run_V X lkX12_140 0 rfl rfl (is := [0, 2, 3, 4]) (avs := [iv 9, iv 0]) (rest := []) rfl rfl (nle rfl) ⟨by simp only [rmD]; omega, by simp only [rmD]; omega⟩ ⟨nle rfl, nle rfl⟩ dX12_unit_31 (by decide) rfl) (fun u_125 hp_126 => ?_)
        have hu_129 := hp_126
        subst hu_129
        refine ⟨rfl, ?_⟩
        refine S_w (ws' := [(h0, ob 11 (uF (uF (uF f 3 (iv a2_109)) 4 (iv fl_110)) 5 (iv dp2_112))), (hT, ar 160 T), (hC, ar 1700 (uZ C2_113 (340 * tx + k2_111) 9)), (hV, ar 1700 (uZ V2_114 (340 * tx + k2_111) 0)), (hN, ar 5 (uZ Nk tx (k2_111 + 1)))]) rfl ?_
        refine S_aload_n X dX12_unit_34 rfl rfl ?_
        refine S_dup X dX12_unit_35 ?_
        refine S_get (v := iv dp2_112) X fgX12_124_11 0 rfl rfl dX12_unit_36 ?_
        refine S_iconst X dX12_unit_39 ?_
        refine S_isub X dX12_unit_40 ?_
        refine S_put X fpX12_124_11 0 rfl FT_i dX12_unit_41 ?_
        refine S_w (ws' := [(h0, ob 11 (uF (uF (uF f 3 (iv a2_109)) 4 (iv fl_110)) 5 (iv (dp2_112 - 1)))), (hT, ar 160 T), (hC, ar 1700 (uZ C2_113 (340 * tx + k2_111) 9)), (hV, ar 1700 (uZ V2_114 (340 * tx + k2_111) 0)), (hN, ar 5 (uZ Nk tx (k2_111 + 1)))]) (by simp only [List.set]; rw [uF_same (k := 5)]) ?_
        refine S_goto (tgt := 94) X dX12_unit_44 (by decide) ?_
        exact S_vret X (nle rfl) (nle rfl) dX12_unit_94 (hPo _ (Or.inl ⟨_, _, _, _, _, _, rfl, by rw [hK2]; exact unit_nf (by omega) hq_117, by omega, by omega⟩))
      ·
        subst hu_123
        refine ⟨rfl, ?_⟩
        refine S_w (ws' := [(h0, ob 11 (uF (uF (uF f 3 (iv a2_120)) 4 (iv (-1))) 5 (iv (dp + 1)))), (hT, ar 160 T), (hC, ar 1700 (wrL C (340 * tx + k) (List.map kC ts_121))), (hV, ar 1700 (wrL V (340 * tx + k) (List.map kV ts_121))), (hN, ar 5 (uZ Nk tx (k + ((ts_121).length : Int))))]) rfl ?_
        have ho_130 := (pUnit_ok (T := T) hn1 K2 (sk T n a + 1) (by omega) (by omega)).2 _ hq_124
        dsimp only at ho_130
        have hskb_130 := sk_in (T := T) (n := n) (a := a2_120) (by omega)
        refine S_aload_n X dX12_unit_27 rfl rfl ?_
        refine S_bipush X dX12_unit_28 rfl ?_
        refine S_iconst X dX12_unit_30 ?_
        refine S_callv X (kX12_put l h0 f a2_120 (-1) (dp + 1) hC hV hN (wrL C (340 * tx + k) (List.map kC ts_121)) (wrL V (340 * tx + k) (List.map kV ts_121)) Nk tx (k + ((ts_121).length : Int)) 9 0 hf2 hf3 hf4 hf5 (by omega) (by omega)) (is := [0, 2, 3, 4]) rfl (run_V X lkX12_140 0 rfl rfl (is := [0, 2, 3, 4]) (avs := [iv 9, iv 0]) (rest := []) rfl rfl (nle rfl) ⟨by simp only [rmD]; omega, by simp only [rmD]; omega⟩ ⟨nle rfl, nle rfl⟩ dX12_unit_31 (by decide) rfl) (fun u_131 hp_132 => ?_)
        have hu_135 := hp_132
        subst hu_135
        refine ⟨rfl, ?_⟩
        refine S_w (ws' := [(h0, ob 11 (uF (uF (uF f 3 (iv a2_120)) 4 (iv (-1))) 5 (iv (dp + 1)))), (hT, ar 160 T), (hC, ar 1700 (uZ (wrL C (340 * tx + k) (List.map kC ts_121)) (340 * tx + (k + ((ts_121).length : Int))) 9)), (hV, ar 1700 (uZ (wrL V (340 * tx + k) (List.map kV ts_121)) (340 * tx + (k + ((ts_121).length : Int))) 0)), (hN, ar 5 (uZ Nk tx ((k + ((ts_121).length : Int)) + 1)))]) rfl ?_
        refine S_w (ws' := [(h0, ob 11 (uF (uF (uF f 3 (iv a2_120)) 4 (iv (-1))) 5 (iv (dp + 1)))), (hT, ar 160 T), (hC, ar 1700 (wrL C (340 * tx + k) (List.map kC (ts_121 ++ [-33])))), (hV, ar 1700 (wrL V (340 * tx + k) (List.map kV (ts_121 ++ [-33])))), (hN, ar 5 (uZ Nk tx (k + ((ts_121 ++ [-33]).length : Int))))]) (by rw [rW_put (g := kC) (c0 := 9) (-33) rfl, rW_put (g := kV) (c0 := 0) (-33) rfl, rK_put (-33)]) ?_
        have hln_136 : (((ts_121 ++ [-33]).length : Nat) : Int) = _ := congrArg Nat.cast List.length_append
        rw [Int.natCast_add, List.length_singleton] at hln_136
        refine S_aload_n X dX12_unit_34 rfl rfl ?_
        refine S_dup X dX12_unit_35 ?_
        refine S_get (v := iv (dp + 1)) X fgX12_124_11 0 rfl rfl dX12_unit_36 ?_
        refine S_iconst X dX12_unit_39 ?_
        refine S_isub X dX12_unit_40 ?_
        refine S_put X fpX12_124_11 0 rfl FT_i dX12_unit_41 ?_
        refine S_w (ws' := [(h0, ob 11 (uF (uF (uF f 3 (iv a2_120)) 4 (iv (-1))) 5 (iv ((dp + 1) - 1)))), (hT, ar 160 T), (hC, ar 1700 (wrL C (340 * tx + k) (List.map kC (ts_121 ++ [-33])))), (hV, ar 1700 (wrL V (340 * tx + k) (List.map kV (ts_121 ++ [-33])))), (hN, ar 5 (uZ Nk tx (k + ((ts_121 ++ [-33]).length : Int))))]) (by simp only [List.set]; rw [uF_same (k := 5)]) ?_
        refine S_w (ws' := [(h0, ob 11 (uF (uF (uF f 3 (iv a2_120)) 4 (iv (-1))) 5 (iv dp))), (hT, ar 160 T), (hC, ar 1700 (wrL C (340 * tx + k) (List.map kC (ts_121 ++ [-33])))), (hV, ar 1700 (wrL V (340 * tx + k) (List.map kV (ts_121 ++ [-33])))), (hN, ar 5 (uZ Nk tx (k + ((ts_121 ++ [-33]).length : Int))))]) (by rw [show (dp + 1) - 1 = dp by omega]) ?_
        refine S_goto (tgt := 94) X dX12_unit_44 (by decide) ?_
        exact S_vret X (nle rfl) (nle rfl) dX12_unit_94 (hPo _ (Or.inr ⟨_, _, rfl, by rw [hK2]; exact unit_n (by omega) hq_124⟩))
