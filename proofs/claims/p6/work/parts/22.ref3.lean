theorem cond_u {T : Int → Int} {n a e : Int} {k : Nat} (h : pUnit T n k a = .inl e) : pCond T n k a = .inl e := pCond_f h
theorem cond_a {T : Int → Int} {n a b e : Int} {k : Nat} {ts : List Int} (hn : n ≤ 160) (h0 : 0 ≤ b ∧ b ≤ n) (h : pUnit T n k a = .inr (b, ts)) (h2 : loopL T n 38 38 (pUnit T n k) 161 b ts = .inl e) : pCond T n k a = .inl e := by
  rw [pCond_r h, pMore_C hn k b ts h0.1 h0.2, h2]
theorem cond_o {T : Int → Int} {n a b c : Int} {k : Nat} {ts us : List Int} {r : LR} (hn : n ≤ 160) (h0 : 0 ≤ b ∧ b ≤ n) (h : pUnit T n k a = .inr (b, ts)) (h2 : loopL T n 38 38 (pUnit T n k) 161 b ts = .inr (c, us)) (h3 : loopL T n 124 124 (pCj T n k) 161 c us = r) : pCond T n k a = r := by
  rw [pCond_r h, pMore_C hn k b ts h0.1 h0.2, h2]; exact h3
def C_X12_unit (l : Launch) (K : Nat) (d : Nat) : Prop := ∀ (h0 : Nat) (hT : Nat) (f : Nat → AV) (T : Int → Int) (n : Int) (a : Int) (dp : Int) (hC : Nat) (hV : Nat) (hN : Nat) (C : Int → Int) (V : Int → Int) (Nk : Int → Int) (tx : Int) (k : Int), (f 1 = rv hT) → (f 2 = iv n) → (f 6 = rv hC) → (f 7 = rv hV) → (f 8 = rv hN) → (f 14 = iv tx) → (okT T n) → (0 ≤ a ∧ a ≤ n) → (0 ≤ tx ∧ tx ≤ 4) → (0 ≤ k ∧ k ≤ a) → (dp + K = 6 ∧ 0 ≤ dp) → AMv l yX12_unit cX12_unit 2 d 0 0 [rv h0] [(h0, ob 11 (uF (uF (uF f 3 (iv a)) 4 (iv (-1))) 5 (iv dp))), (hT, ar 160 T), (hC, ar 1700 C), (hV, ar 1700 V), (hN, ar 5 (uZ Nk tx k))] (fun u => (∃ a2 : Int, ∃ fl : Int, ∃ k2 : Int, ∃ dp2 : Int, ∃ C2 : Int → Int, ∃ V2 : Int → Int, u = [(h0, ob 11 (uF (uF (uF f 3 (iv a2)) 4 (iv fl)) 5 (iv dp2))), (hT, ar 160 T), (hC, ar 1700 C2), (hV, ar 1700 V2), (hN, ar 5 (uZ Nk tx k2))] ∧ pUnit T n K a = .inl fl ∧ (0 ≤ fl ∧ fl ≤ n) ∧ (a ≤ a2 ∧ a2 ≤ n + K + 1 ∧ k ≤ k2 ∧ k2 - k ≤ a2 - a ∧ dp ≤ dp2 ∧ dp2 ≤ 7) ∧ frm tx C C2 ∧ frm tx V V2) ∨ (∃ a2 : Int, ∃ ts : List Int, u = [(h0, ob 11 (uF (uF (uF f 3 (iv a2)) 4 (iv (-1))) 5 (iv dp))), (hT, ar 160 T), (hC, ar 1700 (wrL C (340 * tx + k) (List.map kC ts))), (hV, ar 1700 (wrL V (340 * tx + k) (List.map kV ts))), (hN, ar 5 (uZ Nk tx (k + ((ts).length : Int))))] ∧ pUnit T n K a = .inr (a2, ts)))
def C_X12_goOnAnd_N (l : Launch) (K : Nat) (d : Nat) : Prop := ∀ (h0 : Nat) (hT : Nat) (f : Nat → AV) (T : Int → Int) (n : Int) (a : Int) (dp : Int) (hC : Nat) (hV : Nat) (hN : Nat) (C : Int → Int) (V : Int → Int) (Nk : Int → Int) (tx : Int) (k : Int) (tl : List Int), (f 1 = rv hT) → (f 2 = iv n) → (f 6 = rv hC) → (f 7 = rv hV) → (f 8 = rv hN) → (f 14 = iv tx) → (okT T n) → (0 ≤ a ∧ a ≤ n) → (0 ≤ tx ∧ tx ≤ 4) → (0 ≤ k ∧ k + (tl.length : Int) ≤ a) → (dp + K = 6 ∧ 0 ≤ dp) → AMv l yX12_goOnAnd cX12_goOnAnd 1 d 0 0 [rv h0] [(h0, ob 11 (uF (uF (uF f 3 (iv a)) 4 (iv (-1))) 5 (iv dp))), (hT, ar 160 T), (hC, ar 1700 (wrL C (340 * tx + k) (List.map kC tl))), (hV, ar 1700 (wrL V (340 * tx + k) (List.map kV tl))), (hN, ar 5 (uZ Nk tx (k + ((tl).length : Int))))] (fun u => (∃ a2 : Int, ∃ fl : Int, ∃ k2 : Int, ∃ dp2 : Int, ∃ C2 : Int → Int, ∃ V2 : Int → Int, u = [(h0, ob 11 (uF (uF (uF f 3 (iv a2)) 4 (iv fl)) 5 (iv dp2))), (hT, ar 160 T), (hC, ar 1700 C2), (hV, ar 1700 V2), (hN, ar 5 (uZ Nk tx k2))] ∧ loopL T n 38 38 (pUnit T n K) 161 a tl = .inl fl ∧ (0 ≤ fl ∧ fl ≤ n) ∧ (a ≤ a2 ∧ a2 ≤ n + K + 1 ∧ k + (tl.length : Int) ≤ k2 ∧ k2 - (k + (tl.length : Int)) ≤ a2 - a ∧ dp ≤ dp2 ∧ dp2 ≤ 7) ∧ frm tx C C2 ∧ frm tx V V2) ∨ (∃ a2 : Int, ∃ ts : List Int, u = [(h0, ob 11 (uF (uF (uF f 3 (iv a2)) 4 (iv (-1))) 5 (iv dp))), (hT, ar 160 T), (hC, ar 1700 (wrL C (340 * tx + k) (List.map kC ts))), (hV, ar 1700 (wrL V (340 * tx + k) (List.map kV ts))), (hN, ar 5 (uZ Nk tx (k + ((ts).length : Int))))] ∧ loopL T n 38 38 (pUnit T n K) 161 a tl = .inr (a2, ts) ∧ (a ≤ a2 ∧ a2 ≤ n ∧ (tl.length : Int) ≤ (ts.length : Int) ∧ (ts.length : Int) - (tl.length : Int) ≤ a2 - a)))
def C_X12_goOnOr_N (l : Launch) (K : Nat) (d : Nat) : Prop := ∀ (h0 : Nat) (hT : Nat) (f : Nat → AV) (T : Int → Int) (n : Int) (a : Int) (dp : Int) (hC : Nat) (hV : Nat) (hN : Nat) (C : Int → Int) (V : Int → Int) (Nk : Int → Int) (tx : Int) (k : Int) (tl : List Int), (f 1 = rv hT) → (f 2 = iv n) → (f 6 = rv hC) → (f 7 = rv hV) → (f 8 = rv hN) → (f 14 = iv tx) → (okT T n) → (0 ≤ a ∧ a ≤ n) → (0 ≤ tx ∧ tx ≤ 4) → (0 ≤ k ∧ k + (tl.length : Int) ≤ a) → (dp + K = 6 ∧ 0 ≤ dp) → AMv l yX12_goOnOr cX12_goOnOr 1 d 0 0 [rv h0] [(h0, ob 11 (uF (uF (uF f 3 (iv a)) 4 (iv (-1))) 5 (iv dp))), (hT, ar 160 T), (hC, ar 1700 (wrL C (340 * tx + k) (List.map kC tl))), (hV, ar 1700 (wrL V (340 * tx + k) (List.map kV tl))), (hN, ar 5 (uZ Nk tx (k + ((tl).length : Int))))] (fun u => (∃ a2 : Int, ∃ fl : Int, ∃ k2 : Int, ∃ dp2 : Int, ∃ C2 : Int → Int, ∃ V2 : Int → Int, u = [(h0, ob 11 (uF (uF (uF f 3 (iv a2)) 4 (iv fl)) 5 (iv dp2))), (hT, ar 160 T), (hC, ar 1700 C2), (hV, ar 1700 V2), (hN, ar 5 (uZ Nk tx k2))] ∧ loopL T n 124 124 (pCj T n K) 161 a tl = .inl fl ∧ (0 ≤ fl ∧ fl ≤ n) ∧ (a ≤ a2 ∧ a2 ≤ n + K + 1 ∧ k + (tl.length : Int) ≤ k2 ∧ k2 - (k + (tl.length : Int)) ≤ a2 - a ∧ dp ≤ dp2 ∧ dp2 ≤ 7) ∧ frm tx C C2 ∧ frm tx V V2) ∨ (∃ a2 : Int, ∃ ts : List Int, u = [(h0, ob 11 (uF (uF (uF f 3 (iv a2)) 4 (iv (-1))) 5 (iv dp))), (hT, ar 160 T), (hC, ar 1700 (wrL C (340 * tx + k) (List.map kC ts))), (hV, ar 1700 (wrL V (340 * tx + k) (List.map kV ts))), (hN, ar 5 (uZ Nk tx (k + ((ts).length : Int))))] ∧ loopL T n 124 124 (pCj T n K) 161 a tl = .inr (a2, ts) ∧ (a ≤ a2 ∧ a2 ≤ n ∧ (tl.length : Int) ≤ (ts.length : Int) ∧ (ts.length : Int) - (tl.length : Int) ≤ a2 - a)))
def C_X12_condition (l : Launch) (K : Nat) (d : Nat) : Prop := ∀ (h0 : Nat) (hT : Nat) (f : Nat → AV) (T : Int → Int) (n : Int) (a : Int) (dp : Int) (hC : Nat) (hV : Nat) (hN : Nat) (C : Int → Int) (V : Int → Int) (Nk : Int → Int) (tx : Int) (k : Int), (f 1 = rv hT) → (f 2 = iv n) → (f 6 = rv hC) → (f 7 = rv hV) → (f 8 = rv hN) → (f 14 = iv tx) → (okT T n) → (0 ≤ a ∧ a ≤ n) → (0 ≤ tx ∧ tx ≤ 4) → (0 ≤ k ∧ k ≤ a) → (dp + K = 6 ∧ 0 ≤ dp) → AMv l yX12_condition cX12_condition 1 d 0 0 [rv h0] [(h0, ob 11 (uF (uF (uF f 3 (iv a)) 4 (iv (-1))) 5 (iv dp))), (hT, ar 160 T), (hC, ar 1700 C), (hV, ar 1700 V), (hN, ar 5 (uZ Nk tx k))] (fun u => (∃ a2 : Int, ∃ fl : Int, ∃ k2 : Int, ∃ dp2 : Int, ∃ C2 : Int → Int, ∃ V2 : Int → Int, u = [(h0, ob 11 (uF (uF (uF f 3 (iv a2)) 4 (iv fl)) 5 (iv dp2))), (hT, ar 160 T), (hC, ar 1700 C2), (hV, ar 1700 V2), (hN, ar 5 (uZ Nk tx k2))] ∧ pCond T n K a = .inl fl ∧ (0 ≤ fl ∧ fl ≤ n) ∧ (a ≤ a2 ∧ a2 ≤ n + K + 1 ∧ k ≤ k2 ∧ k2 - k ≤ a2 - a ∧ dp ≤ dp2 ∧ dp2 ≤ 7) ∧ frm tx C C2 ∧ frm tx V V2) ∨ (∃ a2 : Int, ∃ ts : List Int, u = [(h0, ob 11 (uF (uF (uF f 3 (iv a2)) 4 (iv (-1))) 5 (iv dp))), (hT, ar 160 T), (hC, ar 1700 (wrL C (340 * tx + k) (List.map kC ts))), (hV, ar 1700 (wrL V (340 * tx + k) (List.map kV ts))), (hN, ar 5 (uZ Nk tx (k + ((ts).length : Int))))] ∧ pCond T n K a = .inr (a2, ts)))
set_option maxHeartbeats 4000000 in
set_option maxRecDepth 100000 in
theorem kX12_goOnAnd_E (l : Launch) (h0 : Nat) (f : Nat → AV) (a : Int) (w : Int) (dp : Int) (hw : ¬ w = -1) (hw2 : inR w) : AMv l yX12_goOnAnd cX12_goOnAnd 1 2 0 0 [rv h0] [(h0, ob 11 (uF (uF (uF f 3 (iv a)) 4 (iv w)) 5 (iv dp)))] (fun u => u = [(h0, ob 11 (uF (uF (uF f 3 (iv a)) 4 (iv w)) 5 (iv dp)))]) := by
  refine AMv.of2 rfl (nle rfl) ?_
  intro D G A p e s m args below meth c Po hPo hnm X
  refine S_aload_n X dX12_goOnAnd_0 rfl rfl ?_
  refine S_get (v := iv w) X fgX12_118_11 0 rfl rfl dX12_goOnAnd_1 ?_
  refine S_iconst X dX12_goOnAnd_4 ?_
  refine S_icmp_ne (tgt := 41) X dX12_goOnAnd_5 (by decide) (by omega) (by decide) (fun c_1 => ?_) (fun c_1 => by exfalso; omega)
  exact S_vret X (nle rfl) (nle rfl) dX12_goOnAnd_41 (hPo _ (rfl))
set_option maxHeartbeats 4000000 in
set_option maxRecDepth 100000 in
theorem kX12_goOnOr_E (l : Launch) (h0 : Nat) (f : Nat → AV) (a : Int) (w : Int) (dp : Int) (hw : ¬ w = -1) (hw2 : inR w) : AMv l yX12_goOnOr cX12_goOnOr 1 2 0 0 [rv h0] [(h0, ob 11 (uF (uF (uF f 3 (iv a)) 4 (iv w)) 5 (iv dp)))] (fun u => u = [(h0, ob 11 (uF (uF (uF f 3 (iv a)) 4 (iv w)) 5 (iv dp)))]) := by
  refine AMv.of2 rfl (nle rfl) ?_
  intro D G A p e s m args below meth c Po hPo hnm X
  refine S_aload_n X dX12_goOnOr_0 rfl rfl ?_
  refine S_get (v := iv w) X fgX12_118_11 0 rfl rfl dX12_goOnOr_1 ?_
  refine S_iconst X dX12_goOnOr_4 ?_
  refine S_icmp_ne (tgt := 45) X dX12_goOnOr_5 (by decide) (by omega) (by decide) (fun c_1 => ?_) (fun c_1 => by exfalso; omega)
  exact S_vret X (nle rfl) (nle rfl) dX12_goOnOr_45 (hPo _ (rfl))
set_option maxHeartbeats 4000000 in
set_option maxRecDepth 100000 in
theorem kX12_goOnAnd_N (l : Launch) (K : Nat) (d : Nat) (hd : 5 ≤ d) (d1 : Nat) (hd1 : d1 ≤ d) (hun : C_X12_unit l K d1) : C_X12_goOnAnd_N l K (d + 1) := by
  intro h0 hT f T n a dp hC hV hN C V Nk tx k tl hf0 hf1 hf2 hf3 hf4 hf5 okT ha ht hk hw
  refine AMv.of2 rfl (nle rfl) ?_
  intro D G A p e s m args below meth c Po hPo hnm X
  obtain ⟨hn0, hn1, hT2⟩ := id okT
  have hsk := sk_in (T := T) ha.2
  have hcm := chM_or okT (a := sk T n a) (by omega) (by omega)
  refine S_aload_n X dX12_goOnAnd_0 rfl rfl ?_
  refine S_get (v := iv (-1)) X fgX12_118_11 0 rfl rfl dX12_goOnAnd_1 ?_
  refine S_iconst X dX12_goOnAnd_4 ?_
  refine S_icmp_ne (tgt := 41) X dX12_goOnAnd_5 (by decide) (by decide) (by decide) (fun h9 => absurd h9 (by decide)) (fun _ => ?_)
  refine S_aload_n X dX12_goOnAnd_8 rfl rfl ?_
  refine S_calli X (kX12_look l h0 hT f T n a (-1) dp hf0 hf1 (by omega) (by omega)) (is := [0, 1]) rfl (run_V X lkX12_130 0 rfl rfl (is := [0, 1]) (avs := []) (rest := []) rfl rfl (nle rfl) ⟨by simp only [rmD]; omega, by simp only [rmD]; omega⟩ ⟨nle rfl, nle rfl⟩ dX12_goOnAnd_9 (by decide) rfl) (fun z_4 u_2 hp_3 => ?_)
  obtain ⟨hz_5, hu_6⟩ := hp_3
  subst hz_5
  subst hu_6
  refine ⟨rfl, ?_⟩
  refine S_w (ws' := [(h0, ob 11 (uF (uF (uF f 3 (iv (sk T n a))) 4 (iv (-1))) 5 (iv dp))), (hT, ar 160 T), (hC, ar 1700 (wrL C (340 * tx + k) (List.map kC tl))), (hV, ar 1700 (wrL V (340 * tx + k) (List.map kV tl))), (hN, ar 5 (uZ Nk tx (k + ((tl).length : Int))))]) rfl ?_
  have hsk_7 := sk_in (T := T) (n := n) (a := a) (by omega)
  have hcm_7 := chM_or okT (a := sk T n a) (by omega) (by omega)
  refine S_bipush X dX12_goOnAnd_12 rfl ?_
  refine S_icmp_ne (tgt := 41) X dX12_goOnAnd_14 (by decide) (by omega) (by decide) (fun c_8 => ?_) (fun c_8 => ?_)
  ·
    exact S_vret X (nle rfl) (nle rfl) dX12_goOnAnd_41 (hPo _ (Or.inr ⟨_, _, rfl, lpE (by omega) (by omega), by omega⟩))
  ·
    have lp17_1 : ∀ (N : Nat) (a1 : Int) (acc : List Int) (L : Nat → Option AV), a ≤ a1 ∧ a1 ≤ n → sk T n a1 < n → ch T n (sk T n a1) = 38 → (tl.length : Int) ≤ (acc.length : Int) ∧ (acc.length : Int) - (tl.length : Int) ≤ a1 - a → (∃ f : Nat, 161 - a1 ≤ f ∧ loopL T n 38 38 (pUnit T n K) f a1 acc = loopL T n 38 38 (pUnit T n K) 161 a tl) → L 0 = some (rv h0) → 161 - a1 < (N : Int) → S_ p l e (rmD (d + 1) 0 0) s m args below meth c (MQ below (QcV D G A Po) args s 0 0 A) D G A 1 0 0 17 L [] [(h0, ob 11 (uF (uF (uF f 3 (iv (sk T n a1))) 4 (iv (-1))) 5 (iv dp))), (hT, ar 160 T), (hC, ar 1700 (wrL C (340 * tx + k) (List.map kC acc))), (hV, ar 1700 (wrL V (340 * tx + k) (List.map kV acc))), (hN, ar 5 (uZ Nk tx (k + ((acc).length : Int))))] := by
      intro N
      induction N with
      | zero =>
        intro a1 acc L17 hi hlt hc1 hbd hkl hL17_0 hN17
        exfalso; omega
      | succ N ih17 =>
        intro a1 acc L17 hi hlt hc1 hbd hkl hL17_0 hN17
        obtain ⟨f9, hf9, hk9⟩ := hkl
        obtain ⟨g9, rfl⟩ : ∃ g, f9 = g + 1 := ⟨f9 - 1, by omega⟩
        have hsk1 := sk_in (T := T) (n := n) (a := a1) (by omega)
        refine S_aload_n X dX12_goOnAnd_17 rfl hL17_0 ?_
        refine S_dup X dX12_goOnAnd_18 ?_
        refine S_get (v := iv (sk T n a1)) X fgX12_111_11 0 rfl rfl dX12_goOnAnd_19 ?_
        refine S_iconst X dX12_goOnAnd_22 ?_
        refine S_iadd X dX12_goOnAnd_23 ?_
        refine S_put X fpX12_111_11 0 rfl FT_i dX12_goOnAnd_24 ?_
        refine S_w (ws' := [(h0, ob 11 (uF (uF (uF f 3 (iv ((sk T n a1) + 1))) 4 (iv (-1))) 5 (iv dp))), (hT, ar 160 T), (hC, ar 1700 (wrL C (340 * tx + k) (List.map kC acc))), (hV, ar 1700 (wrL V (340 * tx + k) (List.map kV acc))), (hN, ar 5 (uZ Nk tx (k + ((acc).length : Int))))]) (by simp only [List.set]; rw [uF_mv (j := 5) (k := 3) (by decide), uF_mv (j := 4) (k := 3) (by decide), uF_same (k := 3)]) ?_
        refine S_aload_n X dX12_goOnAnd_27 rfl hL17_0 ?_
        refine S_callv X (hun h0 hT f T n ((sk T n a1) + 1) dp hC hV hN (wrL C (340 * tx + k) (List.map kC acc)) (wrL V (340 * tx + k) (List.map kV acc)) Nk tx (k + ((acc).length : Int)) hf0 hf1 hf2 hf3 hf4 hf5 (by omega) (by omega) (by omega) (by omega) (by omega)) (is := [0, 1, 2, 3, 4]) rfl (run_V X lkX12_167 0 rfl rfl (is := [0, 1, 2, 3, 4]) (avs := []) (rest := []) rfl rfl (nle rfl) ⟨by simp only [rmD]; omega, by simp only [rmD]; omega⟩ ⟨nle rfl, nle rfl⟩ dX12_goOnAnd_28 (by decide) rfl) (fun u_9 hp_10 => ?_)
        rcases hp_10 with ⟨a2_12, fl_13, k2_14, dp2_15, C2_16, V2_17, hu_19, hq_20, hfl_21, hr_22, hfC_23, hfV_24⟩ | ⟨a2_25, ts_26, hu_28, hq_29⟩
        ·
          subst hu_19
          refine ⟨rfl, ?_⟩
          refine S_w (ws' := [(h0, ob 11 (uF (uF (uF f 3 (iv a2_12)) 4 (iv fl_13)) 5 (iv dp2_15))), (hT, ar 160 T), (hC, ar 1700 C2_16), (hV, ar 1700 V2_17), (hN, ar 5 (uZ Nk tx k2_14))]) rfl ?_
          refine S_aload_n X dX12_goOnAnd_31 rfl hL17_0 ?_
          refine S_bipush X dX12_goOnAnd_32 rfl ?_
          refine S_iconst X dX12_goOnAnd_34 ?_
          refine S_callv X (kX12_put l h0 f a2_12 fl_13 dp2_15 hC hV hN C2_16 V2_17 Nk tx k2_14 10 0 hf2 hf3 hf4 hf5 (by omega) (by omega)) (is := [0, 2, 3, 4]) rfl (run_V X lkX12_140 0 rfl rfl (is := [0, 2, 3, 4]) (avs := [iv 10, iv 0]) (rest := []) rfl rfl (nle rfl) ⟨by simp only [rmD]; omega, by simp only [rmD]; omega⟩ ⟨nle rfl, nle rfl⟩ dX12_goOnAnd_35 (by decide) rfl) (fun u_30 hp_31 => ?_)
          have hu_34 := hp_31
          subst hu_34
          refine ⟨rfl, ?_⟩
          refine S_w (ws' := [(h0, ob 11 (uF (uF (uF f 3 (iv a2_12)) 4 (iv fl_13)) 5 (iv dp2_15))), (hT, ar 160 T), (hC, ar 1700 (uZ C2_16 (340 * tx + k2_14) 10)), (hV, ar 1700 (uZ V2_17 (340 * tx + k2_14) 0)), (hN, ar 5 (uZ Nk tx (k2_14 + 1)))]) rfl ?_
          refine S_goto (tgt := 0) X dX12_goOnAnd_38 (by decide) ?_
          refine S_aload_n X dX12_goOnAnd_0 rfl hL17_0 ?_
          refine S_get (v := iv fl_13) X fgX12_118_11 0 rfl rfl dX12_goOnAnd_1 ?_
          refine S_iconst X dX12_goOnAnd_4 ?_
          refine S_icmp_ne (tgt := 41) X dX12_goOnAnd_5 (by decide) (by omega) (by decide) (fun c_35 => ?_) (fun c_35 => by exfalso; omega)
          exact S_vret X (nle rfl) (nle rfl) dX12_goOnAnd_41 (hPo _ (Or.inl ⟨_, _, _, _, _, _, rfl, hk9.symm.trans (loopL_f (by omega) hq_20), by omega, by omega, by first | exact frm_0 | assumption | exact frm_r (by omega) (by omega) | exact frm_w (by assumption) (by omega) (by omega) | exact frm_p frm_0 (by omega) | exact frm_p (by assumption) (by omega) | exact frm_p (frm_w (by assumption) (by omega) (by omega)) (by omega), by first | exact frm_0 | assumption | exact frm_r (by omega) (by omega) | exact frm_w (by assumption) (by omega) (by omega) | exact frm_p frm_0 (by omega) | exact frm_p (by assumption) (by omega) | exact frm_p (frm_w (by assumption) (by omega) (by omega)) (by omega)⟩))
        ·
          subst hu_28
          refine ⟨rfl, ?_⟩
          refine S_w (ws' := [(h0, ob 11 (uF (uF (uF f 3 (iv a2_25)) 4 (iv (-1))) 5 (iv dp))), (hT, ar 160 T), (hC, ar 1700 (wrL (wrL C (340 * tx + k) (List.map kC acc)) (340 * tx + (k + ((acc).length : Int))) (List.map kC ts_26))), (hV, ar 1700 (wrL (wrL V (340 * tx + k) (List.map kV acc)) (340 * tx + (k + ((acc).length : Int))) (List.map kV ts_26))), (hN, ar 5 (uZ Nk tx ((k + ((acc).length : Int)) + ((ts_26).length : Int))))]) rfl ?_
          refine S_w (ws' := [(h0, ob 11 (uF (uF (uF f 3 (iv a2_25)) 4 (iv (-1))) 5 (iv dp))), (hT, ar 160 T), (hC, ar 1700 (wrL C (340 * tx + k) (List.map kC (acc ++ ts_26)))), (hV, ar 1700 (wrL V (340 * tx + k) (List.map kV (acc ++ ts_26)))), (hN, ar 5 (uZ Nk tx (k + ((acc ++ ts_26).length : Int))))]) (by simp only [rW_app, rK_app]) ?_
          have ho_36 := (pUnit_ok (T := T) hn1 K (sk T n a1 + 1) (by omega) (by omega)).2 _ hq_29
          dsimp only at ho_36
          have hln_36 : (((acc ++ ts_26).length : Nat) : Int) = _ := congrArg Nat.cast List.length_append
          rw [Int.natCast_add] at hln_36
          refine S_aload_n X dX12_goOnAnd_31 rfl hL17_0 ?_
          refine S_bipush X dX12_goOnAnd_32 rfl ?_
          refine S_iconst X dX12_goOnAnd_34 ?_
          refine S_callv X (kX12_put l h0 f a2_25 (-1) dp hC hV hN (wrL C (340 * tx + k) (List.map kC (acc ++ ts_26))) (wrL V (340 * tx + k) (List.map kV (acc ++ ts_26))) Nk tx (k + ((acc ++ ts_26).length : Int)) 10 0 hf2 hf3 hf4 hf5 (by omega) (by omega)) (is := [0, 2, 3, 4]) rfl (run_V X lkX12_140 0 rfl rfl (is := [0, 2, 3, 4]) (avs := [iv 10, iv 0]) (rest := []) rfl rfl (nle rfl) ⟨by simp only [rmD]; omega, by simp only [rmD]; omega⟩ ⟨nle rfl, nle rfl⟩ dX12_goOnAnd_35 (by decide) rfl) (fun u_37 hp_38 => ?_)
          have hu_41 := hp_38
          subst hu_41
          refine ⟨rfl, ?_⟩
          refine S_w (ws' := [(h0, ob 11 (uF (uF (uF f 3 (iv a2_25)) 4 (iv (-1))) 5 (iv dp))), (hT, ar 160 T), (hC, ar 1700 (uZ (wrL C (340 * tx + k) (List.map kC (acc ++ ts_26))) (340 * tx + (k + ((acc ++ ts_26).length : Int))) 10)), (hV, ar 1700 (uZ (wrL V (340 * tx + k) (List.map kV (acc ++ ts_26))) (340 * tx + (k + ((acc ++ ts_26).length : Int))) 0)), (hN, ar 5 (uZ Nk tx ((k + ((acc ++ ts_26).length : Int)) + 1)))]) rfl ?_
          refine S_w (ws' := [(h0, ob 11 (uF (uF (uF f 3 (iv a2_25)) 4 (iv (-1))) 5 (iv dp))), (hT, ar 160 T), (hC, ar 1700 (wrL C (340 * tx + k) (List.map kC (acc ++ ts_26 ++ [-38])))), (hV, ar 1700 (wrL V (340 * tx + k) (List.map kV (acc ++ ts_26 ++ [-38])))), (hN, ar 5 (uZ Nk tx (k + ((acc ++ ts_26 ++ [-38]).length : Int))))]) (by rw [rW_put (g := kC) (c0 := 10) (-38) rfl, rW_put (g := kV) (c0 := 0) (-38) rfl, rK_put (-38)]) ?_
          have hln_42 : (((acc ++ ts_26 ++ [-38]).length : Nat) : Int) = _ := congrArg Nat.cast List.length_append
          rw [Int.natCast_add, List.length_singleton] at hln_42
          have hkk_43 := (lpS (f := g9) (acc := acc) (show ch T n (sk T n a1) = 38 by omega) (by omega) hq_29).symm.trans hk9
          refine S_goto (tgt := 0) X dX12_goOnAnd_38 (by decide) ?_
          refine S_aload_n X dX12_goOnAnd_0 rfl hL17_0 ?_
          refine S_get (v := iv (-1)) X fgX12_118_11 0 rfl rfl dX12_goOnAnd_1 ?_
          refine S_iconst X dX12_goOnAnd_4 ?_
          refine S_icmp_ne (tgt := 41) X dX12_goOnAnd_5 (by decide) (by decide) (by decide) (fun h9 => absurd h9 (by decide)) (fun _ => ?_)
          refine S_aload_n X dX12_goOnAnd_8 rfl hL17_0 ?_
          refine S_calli X (kX12_look l h0 hT f T n a2_25 (-1) dp hf0 hf1 (by omega) (by omega)) (is := [0, 1]) rfl (run_V X lkX12_130 0 rfl rfl (is := [0, 1]) (avs := []) (rest := []) rfl rfl (nle rfl) ⟨by simp only [rmD]; omega, by simp only [rmD]; omega⟩ ⟨nle rfl, nle rfl⟩ dX12_goOnAnd_9 (by decide) rfl) (fun z_47 u_45 hp_46 => ?_)
          obtain ⟨hz_48, hu_49⟩ := hp_46
          subst hz_48
          subst hu_49
          refine ⟨rfl, ?_⟩
          refine S_w (ws' := [(h0, ob 11 (uF (uF (uF f 3 (iv (sk T n a2_25))) 4 (iv (-1))) 5 (iv dp))), (hT, ar 160 T), (hC, ar 1700 (wrL C (340 * tx + k) (List.map kC (acc ++ ts_26 ++ [-38])))), (hV, ar 1700 (wrL V (340 * tx + k) (List.map kV (acc ++ ts_26 ++ [-38])))), (hN, ar 5 (uZ Nk tx (k + ((acc ++ ts_26 ++ [-38]).length : Int))))]) rfl ?_
          have hsk_50 := sk_in (T := T) (n := n) (a := a2_25) (by omega)
          have hcm_50 := chM_or okT (a := sk T n a2_25) (by omega) (by omega)
          refine S_bipush X dX12_goOnAnd_12 rfl ?_
          refine S_icmp_ne (tgt := 41) X dX12_goOnAnd_14 (by decide) (by omega) (by decide) (fun c_51 => ?_) (fun c_51 => ?_)
          ·
            exact S_vret X (nle rfl) (nle rfl) dX12_goOnAnd_41 (hPo _ (Or.inr ⟨_, _, rfl, hkk_43.symm.trans (lpE (by omega) (by omega)), by omega⟩))
          ·
            exact ih17 a2_25 (acc ++ ts_26 ++ [-38]) _ (by omega) (by omega) (by omega) (by omega) (⟨g9, by omega, hkk_43⟩) hL17_0 (by omega)
    exact lp17_1 (Int.toNat (161 - a) + 1) a tl _ (by omega) (by omega) (by omega) (by omega) (⟨161, by omega, rfl⟩) rfl (by omega)
set_option maxHeartbeats 4000000 in
set_option maxRecDepth 100000 in
theorem kX12_goOnOr_N (l : Launch) (K : Nat) (d : Nat) (hd : 5 ≤ d) (d1 : Nat) (hd1 : d1 ≤ d) (hun : C_X12_unit l K d1) (d2 : Nat) (hd2 : d2 ≤ d) (han : C_X12_goOnAnd_N l K d2) : C_X12_goOnOr_N l K (d + 1) := by
  intro h0 hT f T n a dp hC hV hN C V Nk tx k tl hf0 hf1 hf2 hf3 hf4 hf5 okT ha ht hk hw
  refine AMv.of2 rfl (nle rfl) ?_
  intro D G A p e s m args below meth c Po hPo hnm X
  obtain ⟨hn0, hn1, hT2⟩ := id okT
  have hsk := sk_in (T := T) ha.2
  have hcm := chM_or okT (a := sk T n a) (by omega) (by omega)
  refine S_aload_n X dX12_goOnOr_0 rfl rfl ?_
  refine S_get (v := iv (-1)) X fgX12_118_11 0 rfl rfl dX12_goOnOr_1 ?_
  refine S_iconst X dX12_goOnOr_4 ?_
  refine S_icmp_ne (tgt := 45) X dX12_goOnOr_5 (by decide) (by decide) (by decide) (fun h9 => absurd h9 (by decide)) (fun _ => ?_)
  refine S_aload_n X dX12_goOnOr_8 rfl rfl ?_
  refine S_calli X (kX12_look l h0 hT f T n a (-1) dp hf0 hf1 (by omega) (by omega)) (is := [0, 1]) rfl (run_V X lkX12_130 0 rfl rfl (is := [0, 1]) (avs := []) (rest := []) rfl rfl (nle rfl) ⟨by simp only [rmD]; omega, by simp only [rmD]; omega⟩ ⟨nle rfl, nle rfl⟩ dX12_goOnOr_9 (by decide) rfl) (fun z_4 u_2 hp_3 => ?_)
  obtain ⟨hz_5, hu_6⟩ := hp_3
  subst hz_5
  subst hu_6
  refine ⟨rfl, ?_⟩
  refine S_w (ws' := [(h0, ob 11 (uF (uF (uF f 3 (iv (sk T n a))) 4 (iv (-1))) 5 (iv dp))), (hT, ar 160 T), (hC, ar 1700 (wrL C (340 * tx + k) (List.map kC tl))), (hV, ar 1700 (wrL V (340 * tx + k) (List.map kV tl))), (hN, ar 5 (uZ Nk tx (k + ((tl).length : Int))))]) rfl ?_
  have hsk_7 := sk_in (T := T) (n := n) (a := a) (by omega)
  have hcm_7 := chM_or okT (a := sk T n a) (by omega) (by omega)
  refine S_bipush X dX12_goOnOr_12 rfl ?_
  refine S_icmp_ne (tgt := 45) X dX12_goOnOr_14 (by decide) (by omega) (by decide) (fun c_8 => ?_) (fun c_8 => ?_)
  ·
    exact S_vret X (nle rfl) (nle rfl) dX12_goOnOr_45 (hPo _ (Or.inr ⟨_, _, rfl, lpE (by omega) (by omega), by omega⟩))
  ·
    have lp17_1 : ∀ (N : Nat) (a1 : Int) (acc : List Int) (L : Nat → Option AV), a ≤ a1 ∧ a1 ≤ n → sk T n a1 < n → ch T n (sk T n a1) = 124 → (tl.length : Int) ≤ (acc.length : Int) ∧ (acc.length : Int) - (tl.length : Int) ≤ a1 - a → (∃ f : Nat, 161 - a1 ≤ f ∧ loopL T n 124 124 (pCj T n K) f a1 acc = loopL T n 124 124 (pCj T n K) 161 a tl) → L 0 = some (rv h0) → 161 - a1 < (N : Int) → S_ p l e (rmD (d + 1) 0 0) s m args below meth c (MQ below (QcV D G A Po) args s 0 0 A) D G A 1 0 0 17 L [] [(h0, ob 11 (uF (uF (uF f 3 (iv (sk T n a1))) 4 (iv (-1))) 5 (iv dp))), (hT, ar 160 T), (hC, ar 1700 (wrL C (340 * tx + k) (List.map kC acc))), (hV, ar 1700 (wrL V (340 * tx + k) (List.map kV acc))), (hN, ar 5 (uZ Nk tx (k + ((acc).length : Int))))] := by
      intro N
      induction N with
      | zero =>
        intro a1 acc L17 hi hlt hc1 hbd hkl hL17_0 hN17
        exfalso; omega
      | succ N ih17 =>
        intro a1 acc L17 hi hlt hc1 hbd hkl hL17_0 hN17
        obtain ⟨f9, hf9, hk9⟩ := hkl
        obtain ⟨g9, rfl⟩ : ∃ g, f9 = g + 1 := ⟨f9 - 1, by omega⟩
        have hsk1 := sk_in (T := T) (n := n) (a := a1) (by omega)
        refine S_aload_n X dX12_goOnOr_17 rfl hL17_0 ?_
        refine S_dup X dX12_goOnOr_18 ?_
        refine S_get (v := iv (sk T n a1)) X fgX12_111_11 0 rfl rfl dX12_goOnOr_19 ?_
        refine S_iconst X dX12_goOnOr_22 ?_
        refine S_iadd X dX12_goOnOr_23 ?_
        refine S_put X fpX12_111_11 0 rfl FT_i dX12_goOnOr_24 ?_
        refine S_w (ws' := [(h0, ob 11 (uF (uF (uF f 3 (iv ((sk T n a1) + 1))) 4 (iv (-1))) 5 (iv dp))), (hT, ar 160 T), (hC, ar 1700 (wrL C (340 * tx + k) (List.map kC acc))), (hV, ar 1700 (wrL V (340 * tx + k) (List.map kV acc))), (hN, ar 5 (uZ Nk tx (k + ((acc).length : Int))))]) (by simp only [List.set]; rw [uF_mv (j := 5) (k := 3) (by decide), uF_mv (j := 4) (k := 3) (by decide), uF_same (k := 3)]) ?_
        refine S_aload_n X dX12_goOnOr_27 rfl hL17_0 ?_
        refine S_callv X (hun h0 hT f T n ((sk T n a1) + 1) dp hC hV hN (wrL C (340 * tx + k) (List.map kC acc)) (wrL V (340 * tx + k) (List.map kV acc)) Nk tx (k + ((acc).length : Int)) hf0 hf1 hf2 hf3 hf4 hf5 (by omega) (by omega) (by omega) (by omega) (by omega)) (is := [0, 1, 2, 3, 4]) rfl (run_V X lkX12_167 0 rfl rfl (is := [0, 1, 2, 3, 4]) (avs := []) (rest := []) rfl rfl (nle rfl) ⟨by simp only [rmD]; omega, by simp only [rmD]; omega⟩ ⟨nle rfl, nle rfl⟩ dX12_goOnOr_28 (by decide) rfl) (fun u_9 hp_10 => ?_)
        rcases hp_10 with ⟨a2_12, fl_13, k2_14, dp2_15, C2_16, V2_17, hu_19, hq_20, hfl_21, hr_22, hfC_23, hfV_24⟩ | ⟨a2_25, ts_26, hu_28, hq_29⟩
        ·
          subst hu_19
          refine ⟨rfl, ?_⟩
          refine S_w (ws' := [(h0, ob 11 (uF (uF (uF f 3 (iv a2_12)) 4 (iv fl_13)) 5 (iv dp2_15))), (hT, ar 160 T), (hC, ar 1700 C2_16), (hV, ar 1700 V2_17), (hN, ar 5 (uZ Nk tx k2_14))]) rfl ?_
          refine S_aload_n X dX12_goOnOr_31 rfl hL17_0 ?_
          refine S_callv X (kX12_goOnAnd_E l h0 f a2_12 fl_13 dp2_15 (by omega) (by omega)) (is := [0]) rfl (run_V X lkX12_176 0 rfl rfl (is := [0]) (avs := []) (rest := []) rfl rfl (nle rfl) ⟨by simp only [rmD]; omega, by simp only [rmD]; omega⟩ ⟨nle rfl, nle rfl⟩ dX12_goOnOr_32 (by decide) rfl) (fun u_30 hp_31 => ?_)
          have hu_34 := hp_31
          subst hu_34
          refine ⟨rfl, ?_⟩
          refine S_w (ws' := [(h0, ob 11 (uF (uF (uF f 3 (iv a2_12)) 4 (iv fl_13)) 5 (iv dp2_15))), (hT, ar 160 T), (hC, ar 1700 C2_16), (hV, ar 1700 V2_17), (hN, ar 5 (uZ Nk tx k2_14))]) rfl ?_
          refine S_aload_n X dX12_goOnOr_35 rfl hL17_0 ?_
          refine S_bipush X dX12_goOnOr_36 rfl ?_
          refine S_iconst X dX12_goOnOr_38 ?_
          refine S_callv X (kX12_put l h0 f a2_12 fl_13 dp2_15 hC hV hN C2_16 V2_17 Nk tx k2_14 11 0 hf2 hf3 hf4 hf5 (by omega) (by omega)) (is := [0, 2, 3, 4]) rfl (run_V X lkX12_140 0 rfl rfl (is := [0, 2, 3, 4]) (avs := [iv 11, iv 0]) (rest := []) rfl rfl (nle rfl) ⟨by simp only [rmD]; omega, by simp only [rmD]; omega⟩ ⟨nle rfl, nle rfl⟩ dX12_goOnOr_39 (by decide) rfl) (fun u_35 hp_36 => ?_)
          have hu_39 := hp_36
          subst hu_39
          refine ⟨rfl, ?_⟩
          refine S_w (ws' := [(h0, ob 11 (uF (uF (uF f 3 (iv a2_12)) 4 (iv fl_13)) 5 (iv dp2_15))), (hT, ar 160 T), (hC, ar 1700 (uZ C2_16 (340 * tx + k2_14) 11)), (hV, ar 1700 (uZ V2_17 (340 * tx + k2_14) 0)), (hN, ar 5 (uZ Nk tx (k2_14 + 1)))]) rfl ?_
          refine S_goto (tgt := 0) X dX12_goOnOr_42 (by decide) ?_
          refine S_aload_n X dX12_goOnOr_0 rfl hL17_0 ?_
          refine S_get (v := iv fl_13) X fgX12_118_11 0 rfl rfl dX12_goOnOr_1 ?_
          refine S_iconst X dX12_goOnOr_4 ?_
          refine S_icmp_ne (tgt := 45) X dX12_goOnOr_5 (by decide) (by omega) (by decide) (fun c_40 => ?_) (fun c_40 => by exfalso; omega)
          exact S_vret X (nle rfl) (nle rfl) dX12_goOnOr_45 (hPo _ (Or.inl ⟨_, _, _, _, _, _, rfl, hk9.symm.trans (loopL_f (by omega) (seqG_f hq_20)), by omega, by omega, by first | exact frm_0 | assumption | exact frm_r (by omega) (by omega) | exact frm_w (by assumption) (by omega) (by omega) | exact frm_p frm_0 (by omega) | exact frm_p (by assumption) (by omega) | exact frm_p (frm_w (by assumption) (by omega) (by omega)) (by omega), by first | exact frm_0 | assumption | exact frm_r (by omega) (by omega) | exact frm_w (by assumption) (by omega) (by omega) | exact frm_p frm_0 (by omega) | exact frm_p (by assumption) (by omega) | exact frm_p (frm_w (by assumption) (by omega) (by omega)) (by omega)⟩))
        ·
          subst hu_28
          refine ⟨rfl, ?_⟩
          refine S_w (ws' := [(h0, ob 11 (uF (uF (uF f 3 (iv a2_25)) 4 (iv (-1))) 5 (iv dp))), (hT, ar 160 T), (hC, ar 1700 (wrL (wrL C (340 * tx + k) (List.map kC acc)) (340 * tx + (k + ((acc).length : Int))) (List.map kC ts_26))), (hV, ar 1700 (wrL (wrL V (340 * tx + k) (List.map kV acc)) (340 * tx + (k + ((acc).length : Int))) (List.map kV ts_26))), (hN, ar 5 (uZ Nk tx ((k + ((acc).length : Int)) + ((ts_26).length : Int))))]) rfl ?_
          have ho_41 := (pUnit_ok (T := T) hn1 K (sk T n a1 + 1) (by omega) (by omega)).2 _ hq_29
          dsimp only at ho_41
          refine S_aload_n X dX12_goOnOr_31 rfl hL17_0 ?_
          refine S_callv X (han h0 hT f T n a2_25 dp hC hV hN (wrL C (340 * tx + k) (List.map kC acc)) (wrL V (340 * tx + k) (List.map kV acc)) Nk tx (k + ((acc).length : Int)) ts_26 hf0 hf1 hf2 hf3 hf4 hf5 (by omega) (by omega) (by omega) (by omega) (by omega)) (is := [0, 1, 2, 3, 4]) rfl (run_V X lkX12_176 0 rfl rfl (is := [0, 1, 2, 3, 4]) (avs := []) (rest := []) rfl rfl (nle rfl) ⟨by simp only [rmD]; omega, by simp only [rmD]; omega⟩ ⟨nle rfl, nle rfl⟩ dX12_goOnOr_32 (by decide) rfl) (fun u_42 hp_43 => ?_)
          rcases hp_43 with ⟨a2_45, fl_46, k2_47, dp2_48, C2_49, V2_50, hu_52, hq_53, hfl_54, hr_55, hfC_56, hfV_57⟩ | ⟨a2_58, ts_59, hu_61, hq_62, hr2_63⟩
          ·
            subst hu_52
            refine ⟨rfl, ?_⟩
            refine S_w (ws' := [(h0, ob 11 (uF (uF (uF f 3 (iv a2_45)) 4 (iv fl_46)) 5 (iv dp2_48))), (hT, ar 160 T), (hC, ar 1700 C2_49), (hV, ar 1700 V2_50), (hN, ar 5 (uZ Nk tx k2_47))]) rfl ?_
            refine S_aload_n X dX12_goOnOr_35 rfl hL17_0 ?_
            refine S_bipush X dX12_goOnOr_36 rfl ?_
            refine S_iconst X dX12_goOnOr_38 ?_
            refine S_callv X (kX12_put l h0 f a2_45 fl_46 dp2_48 hC hV hN C2_49 V2_50 Nk tx k2_47 11 0 hf2 hf3 hf4 hf5 (by omega) (by omega)) (is := [0, 2, 3, 4]) rfl (run_V X lkX12_140 0 rfl rfl (is := [0, 2, 3, 4]) (avs := [iv 11, iv 0]) (rest := []) rfl rfl (nle rfl) ⟨by simp only [rmD]; omega, by simp only [rmD]; omega⟩ ⟨nle rfl, nle rfl⟩ dX12_goOnOr_39 (by decide) rfl) (fun u_64 hp_65 => ?_)
            have hu_68 := hp_65
            subst hu_68
            refine ⟨rfl, ?_⟩
            refine S_w (ws' := [(h0, ob 11 (uF (uF (uF f 3 (iv a2_45)) 4 (iv fl_46)) 5 (iv dp2_48))), (hT, ar 160 T), (hC, ar 1700 (uZ C2_49 (340 * tx + k2_47) 11)), (hV, ar 1700 (uZ V2_50 (340 * tx + k2_47) 0)), (hN, ar 5 (uZ Nk tx (k2_47 + 1)))]) rfl ?_
            refine S_goto (tgt := 0) X dX12_goOnOr_42 (by decide) ?_
            refine S_aload_n X dX12_goOnOr_0 rfl hL17_0 ?_
            refine S_get (v := iv fl_46) X fgX12_118_11 0 rfl rfl dX12_goOnOr_1 ?_
            refine S_iconst X dX12_goOnOr_4 ?_
            refine S_icmp_ne (tgt := 45) X dX12_goOnOr_5 (by decide) (by omega) (by decide) (fun c_69 => ?_) (fun c_69 => by exfalso; omega)
            exact S_vret X (nle rfl) (nle rfl) dX12_goOnOr_45 (hPo _ (Or.inl ⟨_, _, _, _, _, _, rfl, hk9.symm.trans (loopL_f (by omega) ((seqG_r hq_29).trans hq_53)), by omega, by omega, by first | exact frm_0 | assumption | exact frm_r (by omega) (by omega) | exact frm_w (by assumption) (by omega) (by omega) | exact frm_p frm_0 (by omega) | exact frm_p (by assumption) (by omega) | exact frm_p (frm_w (by assumption) (by omega) (by omega)) (by omega), by first | exact frm_0 | assumption | exact frm_r (by omega) (by omega) | exact frm_w (by assumption) (by omega) (by omega) | exact frm_p frm_0 (by omega) | exact frm_p (by assumption) (by omega) | exact frm_p (frm_w (by assumption) (by omega) (by omega)) (by omega)⟩))
          ·
            subst hu_61
            refine ⟨rfl, ?_⟩
            refine S_w (ws' := [(h0, ob 11 (uF (uF (uF f 3 (iv a2_58)) 4 (iv (-1))) 5 (iv dp))), (hT, ar 160 T), (hC, ar 1700 (wrL (wrL C (340 * tx + k) (List.map kC acc)) (340 * tx + (k + ((acc).length : Int))) (List.map kC ts_59))), (hV, ar 1700 (wrL (wrL V (340 * tx + k) (List.map kV acc)) (340 * tx + (k + ((acc).length : Int))) (List.map kV ts_59))), (hN, ar 5 (uZ Nk tx ((k + ((acc).length : Int)) + ((ts_59).length : Int))))]) rfl ?_
            refine S_w (ws' := [(h0, ob 11 (uF (uF (uF f 3 (iv a2_58)) 4 (iv (-1))) 5 (iv dp))), (hT, ar 160 T), (hC, ar 1700 (wrL C (340 * tx + k) (List.map kC (acc ++ ts_59)))), (hV, ar 1700 (wrL V (340 * tx + k) (List.map kV (acc ++ ts_59)))), (hN, ar 5 (uZ Nk tx (k + ((acc ++ ts_59).length : Int))))]) (by simp only [rW_app, rK_app]) ?_
            have hln_70 : (((acc ++ ts_59).length : Nat) : Int) = _ := congrArg Nat.cast List.length_append
            rw [Int.natCast_add] at hln_70
            refine S_aload_n X dX12_goOnOr_35 rfl hL17_0 ?_
            refine S_bipush X dX12_goOnOr_36 rfl ?_
            refine S_iconst X dX12_goOnOr_38 ?_
            refine S_callv X (kX12_put l h0 f a2_58 (-1) dp hC hV hN (wrL C (340 * tx + k) (List.map kC (acc ++ ts_59))) (wrL V (340 * tx + k) (List.map kV (acc ++ ts_59))) Nk tx (k + ((acc ++ ts_59).length : Int)) 11 0 hf2 hf3 hf4 hf5 (by omega) (by omega)) (is := [0, 2, 3, 4]) rfl (run_V X lkX12_140 0 rfl rfl (is := [0, 2, 3, 4]) (avs := [iv 11, iv 0]) (rest := []) rfl rfl (nle rfl) ⟨by simp only [rmD]; omega, by simp only [rmD]; omega⟩ ⟨nle rfl, nle rfl⟩ dX12_goOnOr_39 (by decide) rfl) (fun u_71 hp_72 => ?_)
            have hu_75 := hp_72
            subst hu_75
            refine ⟨rfl, ?_⟩
            refine S_w (ws' := [(h0, ob 11 (uF (uF (uF f 3 (iv a2_58)) 4 (iv (-1))) 5 (iv dp))), (hT, ar 160 T), (hC, ar 1700 (uZ (wrL C (340 * tx + k) (List.map kC (acc ++ ts_59))) (340 * tx + (k + ((acc ++ ts_59).length : Int))) 11)), (hV, ar 1700 (uZ (wrL V (340 * tx + k) (List.map kV (acc ++ ts_59))) (340 * tx + (k + ((acc ++ ts_59).length : Int))) 0)), (hN, ar 5 (uZ Nk tx ((k + ((acc ++ ts_59).length : Int)) + 1)))]) rfl ?_
            refine S_w (ws' := [(h0, ob 11 (uF (uF (uF f 3 (iv a2_58)) 4 (iv (-1))) 5 (iv dp))), (hT, ar 160 T), (hC, ar 1700 (wrL C (340 * tx + k) (List.map kC (acc ++ ts_59 ++ [-124])))), (hV, ar 1700 (wrL V (340 * tx + k) (List.map kV (acc ++ ts_59 ++ [-124])))), (hN, ar 5 (uZ Nk tx (k + ((acc ++ ts_59 ++ [-124]).length : Int))))]) (by rw [rW_put (g := kC) (c0 := 11) (-124) rfl, rW_put (g := kV) (c0 := 0) (-124) rfl, rK_put (-124)]) ?_
            have hln_76 : (((acc ++ ts_59 ++ [-124]).length : Nat) : Int) = _ := congrArg Nat.cast List.length_append
            rw [Int.natCast_add, List.length_singleton] at hln_76
            have hkk_77 := (lpS (f := g9) (acc := acc) (show ch T n (sk T n a1) = 124 by omega) (by omega) ((seqG_r hq_29).trans hq_62)).symm.trans hk9
            refine S_goto (tgt := 0) X dX12_goOnOr_42 (by decide) ?_
            refine S_aload_n X dX12_goOnOr_0 rfl hL17_0 ?_
            refine S_get (v := iv (-1)) X fgX12_118_11 0 rfl rfl dX12_goOnOr_1 ?_
            refine S_iconst X dX12_goOnOr_4 ?_
            refine S_icmp_ne (tgt := 45) X dX12_goOnOr_5 (by decide) (by decide) (by decide) (fun h9 => absurd h9 (by decide)) (fun _ => ?_)
            refine S_aload_n X dX12_goOnOr_8 rfl hL17_0 ?_
            refine S_calli X (kX12_look l h0 hT f T n a2_58 (-1) dp hf0 hf1 (by omega) (by omega)) (is := [0, 1]) rfl (run_V X lkX12_130 0 rfl rfl (is := [0, 1]) (avs := []) (rest := []) rfl rfl (nle rfl) ⟨by simp only [rmD]; omega, by simp only [rmD]; omega⟩ ⟨nle rfl, nle rfl⟩ dX12_goOnOr_9 (by decide) rfl) (fun z_81 u_79 hp_80 => ?_)
            obtain ⟨hz_82, hu_83⟩ := hp_80
            subst hz_82
            subst hu_83
            refine ⟨rfl, ?_⟩
            refine S_w (ws' := [(h0, ob 11 (uF (uF (uF f 3 (iv (sk T n a2_58))) 4 (iv (-1))) 5 (iv dp))), (hT, ar 160 T), (hC, ar 1700 (wrL C (340 * tx + k) (List.map kC (acc ++ ts_59 ++ [-124])))), (hV, ar 1700 (wrL V (340 * tx + k) (List.map kV (acc ++ ts_59 ++ [-124])))), (hN, ar 5 (uZ Nk tx (k + ((acc ++ ts_59 ++ [-124]).length : Int))))]) rfl ?_
            have hsk_84 := sk_in (T := T) (n := n) (a := a2_58) (by omega)
            have hcm_84 := chM_or okT (a := sk T n a2_58) (by omega) (by omega)
            refine S_bipush X dX12_goOnOr_12 rfl ?_
            refine S_icmp_ne (tgt := 45) X dX12_goOnOr_14 (by decide) (by omega) (by decide) (fun c_85 => ?_) (fun c_85 => ?_)
            ·
              exact S_vret X (nle rfl) (nle rfl) dX12_goOnOr_45 (hPo _ (Or.inr ⟨_, _, rfl, hkk_77.symm.trans (lpE (by omega) (by omega)), by omega⟩))
            ·
              exact ih17 a2_58 (acc ++ ts_59 ++ [-124]) _ (by omega) (by omega) (by omega) (by omega) (⟨g9, by omega, hkk_77⟩) hL17_0 (by omega)
    exact lp17_1 (Int.toNat (161 - a) + 1) a tl _ (by omega) (by omega) (by omega) (by omega) (⟨161, by omega, rfl⟩) rfl (by omega)
set_option maxHeartbeats 4000000 in
set_option maxRecDepth 100000 in
theorem kX12_condition (l : Launch) (K : Nat) (d : Nat) (hd : 5 ≤ d) (d1 : Nat) (hd1 : d1 ≤ d) (hun : C_X12_unit l K d1) (d2 : Nat) (hd2 : d2 ≤ d) (han : C_X12_goOnAnd_N l K d2) (d3 : Nat) (hd3 : d3 ≤ d) (hor : C_X12_goOnOr_N l K d3) : C_X12_condition l K (d + 1) := by
  intro h0 hT f T n a dp hC hV hN C V Nk tx k hf0 hf1 hf2 hf3 hf4 hf5 okT ha ht hk hw
  refine AMv.of2 rfl (nle rfl) ?_
  intro D G A p e s m args below meth c Po hPo hnm X
  obtain ⟨hn0, hn1, hT2⟩ := id okT
  have hsk := sk_in (T := T) ha.2
  have hcm := chM_or okT (a := sk T n a) (by omega) (by omega)
  refine S_aload_n X dX12_condition_0 rfl rfl ?_
  refine S_callv X (hun h0 hT f T n a dp hC hV hN C V Nk tx k hf0 hf1 hf2 hf3 hf4 hf5 (by omega) (by omega) (by omega) (by omega) (by omega)) (is := [0, 1, 2, 3, 4]) rfl (run_V X lkX12_167 0 rfl rfl (is := [0, 1, 2, 3, 4]) (avs := []) (rest := []) rfl rfl (nle rfl) ⟨by simp only [rmD]; omega, by simp only [rmD]; omega⟩ ⟨nle rfl, nle rfl⟩ dX12_condition_1 (by decide) rfl) (fun u_1 hp_2 => ?_)
  rcases hp_2 with ⟨a2_4, fl_5, k2_6, dp2_7, C2_8, V2_9, hu_11, hq_12, hfl_13, hr_14, hfC_15, hfV_16⟩ | ⟨a2_17, ts_18, hu_20, hq_21⟩
  ·
    subst hu_11
    refine ⟨rfl, ?_⟩
    refine S_w (ws' := [(h0, ob 11 (uF (uF (uF f 3 (iv a2_4)) 4 (iv fl_5)) 5 (iv dp2_7))), (hT, ar 160 T), (hC, ar 1700 C2_8), (hV, ar 1700 V2_9), (hN, ar 5 (uZ Nk tx k2_6))]) rfl ?_
    refine S_aload_n X dX12_condition_4 rfl rfl ?_
    refine S_callv X (kX12_goOnAnd_E l h0 f a2_4 fl_5 dp2_7 (by omega) (by omega)) (is := [0]) rfl (run_V X lkX12_176 0 rfl rfl (is := [0]) (avs := []) (rest := []) rfl rfl (nle rfl) ⟨by simp only [rmD]; omega, by simp only [rmD]; omega⟩ ⟨nle rfl, nle rfl⟩ dX12_condition_5 (by decide) rfl) (fun u_22 hp_23 => ?_)
    have hu_26 := hp_23
    subst hu_26
    refine ⟨rfl, ?_⟩
    refine S_w (ws' := [(h0, ob 11 (uF (uF (uF f 3 (iv a2_4)) 4 (iv fl_5)) 5 (iv dp2_7))), (hT, ar 160 T), (hC, ar 1700 C2_8), (hV, ar 1700 V2_9), (hN, ar 5 (uZ Nk tx k2_6))]) rfl ?_
    refine S_aload_n X dX12_condition_8 rfl rfl ?_
    refine S_callv X (kX12_goOnOr_E l h0 f a2_4 fl_5 dp2_7 (by omega) (by omega)) (is := [0]) rfl (run_V X lkX12_179 0 rfl rfl (is := [0]) (avs := []) (rest := []) rfl rfl (nle rfl) ⟨by simp only [rmD]; omega, by simp only [rmD]; omega⟩ ⟨nle rfl, nle rfl⟩ dX12_condition_9 (by decide) rfl) (fun u_27 hp_28 => ?_)
    have hu_31 := hp_28
    subst hu_31
    refine ⟨rfl, ?_⟩
    refine S_w (ws' := [(h0, ob 11 (uF (uF (uF f 3 (iv a2_4)) 4 (iv fl_5)) 5 (iv dp2_7))), (hT, ar 160 T), (hC, ar 1700 C2_8), (hV, ar 1700 V2_9), (hN, ar 5 (uZ Nk tx k2_6))]) rfl ?_
    exact S_vret X (nle rfl) (nle rfl) dX12_condition_12 (hPo _ (Or.inl ⟨_, _, _, _, _, _, rfl, cond_u hq_12, by omega, by omega, by first | exact frm_0 | assumption | exact frm_r (by omega) (by omega) | exact frm_w (by assumption) (by omega) (by omega) | exact frm_p frm_0 (by omega) | exact frm_p (by assumption) (by omega) | exact frm_p (frm_w (by assumption) (by omega) (by omega)) (by omega), by first | exact frm_0 | assumption | exact frm_r (by omega) (by omega) | exact frm_w (by assumption) (by omega) (by omega) | exact frm_p frm_0 (by omega) | exact frm_p (by assumption) (by omega) | exact frm_p (frm_w (by assumption) (by omega) (by omega)) (by omega)⟩))
  ·
    subst hu_20
    refine ⟨rfl, ?_⟩
    refine S_w (ws' := [(h0, ob 11 (uF (uF (uF f 3 (iv a2_17)) 4 (iv (-1))) 5 (iv dp))), (hT, ar 160 T), (hC, ar 1700 (wrL C (340 * tx + k) (List.map kC ts_18))), (hV, ar 1700 (wrL V (340 * tx + k) (List.map kV ts_18))), (hN, ar 5 (uZ Nk tx (k + ((ts_18).length : Int))))]) rfl ?_
    have ho_32 := (pUnit_ok (T := T) hn1 K a ha.1 ha.2).2 _ hq_21
    dsimp only at ho_32
    refine S_aload_n X dX12_condition_4 rfl rfl ?_
    refine S_callv X (han h0 hT f T n a2_17 dp hC hV hN C V Nk tx k ts_18 hf0 hf1 hf2 hf3 hf4 hf5 (by omega) (by omega) (by omega) (by omega) (by omega)) (is := [0, 1, 2, 3, 4]) rfl (run_V X lkX12_176 0 rfl rfl (is := [0, 1, 2, 3, 4]) (avs := []) (rest := []) rfl rfl (nle rfl) ⟨by simp only [rmD]; omega, by simp only [rmD]; omega⟩ ⟨nle rfl, nle rfl⟩ dX12_condition_5 (by decide) rfl) (fun u_33 hp_34 => ?_)
    rcases hp_34 with ⟨a2_36, fl_37, k2_38, dp2_39, C2_40, V2_41, hu_43, hq_44, hfl_45, hr_46, hfC_47, hfV_48⟩ | ⟨a2_49, ts_50, hu_52, hq_53, hr2_54⟩
    ·
      subst hu_43
      refine ⟨rfl, ?_⟩
      refine S_w (ws' := [(h0, ob 11 (uF (uF (uF f 3 (iv a2_36)) 4 (iv fl_37)) 5 (iv dp2_39))), (hT, ar 160 T), (hC, ar 1700 C2_40), (hV, ar 1700 V2_41), (hN, ar 5 (uZ Nk tx k2_38))]) rfl ?_
      refine S_aload_n X dX12_condition_8 rfl rfl ?_
      refine S_callv X (kX12_goOnOr_E l h0 f a2_36 fl_37 dp2_39 (by omega) (by omega)) (is := [0]) rfl (run_V X lkX12_179 0 rfl rfl (is := [0]) (avs := []) (rest := []) rfl rfl (nle rfl) ⟨by simp only [rmD]; omega, by simp only [rmD]; omega⟩ ⟨nle rfl, nle rfl⟩ dX12_condition_9 (by decide) rfl) (fun u_55 hp_56 => ?_)
      have hu_59 := hp_56
      subst hu_59
      refine ⟨rfl, ?_⟩
      refine S_w (ws' := [(h0, ob 11 (uF (uF (uF f 3 (iv a2_36)) 4 (iv fl_37)) 5 (iv dp2_39))), (hT, ar 160 T), (hC, ar 1700 C2_40), (hV, ar 1700 V2_41), (hN, ar 5 (uZ Nk tx k2_38))]) rfl ?_
      exact S_vret X (nle rfl) (nle rfl) dX12_condition_12 (hPo _ (Or.inl ⟨_, _, _, _, _, _, rfl, cond_a hn1 (by omega) hq_21 hq_44, by omega, by omega, by first | exact frm_0 | assumption | exact frm_r (by omega) (by omega) | exact frm_w (by assumption) (by omega) (by omega) | exact frm_p frm_0 (by omega) | exact frm_p (by assumption) (by omega) | exact frm_p (frm_w (by assumption) (by omega) (by omega)) (by omega), by first | exact frm_0 | assumption | exact frm_r (by omega) (by omega) | exact frm_w (by assumption) (by omega) (by omega) | exact frm_p frm_0 (by omega) | exact frm_p (by assumption) (by omega) | exact frm_p (frm_w (by assumption) (by omega) (by omega)) (by omega)⟩))
    ·
      subst hu_52
      refine ⟨rfl, ?_⟩
      refine S_w (ws' := [(h0, ob 11 (uF (uF (uF f 3 (iv a2_49)) 4 (iv (-1))) 5 (iv dp))), (hT, ar 160 T), (hC, ar 1700 (wrL C (340 * tx + k) (List.map kC ts_50))), (hV, ar 1700 (wrL V (340 * tx + k) (List.map kV ts_50))), (hN, ar 5 (uZ Nk tx (k + ((ts_50).length : Int))))]) rfl ?_
      refine S_aload_n X dX12_condition_8 rfl rfl ?_
      refine S_callv X (hor h0 hT f T n a2_49 dp hC hV hN C V Nk tx k ts_50 hf0 hf1 hf2 hf3 hf4 hf5 (by omega) (by omega) (by omega) (by omega) (by omega)) (is := [0, 1, 2, 3, 4]) rfl (run_V X lkX12_179 0 rfl rfl (is := [0, 1, 2, 3, 4]) (avs := []) (rest := []) rfl rfl (nle rfl) ⟨by simp only [rmD]; omega, by simp only [rmD]; omega⟩ ⟨nle rfl, nle rfl⟩ dX12_condition_9 (by decide) rfl) (fun u_60 hp_61 => ?_)
      rcases hp_61 with ⟨a2_63, fl_64, k2_65, dp2_66, C2_67, V2_68, hu_70, hq_71, hfl_72, hr_73, hfC_74, hfV_75⟩ | ⟨a2_76, ts_77, hu_79, hq_80, hr2_81⟩
      ·
        subst hu_70
        refine ⟨rfl, ?_⟩
        refine S_w (ws' := [(h0, ob 11 (uF (uF (uF f 3 (iv a2_63)) 4 (iv fl_64)) 5 (iv dp2_66))), (hT, ar 160 T), (hC, ar 1700 C2_67), (hV, ar 1700 V2_68), (hN, ar 5 (uZ Nk tx k2_65))]) rfl ?_
        exact S_vret X (nle rfl) (nle rfl) dX12_condition_12 (hPo _ (Or.inl ⟨_, _, _, _, _, _, rfl, cond_o hn1 (by omega) hq_21 hq_53 hq_71, by omega, by omega, by first | exact frm_0 | assumption | exact frm_r (by omega) (by omega) | exact frm_w (by assumption) (by omega) (by omega) | exact frm_p frm_0 (by omega) | exact frm_p (by assumption) (by omega) | exact frm_p (frm_w (by assumption) (by omega) (by omega)) (by omega), by first | exact frm_0 | assumption | exact frm_r (by omega) (by omega) | exact frm_w (by assumption) (by omega) (by omega) | exact frm_p frm_0 (by omega) | exact frm_p (by assumption) (by omega) | exact frm_p (frm_w (by assumption) (by omega) (by omega)) (by omega)⟩))
      ·
        subst hu_79
        refine ⟨rfl, ?_⟩
        refine S_w (ws' := [(h0, ob 11 (uF (uF (uF f 3 (iv a2_76)) 4 (iv (-1))) 5 (iv dp))), (hT, ar 160 T), (hC, ar 1700 (wrL C (340 * tx + k) (List.map kC ts_77))), (hV, ar 1700 (wrL V (340 * tx + k) (List.map kV ts_77))), (hN, ar 5 (uZ Nk tx (k + ((ts_77).length : Int))))]) rfl ?_
        exact S_vret X (nle rfl) (nle rfl) dX12_condition_12 (hPo _ (Or.inr ⟨_, _, rfl, cond_o hn1 (by omega) hq_21 hq_53 hq_80⟩))
set_option maxHeartbeats 4000000 in
set_option maxRecDepth 100000 in
theorem kX12_unit (l : Launch) (K : Nat) (d : Nat) (hd : 5 ≤ d) (d1 : Nat) (hd1 : d1 ≤ d) (hsu : C_X12_sum l K d1) (d2 : Nat) (hd2 : d2 ≤ d) (hcp : C_X12_compare l K d2) (d3 : Nat) (hd3 : d3 ≤ d) (hun : ∀ K2 : Nat, K = K2 + 1 → C_X12_unit l K2 d3) (d4 : Nat) (hd4 : d4 ≤ d) (hco : ∀ K2 : Nat, K = K2 + 1 → C_X12_condition l K2 d4) : C_X12_unit l K (d + 1) := by
  intro h0 hT f T n a dp hC hV hN C V Nk tx k hf0 hf1 hf2 hf3 hf4 hf5 okT ha ht hk hw
  refine AMv.of2 rfl (nle rfl) ?_
  intro D G A p e s m args below meth c Po hPo hnm X
  obtain ⟨hn0, hn1, hT2⟩ := id okT
  have hsk := sk_in (T := T) ha.2
  have hcm := chM_or okT (a := sk T n a) (by omega) (by omega)
  refine S_aload_n X dX12_unit_0 rfl rfl ?_
  refine S_calli X (kX12_look l h0 hT f T n a (-1) dp hf0 hf1 (by omega) (by omega)) (is := [0, 1]) rfl (run_V X lkX12_130 0 rfl rfl (is := [0, 1]) (avs := []) (rest := []) rfl rfl (nle rfl) ⟨by simp only [rmD]; omega, by simp only [rmD]; omega⟩ ⟨nle rfl, nle rfl⟩ dX12_unit_1 (by decide) rfl) (fun z_3 u_1 hp_2 => ?_)
  obtain ⟨hz_4, hu_5⟩ := hp_2
  subst hz_4
  subst hu_5
  refine ⟨rfl, ?_⟩
  refine S_w (ws' := [(h0, ob 11 (uF (uF (uF f 3 (iv (sk T n a))) 4 (iv (-1))) 5 (iv dp))), (hT, ar 160 T), (hC, ar 1700 C), (hV, ar 1700 V), (hN, ar 5 (uZ Nk tx k))]) rfl ?_
  refine S_istore_n X dX12_unit_4 rfl (nle rfl) ?_
  refine S_iload_n X dX12_unit_5 rfl rfl ?_
  refine S_bipush X dX12_unit_6 rfl ?_
  refine S_icmp_ne (tgt := 47) X dX12_unit_8 (by decide) (by omega) (by decide) (fun c_6 => ?_) (fun c_6 => ?_)
  ·
    refine S_iload_n X dX12_unit_47 rfl rfl ?_
    refine S_bipush X dX12_unit_48 rfl ?_
    refine S_icmp_ne (tgt := 78) X dX12_unit_50 (by decide) (by omega) (by decide) (fun c_7 => ?_) (fun c_7 => ?_)
    ·
      refine S_aload_n X dX12_unit_78 rfl rfl ?_
      refine S_callv X (hsu h0 hT f T n (sk T n a) dp hC hV hN C V Nk tx k hf0 hf1 hf2 hf3 hf4 hf5 (by omega) (by omega) (by omega) (by omega) (by omega)) (is := [0, 1, 2, 3, 4]) rfl (run_V X lkX12_151 0 rfl rfl (is := [0, 1, 2, 3, 4]) (avs := []) (rest := []) rfl rfl (nle rfl) ⟨by simp only [rmD]; omega, by simp only [rmD]; omega⟩ ⟨nle rfl, nle rfl⟩ dX12_unit_79 (by decide) rfl) (fun u_8 hp_9 => ?_)
      rcases hp_9 with ⟨a2_11, fl_12, k2_13, dp2_14, C2_15, V2_16, hu_18, hq_19, hfl_20, hr_21, hfC_22, hfV_23⟩ | ⟨a2_24, ts_25, hu_27, hq_28⟩
      ·
        subst hu_18
        refine ⟨rfl, ?_⟩
        refine S_w (ws' := [(h0, ob 11 (uF (uF (uF f 3 (iv a2_11)) 4 (iv fl_12)) 5 (iv dp2_14))), (hT, ar 160 T), (hC, ar 1700 C2_15), (hV, ar 1700 V2_16), (hN, ar 5 (uZ Nk tx k2_13))]) rfl ?_
        refine S_aload_n X dX12_unit_82 rfl rfl ?_
        refine S_get (v := iv fl_12) X fgX12_118_11 0 rfl rfl dX12_unit_83 ?_
        refine S_iconst X dX12_unit_86 ?_
        refine S_icmp_ne (tgt := 94) X dX12_unit_87 (by decide) (by omega) (by decide) (fun c_29 => ?_) (fun c_29 => by exfalso; omega)
        exact S_vret X (nle rfl) (nle rfl) dX12_unit_94 (hPo _ (Or.inl ⟨_, _, _, _, _, _, rfl, unit_sf (by omega) hq_19, by omega, by omega, by first | exact frm_0 | assumption | exact frm_r (by omega) (by omega) | exact frm_w (by assumption) (by omega) (by omega) | exact frm_p frm_0 (by omega) | exact frm_p (by assumption) (by omega) | exact frm_p (frm_w (by assumption) (by omega) (by omega)) (by omega), by first | exact frm_0 | assumption | exact frm_r (by omega) (by omega) | exact frm_w (by assumption) (by omega) (by omega) | exact frm_p frm_0 (by omega) | exact frm_p (by assumption) (by omega) | exact frm_p (frm_w (by assumption) (by omega) (by omega)) (by omega)⟩))
      ·
        subst hu_27
        refine ⟨rfl, ?_⟩
        refine S_w (ws' := [(h0, ob 11 (uF (uF (uF f 3 (iv a2_24)) 4 (iv (-1))) 5 (iv dp))), (hT, ar 160 T), (hC, ar 1700 (wrL C (340 * tx + k) (List.map kC ts_25))), (hV, ar 1700 (wrL V (340 * tx + k) (List.map kV ts_25))), (hN, ar 5 (uZ Nk tx (k + ((ts_25).length : Int))))]) rfl ?_
        have ho_30 := ((pAS_ok (T := T) hn1 K).2 (sk T n a) (by omega) (by omega)).2 _ hq_28
        dsimp only at ho_30
        have hskb_30 := sk_in (T := T) (n := n) (a := a2_24) (by omega)
        refine S_aload_n X dX12_unit_82 rfl rfl ?_
        refine S_get (v := iv (-1)) X fgX12_118_11 0 rfl rfl dX12_unit_83 ?_
        refine S_iconst X dX12_unit_86 ?_
        refine S_icmp_ne (tgt := 94) X dX12_unit_87 (by decide) (by decide) (by decide) (fun h9 => absurd h9 (by decide)) (fun _ => ?_)
        refine S_aload_n X dX12_unit_90 rfl rfl ?_
        refine S_callv X (hcp h0 hT f T n a2_24 dp hC hV hN (wrL C (340 * tx + k) (List.map kC ts_25)) (wrL V (340 * tx + k) (List.map kV ts_25)) Nk tx (k + ((ts_25).length : Int)) hf0 hf1 hf2 hf3 hf4 hf5 (by omega) (by omega) (by omega) (by omega) (by omega)) (is := [0, 1, 2, 3, 4]) rfl (run_V X lkX12_173 0 rfl rfl (is := [0, 1, 2, 3, 4]) (avs := []) (rest := []) rfl rfl (nle rfl) ⟨by simp only [rmD]; omega, by simp only [rmD]; omega⟩ ⟨nle rfl, nle rfl⟩ dX12_unit_91 (by decide) rfl) (fun u_32 hp_33 => ?_)
        rcases hp_33 with ⟨a2_35, fl_36, k2_37, dp2_38, C2_39, V2_40, hu_42, hq_43, hfl_44, hr_45, hfC_46, hfV_47⟩ | ⟨a2_48, ts_49, hu_51, hq_52⟩
        ·
          subst hu_42
          refine ⟨rfl, ?_⟩
          refine S_w (ws' := [(h0, ob 11 (uF (uF (uF f 3 (iv a2_35)) 4 (iv fl_36)) 5 (iv dp2_38))), (hT, ar 160 T), (hC, ar 1700 C2_39), (hV, ar 1700 V2_40), (hN, ar 5 (uZ Nk tx k2_37))]) rfl ?_
          exact S_vret X (nle rfl) (nle rfl) dX12_unit_94 (hPo _ (Or.inl ⟨_, _, _, _, _, _, rfl, unit_cf (by omega) hq_28 hq_43, by omega, by omega, by first | exact frm_0 | assumption | exact frm_r (by omega) (by omega) | exact frm_w (by assumption) (by omega) (by omega) | exact frm_p frm_0 (by omega) | exact frm_p (by assumption) (by omega) | exact frm_p (frm_w (by assumption) (by omega) (by omega)) (by omega), by first | exact frm_0 | assumption | exact frm_r (by omega) (by omega) | exact frm_w (by assumption) (by omega) (by omega) | exact frm_p frm_0 (by omega) | exact frm_p (by assumption) (by omega) | exact frm_p (frm_w (by assumption) (by omega) (by omega)) (by omega)⟩))
        ·
          subst hu_51
          refine ⟨rfl, ?_⟩
          refine S_w (ws' := [(h0, ob 11 (uF (uF (uF f 3 (iv a2_48)) 4 (iv (-1))) 5 (iv dp))), (hT, ar 160 T), (hC, ar 1700 (wrL (wrL C (340 * tx + k) (List.map kC ts_25)) (340 * tx + (k + ((ts_25).length : Int))) (List.map kC ts_49))), (hV, ar 1700 (wrL (wrL V (340 * tx + k) (List.map kV ts_25)) (340 * tx + (k + ((ts_25).length : Int))) (List.map kV ts_49))), (hN, ar 5 (uZ Nk tx ((k + ((ts_25).length : Int)) + ((ts_49).length : Int))))]) rfl ?_
          refine S_w (ws' := [(h0, ob 11 (uF (uF (uF f 3 (iv a2_48)) 4 (iv (-1))) 5 (iv dp))), (hT, ar 160 T), (hC, ar 1700 (wrL C (340 * tx + k) (List.map kC (ts_25 ++ ts_49)))), (hV, ar 1700 (wrL V (340 * tx + k) (List.map kV (ts_25 ++ ts_49)))), (hN, ar 5 (uZ Nk tx (k + ((ts_25 ++ ts_49).length : Int))))]) (by simp only [rW_app, rK_app]) ?_
          have ho_53 := (cmpG_ok (T := T) hn1 K a2_24 (by omega) (by omega)).2 _ hq_52
          dsimp only at ho_53
          have hln_53 : (((ts_25 ++ ts_49).length : Nat) : Int) = _ := congrArg Nat.cast List.length_append
          rw [Int.natCast_add] at hln_53
          exact S_vret X (nle rfl) (nle rfl) dX12_unit_94 (hPo _ (Or.inr ⟨_, _, rfl, unit_c (by omega) hq_28 hq_52⟩))
    ·
      refine S_aload_n X dX12_unit_53 rfl rfl ?_
      refine S_callv X (kX12_opens l h0 f (sk T n a) (-1) dp (by omega) (by omega)) (is := [0]) rfl (run_V X lkX12_148 0 rfl rfl (is := [0]) (avs := []) (rest := []) rfl rfl (nle rfl) ⟨by simp only [rmD]; omega, by simp only [rmD]; omega⟩ ⟨nle rfl, nle rfl⟩ dX12_unit_54 (by decide) rfl) (fun u_54 hp_55 => ?_)
      rcases hp_55 with ⟨hu_58, hq_59⟩ | ⟨hu_61, hq_62⟩
      ·
        subst hu_58
        refine ⟨rfl, ?_⟩
        refine S_w (ws' := [(h0, ob 11 (uF (uF (uF f 3 (iv ((sk T n a) + 1))) 4 (iv (sk T n a))) 5 (iv (dp + 1)))), (hT, ar 160 T), (hC, ar 1700 C), (hV, ar 1700 V), (hN, ar 5 (uZ Nk tx k))]) rfl ?_
        refine S_aload_n X dX12_unit_57 rfl rfl ?_
        refine S_get (v := iv (sk T n a)) X fgX12_118_11 0 rfl rfl dX12_unit_58 ?_
        refine S_iconst X dX12_unit_61 ?_
        refine S_icmp_ne (tgt := 94) X dX12_unit_62 (by decide) (by omega) (by decide) (fun c_63 => ?_) (fun c_63 => by exfalso; omega)
        exact S_vret X (nle rfl) (nle rfl) dX12_unit_94 (hPo _ (Or.inl ⟨_, _, _, _, _, _, rfl, unit_d (by omega) (by omega), by omega, by omega, by first | exact frm_0 | assumption | exact frm_r (by omega) (by omega) | exact frm_w (by assumption) (by omega) (by omega) | exact frm_p frm_0 (by omega) | exact frm_p (by assumption) (by omega) | exact frm_p (frm_w (by assumption) (by omega) (by omega)) (by omega), by first | exact frm_0 | assumption | exact frm_r (by omega) (by omega) | exact frm_w (by assumption) (by omega) (by omega) | exact frm_p frm_0 (by omega) | exact frm_p (by assumption) (by omega) | exact frm_p (frm_w (by assumption) (by omega) (by omega)) (by omega)⟩))
      ·
        subst hu_61
        refine ⟨rfl, ?_⟩
        refine S_w (ws' := [(h0, ob 11 (uF (uF (uF f 3 (iv ((sk T n a) + 1))) 4 (iv (-1))) 5 (iv (dp + 1)))), (hT, ar 160 T), (hC, ar 1700 C), (hV, ar 1700 V), (hN, ar 5 (uZ Nk tx k))]) rfl ?_
        obtain ⟨K2, hK2⟩ : ∃ K2 : Nat, K = K2 + 1 := ⟨K - 1, by omega⟩
        refine S_aload_n X dX12_unit_57 rfl rfl ?_
        refine S_get (v := iv (-1)) X fgX12_118_11 0 rfl rfl dX12_unit_58 ?_
        refine S_iconst X dX12_unit_61 ?_
        refine S_icmp_ne (tgt := 94) X dX12_unit_62 (by decide) (by decide) (by decide) (fun h9 => absurd h9 (by decide)) (fun _ => ?_)
        refine S_aload_n X dX12_unit_65 rfl rfl ?_
        refine S_callv X ((hco K2 hK2) h0 hT f T n ((sk T n a) + 1) (dp + 1) hC hV hN C V Nk tx k hf0 hf1 hf2 hf3 hf4 hf5 (by omega) (by omega) (by omega) (by omega) (by omega)) (is := [0, 1, 2, 3, 4]) rfl (run_V X lkX12_170 0 rfl rfl (is := [0, 1, 2, 3, 4]) (avs := []) (rest := []) rfl rfl (nle rfl) ⟨by simp only [rmD]; omega, by simp only [rmD]; omega⟩ ⟨nle rfl, nle rfl⟩ dX12_unit_66 (by decide) rfl) (fun u_65 hp_66 => ?_)
        rcases hp_66 with ⟨a2_68, fl_69, k2_70, dp2_71, C2_72, V2_73, hu_75, hq_76, hfl_77, hr_78, hfC_79, hfV_80⟩ | ⟨a2_81, ts_82, hu_84, hq_85⟩
        ·
          subst hu_75
          refine ⟨rfl, ?_⟩
          refine S_w (ws' := [(h0, ob 11 (uF (uF (uF f 3 (iv a2_68)) 4 (iv fl_69)) 5 (iv dp2_71))), (hT, ar 160 T), (hC, ar 1700 C2_72), (hV, ar 1700 V2_73), (hN, ar 5 (uZ Nk tx k2_70))]) rfl ?_
          refine S_aload_n X dX12_unit_69 rfl rfl ?_
          refine S_bipush X dX12_unit_70 rfl ?_
          refine S_callv X (kX12_closes_E l h0 f a2_68 fl_69 dp2_71 41 (by omega) (by omega)) (is := [0]) rfl (run_V X lkX12_154 0 rfl rfl (is := [0]) (avs := [iv 41]) (rest := []) rfl rfl (nle rfl) ⟨by simp only [rmD]; omega, by simp only [rmD]; omega⟩ ⟨nle rfl, nle rfl⟩ dX12_unit_72 (by decide) rfl) (fun u_86 hp_87 => ?_)
          have hu_90 := hp_87
          subst hu_90
          refine ⟨rfl, ?_⟩
          refine S_w (ws' := [(h0, ob 11 (uF (uF (uF f 3 (iv (a2_68 + 1))) 4 (iv fl_69)) 5 (iv (dp2_71 - 1)))), (hT, ar 160 T), (hC, ar 1700 C2_72), (hV, ar 1700 V2_73), (hN, ar 5 (uZ Nk tx k2_70))]) rfl ?_
          refine S_goto (tgt := 94) X dX12_unit_75 (by decide) ?_
          exact S_vret X (nle rfl) (nle rfl) dX12_unit_94 (hPo _ (Or.inl ⟨_, _, _, _, _, _, rfl, by rw [hK2]; exact unit_pf (by omega) hq_76, by omega, by omega, by first | exact frm_0 | assumption | exact frm_r (by omega) (by omega) | exact frm_w (by assumption) (by omega) (by omega) | exact frm_p frm_0 (by omega) | exact frm_p (by assumption) (by omega) | exact frm_p (frm_w (by assumption) (by omega) (by omega)) (by omega), by first | exact frm_0 | assumption | exact frm_r (by omega) (by omega) | exact frm_w (by assumption) (by omega) (by omega) | exact frm_p frm_0 (by omega) | exact frm_p (by assumption) (by omega) | exact frm_p (frm_w (by assumption) (by omega) (by omega)) (by omega)⟩))
        ·
          subst hu_84
          refine ⟨rfl, ?_⟩
          refine S_w (ws' := [(h0, ob 11 (uF (uF (uF f 3 (iv a2_81)) 4 (iv (-1))) 5 (iv (dp + 1)))), (hT, ar 160 T), (hC, ar 1700 (wrL C (340 * tx + k) (List.map kC ts_82))), (hV, ar 1700 (wrL V (340 * tx + k) (List.map kV ts_82))), (hN, ar 5 (uZ Nk tx (k + ((ts_82).length : Int))))]) rfl ?_
          have ho_91 := (pCond_ok (T := T) hn1 K2 (sk T n a + 1) (by omega) (by omega)).2 _ hq_85
          dsimp only at ho_91
          have hskb_91 := sk_in (T := T) (n := n) (a := a2_81) (by omega)
          refine S_aload_n X dX12_unit_69 rfl rfl ?_
          refine S_bipush X dX12_unit_70 rfl ?_
          refine S_callv X (kX12_closes_N l h0 hT f T n a2_81 (-1) (dp + 1) 41 hf0 hf1 (by omega) (by omega) (by omega) (by omega)) (is := [0, 1]) rfl (run_V X lkX12_154 0 rfl rfl (is := [0, 1]) (avs := [iv 41]) (rest := []) rfl rfl (nle rfl) ⟨by simp only [rmD]; omega, by simp only [rmD]; omega⟩ ⟨nle rfl, nle rfl⟩ dX12_unit_72 (by decide) rfl) (fun u_92 hp_93 => ?_)
          rcases hp_93 with ⟨hu_96, hq_97⟩ | ⟨hu_99, hq_100⟩
          ·
            subst hu_96
            refine ⟨rfl, ?_⟩
            refine S_w (ws' := [(h0, ob 11 (uF (uF (uF f 3 (iv ((sk T n a2_81) + 1))) 4 (iv (sk T n a2_81))) 5 (iv ((dp + 1) - 1)))), (hT, ar 160 T), (hC, ar 1700 (wrL C (340 * tx + k) (List.map kC ts_82))), (hV, ar 1700 (wrL V (340 * tx + k) (List.map kV ts_82))), (hN, ar 5 (uZ Nk tx (k + ((ts_82).length : Int))))]) rfl ?_
            refine S_goto (tgt := 94) X dX12_unit_75 (by decide) ?_
            exact S_vret X (nle rfl) (nle rfl) dX12_unit_94 (hPo _ (Or.inl ⟨_, _, _, _, _, _, rfl, by rw [hK2]; exact (unit_p (by omega) hq_85).trans (if_neg hq_97), by omega, by omega, by first | exact frm_0 | assumption | exact frm_r (by omega) (by omega) | exact frm_w (by assumption) (by omega) (by omega) | exact frm_p frm_0 (by omega) | exact frm_p (by assumption) (by omega) | exact frm_p (frm_w (by assumption) (by omega) (by omega)) (by omega), by first | exact frm_0 | assumption | exact frm_r (by omega) (by omega) | exact frm_w (by assumption) (by omega) (by omega) | exact frm_p frm_0 (by omega) | exact frm_p (by assumption) (by omega) | exact frm_p (frm_w (by assumption) (by omega) (by omega)) (by omega)⟩))
          ·
            subst hu_99
            refine ⟨rfl, ?_⟩
            refine S_w (ws' := [(h0, ob 11 (uF (uF (uF f 3 (iv ((sk T n a2_81) + 1))) 4 (iv (-1))) 5 (iv ((dp + 1) - 1)))), (hT, ar 160 T), (hC, ar 1700 (wrL C (340 * tx + k) (List.map kC ts_82))), (hV, ar 1700 (wrL V (340 * tx + k) (List.map kV ts_82))), (hN, ar 5 (uZ Nk tx (k + ((ts_82).length : Int))))]) rfl ?_
            refine S_w (ws' := [(h0, ob 11 (uF (uF (uF f 3 (iv ((sk T n a2_81) + 1))) 4 (iv (-1))) 5 (iv dp))), (hT, ar 160 T), (hC, ar 1700 (wrL C (340 * tx + k) (List.map kC ts_82))), (hV, ar 1700 (wrL V (340 * tx + k) (List.map kV ts_82))), (hN, ar 5 (uZ Nk tx (k + ((ts_82).length : Int))))]) (by rw [show (dp + 1) - 1 = dp by omega]) ?_
            refine S_goto (tgt := 94) X dX12_unit_75 (by decide) ?_
            exact S_vret X (nle rfl) (nle rfl) dX12_unit_94 (hPo _ (Or.inr ⟨_, _, rfl, by rw [hK2]; exact (unit_p (by omega) hq_85).trans (if_pos hq_100)⟩))
  ·
    refine S_aload_n X dX12_unit_11 rfl rfl ?_
    refine S_callv X (kX12_opens l h0 f (sk T n a) (-1) dp (by omega) (by omega)) (is := [0]) rfl (run_V X lkX12_148 0 rfl rfl (is := [0]) (avs := []) (rest := []) rfl rfl (nle rfl) ⟨by simp only [rmD]; omega, by simp only [rmD]; omega⟩ ⟨nle rfl, nle rfl⟩ dX12_unit_12 (by decide) rfl) (fun u_101 hp_102 => ?_)
    rcases hp_102 with ⟨hu_105, hq_106⟩ | ⟨hu_108, hq_109⟩
    ·
      subst hu_105
      refine ⟨rfl, ?_⟩
      refine S_w (ws' := [(h0, ob 11 (uF (uF (uF f 3 (iv ((sk T n a) + 1))) 4 (iv (sk T n a))) 5 (iv (dp + 1)))), (hT, ar 160 T), (hC, ar 1700 C), (hV, ar 1700 V), (hN, ar 5 (uZ Nk tx k))]) rfl ?_
      refine S_aload_n X dX12_unit_15 rfl rfl ?_
      refine S_get (v := iv (sk T n a)) X fgX12_118_11 0 rfl rfl dX12_unit_16 ?_
      refine S_iconst X dX12_unit_19 ?_
      refine S_icmp_ne (tgt := 94) X dX12_unit_20 (by decide) (by omega) (by decide) (fun c_110 => ?_) (fun c_110 => by exfalso; omega)
      exact S_vret X (nle rfl) (nle rfl) dX12_unit_94 (hPo _ (Or.inl ⟨_, _, _, _, _, _, rfl, unit_d (by omega) (by omega), by omega, by omega, by first | exact frm_0 | assumption | exact frm_r (by omega) (by omega) | exact frm_w (by assumption) (by omega) (by omega) | exact frm_p frm_0 (by omega) | exact frm_p (by assumption) (by omega) | exact frm_p (frm_w (by assumption) (by omega) (by omega)) (by omega), by first | exact frm_0 | assumption | exact frm_r (by omega) (by omega) | exact frm_w (by assumption) (by omega) (by omega) | exact frm_p frm_0 (by omega) | exact frm_p (by assumption) (by omega) | exact frm_p (frm_w (by assumption) (by omega) (by omega)) (by omega)⟩))
    ·
      subst hu_108
      refine ⟨rfl, ?_⟩
      refine S_w (ws' := [(h0, ob 11 (uF (uF (uF f 3 (iv ((sk T n a) + 1))) 4 (iv (-1))) 5 (iv (dp + 1)))), (hT, ar 160 T), (hC, ar 1700 C), (hV, ar 1700 V), (hN, ar 5 (uZ Nk tx k))]) rfl ?_
      obtain ⟨K2, hK2⟩ : ∃ K2 : Nat, K = K2 + 1 := ⟨K - 1, by omega⟩
      refine S_aload_n X dX12_unit_15 rfl rfl ?_
      refine S_get (v := iv (-1)) X fgX12_118_11 0 rfl rfl dX12_unit_16 ?_
      refine S_iconst X dX12_unit_19 ?_
      refine S_icmp_ne (tgt := 94) X dX12_unit_20 (by decide) (by decide) (by decide) (fun h9 => absurd h9 (by decide)) (fun _ => ?_)
      refine S_aload_n X dX12_unit_23 rfl rfl ?_
      refine S_callv X ((hun K2 hK2) h0 hT f T n ((sk T n a) + 1) (dp + 1) hC hV hN C V Nk tx k hf0 hf1 hf2 hf3 hf4 hf5 (by omega) (by omega) (by omega) (by omega) (by omega)) (is := [0, 1, 2, 3, 4]) rfl (run_V X lkX12_167 0 rfl rfl (is := [0, 1, 2, 3, 4]) (avs := []) (rest := []) rfl rfl (nle rfl) ⟨by simp only [rmD]; omega, by simp only [rmD]; omega⟩ ⟨nle rfl, nle rfl⟩ dX12_unit_24 (by decide) rfl) (fun u_112 hp_113 => ?_)
      rcases hp_113 with ⟨a2_115, fl_116, k2_117, dp2_118, C2_119, V2_120, hu_122, hq_123, hfl_124, hr_125, hfC_126, hfV_127⟩ | ⟨a2_128, ts_129, hu_131, hq_132⟩
      ·
        subst hu_122
        refine ⟨rfl, ?_⟩
        refine S_w (ws' := [(h0, ob 11 (uF (uF (uF f 3 (iv a2_115)) 4 (iv fl_116)) 5 (iv dp2_118))), (hT, ar 160 T), (hC, ar 1700 C2_119), (hV, ar 1700 V2_120), (hN, ar 5 (uZ Nk tx k2_117))]) rfl ?_
        refine S_aload_n X dX12_unit_27 rfl rfl ?_
        refine S_bipush X dX12_unit_28 rfl ?_
        refine S_iconst X dX12_unit_30 ?_
        refine S_callv X (kX12_put l h0 f a2_115 fl_116 dp2_118 hC hV hN C2_119 V2_120 Nk tx k2_117 9 0 hf2 hf3 hf4 hf5 (by omega) (by omega)) (is := [0, 2, 3, 4]) rfl (run_V X lkX12_140 0 rfl rfl (is := [0, 2, 3, 4]) (avs := [iv 9, iv 0]) (rest := []) rfl rfl (nle rfl) ⟨by simp only [rmD]; omega, by simp only [rmD]; omega⟩ ⟨nle rfl, nle rfl⟩ dX12_unit_31 (by decide) rfl) (fun u_133 hp_134 => ?_)
        have hu_137 := hp_134
        subst hu_137
        refine ⟨rfl, ?_⟩
        refine S_w (ws' := [(h0, ob 11 (uF (uF (uF f 3 (iv a2_115)) 4 (iv fl_116)) 5 (iv dp2_118))), (hT, ar 160 T), (hC, ar 1700 (uZ C2_119 (340 * tx + k2_117) 9)), (hV, ar 1700 (uZ V2_120 (340 * tx + k2_117) 0)), (hN, ar 5 (uZ Nk tx (k2_117 + 1)))]) rfl ?_
        refine S_aload_n X dX12_unit_34 rfl rfl ?_
        refine S_dup X dX12_unit_35 ?_
        refine S_get (v := iv dp2_118) X fgX12_124_11 0 rfl rfl dX12_unit_36 ?_
        refine S_iconst X dX12_unit_39 ?_
        refine S_isub X dX12_unit_40 ?_
        refine S_put X fpX12_124_11 0 rfl FT_i dX12_unit_41 ?_
        refine S_w (ws' := [(h0, ob 11 (uF (uF (uF f 3 (iv a2_115)) 4 (iv fl_116)) 5 (iv (dp2_118 - 1)))), (hT, ar 160 T), (hC, ar 1700 (uZ C2_119 (340 * tx + k2_117) 9)), (hV, ar 1700 (uZ V2_120 (340 * tx + k2_117) 0)), (hN, ar 5 (uZ Nk tx (k2_117 + 1)))]) (by simp only [List.set]; rw [uF_same (k := 5)]) ?_
        refine S_goto (tgt := 94) X dX12_unit_44 (by decide) ?_
        exact S_vret X (nle rfl) (nle rfl) dX12_unit_94 (hPo _ (Or.inl ⟨_, _, _, _, _, _, rfl, by rw [hK2]; exact unit_nf (by omega) hq_123, by omega, by omega, by first | exact frm_0 | assumption | exact frm_r (by omega) (by omega) | exact frm_w (by assumption) (by omega) (by omega) | exact frm_p frm_0 (by omega) | exact frm_p (by assumption) (by omega) | exact frm_p (frm_w (by assumption) (by omega) (by omega)) (by omega), by first | exact frm_0 | assumption | exact frm_r (by omega) (by omega) | exact frm_w (by assumption) (by omega) (by omega) | exact frm_p frm_0 (by omega) | exact frm_p (by assumption) (by omega) | exact frm_p (frm_w (by assumption) (by omega) (by omega)) (by omega)⟩))
      ·
        subst hu_131
        refine ⟨rfl, ?_⟩
        refine S_w (ws' := [(h0, ob 11 (uF (uF (uF f 3 (iv a2_128)) 4 (iv (-1))) 5 (iv (dp + 1)))), (hT, ar 160 T), (hC, ar 1700 (wrL C (340 * tx + k) (List.map kC ts_129))), (hV, ar 1700 (wrL V (340 * tx + k) (List.map kV ts_129))), (hN, ar 5 (uZ Nk tx (k + ((ts_129).length : Int))))]) rfl ?_
        have ho_138 := (pUnit_ok (T := T) hn1 K2 (sk T n a + 1) (by omega) (by omega)).2 _ hq_132
        dsimp only at ho_138
        have hskb_138 := sk_in (T := T) (n := n) (a := a2_128) (by omega)
        refine S_aload_n X dX12_unit_27 rfl rfl ?_
        refine S_bipush X dX12_unit_28 rfl ?_
        refine S_iconst X dX12_unit_30 ?_
        refine S_callv X (kX12_put l h0 f a2_128 (-1) (dp + 1) hC hV hN (wrL C (340 * tx + k) (List.map kC ts_129)) (wrL V (340 * tx + k) (List.map kV ts_129)) Nk tx (k + ((ts_129).length : Int)) 9 0 hf2 hf3 hf4 hf5 (by omega) (by omega)) (is := [0, 2, 3, 4]) rfl (run_V X lkX12_140 0 rfl rfl (is := [0, 2, 3, 4]) (avs := [iv 9, iv 0]) (rest := []) rfl rfl (nle rfl) ⟨by simp only [rmD]; omega, by simp only [rmD]; omega⟩ ⟨nle rfl, nle rfl⟩ dX12_unit_31 (by decide) rfl) (fun u_139 hp_140 => ?_)
        have hu_143 := hp_140
        subst hu_143
        refine ⟨rfl, ?_⟩
        refine S_w (ws' := [(h0, ob 11 (uF (uF (uF f 3 (iv a2_128)) 4 (iv (-1))) 5 (iv (dp + 1)))), (hT, ar 160 T), (hC, ar 1700 (uZ (wrL C (340 * tx + k) (List.map kC ts_129)) (340 * tx + (k + ((ts_129).length : Int))) 9)), (hV, ar 1700 (uZ (wrL V (340 * tx + k) (List.map kV ts_129)) (340 * tx + (k + ((ts_129).length : Int))) 0)), (hN, ar 5 (uZ Nk tx ((k + ((ts_129).length : Int)) + 1)))]) rfl ?_
        refine S_w (ws' := [(h0, ob 11 (uF (uF (uF f 3 (iv a2_128)) 4 (iv (-1))) 5 (iv (dp + 1)))), (hT, ar 160 T), (hC, ar 1700 (wrL C (340 * tx + k) (List.map kC (ts_129 ++ [-33])))), (hV, ar 1700 (wrL V (340 * tx + k) (List.map kV (ts_129 ++ [-33])))), (hN, ar 5 (uZ Nk tx (k + ((ts_129 ++ [-33]).length : Int))))]) (by rw [rW_put (g := kC) (c0 := 9) (-33) rfl, rW_put (g := kV) (c0 := 0) (-33) rfl, rK_put (-33)]) ?_
        have hln_144 : (((ts_129 ++ [-33]).length : Nat) : Int) = _ := congrArg Nat.cast List.length_append
        rw [Int.natCast_add, List.length_singleton] at hln_144
        refine S_aload_n X dX12_unit_34 rfl rfl ?_
        refine S_dup X dX12_unit_35 ?_
        refine S_get (v := iv (dp + 1)) X fgX12_124_11 0 rfl rfl dX12_unit_36 ?_
        refine S_iconst X dX12_unit_39 ?_
        refine S_isub X dX12_unit_40 ?_
        refine S_put X fpX12_124_11 0 rfl FT_i dX12_unit_41 ?_
        refine S_w (ws' := [(h0, ob 11 (uF (uF (uF f 3 (iv a2_128)) 4 (iv (-1))) 5 (iv ((dp + 1) - 1)))), (hT, ar 160 T), (hC, ar 1700 (wrL C (340 * tx + k) (List.map kC (ts_129 ++ [-33])))), (hV, ar 1700 (wrL V (340 * tx + k) (List.map kV (ts_129 ++ [-33])))), (hN, ar 5 (uZ Nk tx (k + ((ts_129 ++ [-33]).length : Int))))]) (by simp only [List.set]; rw [uF_same (k := 5)]) ?_
        refine S_w (ws' := [(h0, ob 11 (uF (uF (uF f 3 (iv a2_128)) 4 (iv (-1))) 5 (iv dp))), (hT, ar 160 T), (hC, ar 1700 (wrL C (340 * tx + k) (List.map kC (ts_129 ++ [-33])))), (hV, ar 1700 (wrL V (340 * tx + k) (List.map kV (ts_129 ++ [-33])))), (hN, ar 5 (uZ Nk tx (k + ((ts_129 ++ [-33]).length : Int))))]) (by rw [show (dp + 1) - 1 = dp by omega]) ?_
        refine S_goto (tgt := 94) X dX12_unit_44 (by decide) ?_
        exact S_vret X (nle rfl) (nle rfl) dX12_unit_94 (hPo _ (Or.inr ⟨_, _, rfl, by rw [hK2]; exact unit_n (by omega) hq_132⟩))
