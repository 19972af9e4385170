
set_option maxHeartbeats 4000000 in
set_option maxRecDepth 100000 in
theorem kX11_fault (l : Launch) (h0 : Nat) (f : Nat → AV) (oR : Nat) (fR : Nat → AV) (a1 : Int) (w1 : Int) (x1 : Int) (ht : Nat) (ft : Nat → AV) (hb : Nat) (T : Int → Int) (n : Int) (od : Nat) (fd : Nat → AV) (pl : Int) (mt : Int) (dB : Nat) (dD : Nat) (dK : Nat) (dF : Nat) (dH : Nat) (R : Int → Int → Int) (oZ : Nat) (fZ : Nat → AV) (a3 : Int) (w3 : Int) (x3 : Int) (hC : Nat) (C : Int → Int) (v : Int) (hf0 : f 0 = rv ht) (hf1 : f 1 = rv oR) (hf2 : f 2 = rv oZ) (hf3 : fR 0 = rv ht) (hf4 : fR 3 = rv od) (hf5 : fZ 0 = rv ht) (hf6 : fZ 3 = rv hC) (hf7 : ft 0 = rv hb) (hf8 : fd 2 = rv dB) (hf9 : fd 3 = rv dD) (hf10 : fd 4 = rv dK) (hf11 : fd 5 = rv dF) (hf12 : fd 6 = rv dH) (hT : okT T n) (hx_v : inR v) : AMi l yX11_fault cX11_fault 2 .int 33 0 0 [rv h0, iv v] [(h0, ob 10 f), (ht, ob 6 (uF ft 1 (iv n))), (hb, ar 160 T), (oR, ob 8 (uF (uF (uF fR 1 (iv a1)) 2 (iv w1)) 4 (iv x1))), (od, ob 7 (uF (uF fd 0 (iv pl)) 1 (iv mt))), (dB, ar 6 (colR R 0)), (dD, ar 6 (colR R 1)), (dK, ar 6 (colR R 2)), (dF, ar 6 (colR R 3)), (dH, ar 6 (colR R 4)), (oZ, ob 2 (uF (uF (uF fZ 1 (iv a3)) 2 (iv w3)) 4 (iv x3))), (hC, ar 160 C)] (fun z u => (∃ fl : Int, ∃ a2 : Int, ∃ x2 : Int, ∃ p2 : Int, ∃ m2 : Int, ∃ R2 : Int → Int → Int, z = fl ∧ u = [(h0, ob 10 f), (ht, ob 6 (uF ft 1 (iv n))), (hb, ar 160 T), (oR, ob 8 (uF (uF (uF fR 1 (iv a2)) 2 (iv fl)) 4 (iv x2))), (od, ob 7 (uF (uF fd 0 (iv p2)) 1 (iv m2))), (dB, ar 6 (colR R2 0)), (dD, ar 6 (colR R2 1)), (dK, ar 6 (colR R2 2)), (dF, ar 6 (colR R2 3)), (dH, ar 6 (colR R2 4)), (oZ, ob 2 (uF (uF (uF fZ 1 (iv a3)) 2 (iv w3)) 4 (iv x3))), (hC, ar 160 C)] ∧ v = 0 ∧ tnRes T n R = .inl fl ∧ (0 ≤ fl ∧ fl ≤ 160)) ∨ (∃ a2 : Int, ∃ x2 : Int, ∃ p2 : Int, ∃ m2 : Int, ∃ R2 : Int → Int → Int, z = -1 ∧ u = [(h0, ob 10 f), (ht, ob 6 (uF ft 1 (iv n))), (hb, ar 160 T), (oR, ob 8 (uF (uF (uF fR 1 (iv a2)) 2 (iv (-1))) 4 (iv x2))), (od, ob 7 (uF (uF fd 0 (iv p2)) 1 (iv m2))), (dB, ar 6 (colR R2 0)), (dD, ar 6 (colR R2 1)), (dK, ar 6 (colR R2 2)), (dF, ar 6 (colR R2 3)), (dH, ar 6 (colR R2 4)), (oZ, ob 2 (uF (uF (uF fZ 1 (iv a3)) 2 (iv w3)) 4 (iv x3))), (hC, ar 160 C)] ∧ v = 0 ∧ tnRes T n R = .inr (p2, m2, x2, R2) ∧ okTS (p2, m2, x2, R2)) ∨ (∃ fl : Int, ∃ a2 : Int, ∃ x2 : Int, ∃ C2 : Int → Int, z = fl ∧ u = [(h0, ob 10 f), (ht, ob 6 (uF ft 1 (iv n))), (hb, ar 160 T), (oR, ob 8 (uF (uF (uF fR 1 (iv a1)) 2 (iv w1)) 4 (iv x1))), (od, ob 7 (uF (uF fd 0 (iv pl)) 1 (iv mt))), (dB, ar 6 (colR R 0)), (dD, ar 6 (colR R 1)), (dK, ar 6 (colR R 2)), (dF, ar 6 (colR R 3)), (dH, ar 6 (colR R 4)), (oZ, ob 2 (uF (uF (uF fZ 1 (iv a2)) 2 (iv fl)) 4 (iv x2))), (hC, ar 160 C2)] ∧ v = 1 ∧ lwRes T n = .inl fl ∧ (0 ≤ fl ∧ fl ≤ 160)) ∨ (∃ a2 : Int, ∃ ts : List Int, z = -1 ∧ u = [(h0, ob 10 f), (ht, ob 6 (uF ft 1 (iv n))), (hb, ar 160 T), (oR, ob 8 (uF (uF (uF fR 1 (iv a1)) 2 (iv w1)) 4 (iv x1))), (od, ob 7 (uF (uF fd 0 (iv pl)) 1 (iv mt))), (dB, ar 6 (colR R 0)), (dD, ar 6 (colR R 1)), (dK, ar 6 (colR R 2)), (dF, ar 6 (colR R 3)), (dH, ar 6 (colR R 4)), (oZ, ob 2 (uF (uF (uF fZ 1 (iv a2)) 2 (iv (-1))) 4 (iv (0 + ((ts).length : Int))))), (hC, ar 160 (wrL C 0 (ts)))] ∧ v = 1 ∧ lwRes T n = .inr ts ∧ (ts.length : Int) ≤ 160 ∧ (∀ t ∈ ts, -200 ≤ t ∧ t ≤ 9999)) ∨ (z = -2 ∧ u = [(h0, ob 10 f), (ht, ob 6 (uF ft 1 (iv n))), (hb, ar 160 T), (oR, ob 8 (uF (uF (uF fR 1 (iv a1)) 2 (iv w1)) 4 (iv x1))), (od, ob 7 (uF (uF fd 0 (iv pl)) 1 (iv mt))), (dB, ar 6 (colR R 0)), (dD, ar 6 (colR R 1)), (dK, ar 6 (colR R 2)), (dF, ar 6 (colR R 3)), (dH, ar 6 (colR R 4)), (oZ, ob 2 (uF (uF (uF fZ 1 (iv a3)) 2 (iv w3)) 4 (iv x3))), (hC, ar 160 C)] ∧ (v ≠ 0 ∧ v ≠ 1))) := by
  refine AMi.of2 rfl (nle rfl) ?_
  intro D G A p e s m args below meth c Po hPo X
  refine S_iload_n X dX11_fault_0 rfl rfl ?_
  refine S_if_ne (tgt := 12) X dX11_fault_1 (by decide) (by omega) (fun c_1 => ?_) (fun c_1 => ?_)
  ·
    refine S_iload_n X dX11_fault_12 rfl rfl ?_
    refine S_iconst X dX11_fault_13 ?_
    refine S_icmp_ne (tgt := 25) X dX11_fault_14 (by decide) (by omega) (by decide) (fun c_2 => ?_) (fun c_2 => ?_)
    ·
      refine S_bipush X dX11_fault_25 rfl ?_
      exact S_iret X (nle rfl) (nle rfl) dX11_fault_27 (hPo _ _ (Or.inr (Or.inr (Or.inr (Or.inr ⟨rfl, rfl, by omega⟩)))))
    ·
      refine S_aload_n X dX11_fault_17 rfl rfl ?_
      refine S_get X fgX11_28_10 0 rfl hf2 dX11_fault_18 ?_
      refine S_calli X (kX5_read_2 l oZ ht hb fZ (uF ft 1 (iv n)) T n a3 w3 x3 hC C hf5 hf7 rfl hf6 hT) (is := [10, 1, 2, 11]) rfl (run_U X lkX11_111_2 10 rfl rfl (is := [10, 1, 2, 11]) (avs := []) (rest := []) rfl rfl (nle rfl) ⟨nle rfl, nle rfl⟩ ⟨nle rfl, nle rfl⟩ dX11_fault_21 (by decide) rfl) (fun z_5 u_3 hp_4 => ?_)
      rcases hp_4 with ⟨a2_6, fl_7, x2_8, C2_9, hz_10, hu_11, hq_12, hr_13⟩ | ⟨a2_14, ts_15, hz_16, hu_17, hq_18, hl_19, ht2_20⟩
      ·
        subst hz_10
        subst hu_11
        refine ⟨rfl, ?_⟩
        refine S_w (ws' := [(h0, ob 10 f), (ht, ob 6 (uF ft 1 (iv n))), (hb, ar 160 T), (oR, ob 8 (uF (uF (uF fR 1 (iv a1)) 2 (iv w1)) 4 (iv x1))), (od, ob 7 (uF (uF fd 0 (iv pl)) 1 (iv mt))), (dB, ar 6 (colR R 0)), (dD, ar 6 (colR R 1)), (dK, ar 6 (colR R 2)), (dF, ar 6 (colR R 3)), (dH, ar 6 (colR R 4)), (oZ, ob 2 (uF (uF (uF fZ 1 (iv a2_6)) 2 (iv z_5)) 4 (iv x2_8))), (hC, ar 160 C2_9)]) rfl ?_
        exact S_iret X (nle rfl) (nle rfl) dX11_fault_24 (hPo _ _ (Or.inr (Or.inr (Or.inl ⟨_, _, _, _, rfl, rfl, by omega, hq_12, hr_13⟩))))
      ·
        subst hz_16
        subst hu_17
        refine ⟨rfl, ?_⟩
        refine S_w (ws' := [(h0, ob 10 f), (ht, ob 6 (uF ft 1 (iv n))), (hb, ar 160 T), (oR, ob 8 (uF (uF (uF fR 1 (iv a1)) 2 (iv w1)) 4 (iv x1))), (od, ob 7 (uF (uF fd 0 (iv pl)) 1 (iv mt))), (dB, ar 6 (colR R 0)), (dD, ar 6 (colR R 1)), (dK, ar 6 (colR R 2)), (dF, ar 6 (colR R 3)), (dH, ar 6 (colR R 4)), (oZ, ob 2 (uF (uF (uF fZ 1 (iv a2_14)) 2 (iv (-1))) 4 (iv (0 + ((ts_15).length : Int))))), (hC, ar 160 (wrL C 0 (ts_15)))]) rfl ?_
        exact S_iret X (nle rfl) (nle rfl) dX11_fault_24 (hPo _ _ (Or.inr (Or.inr (Or.inr (Or.inl ⟨_, _, rfl, rfl, by omega, hq_18, hl_19, ht2_20⟩)))))
  ·
    refine S_aload_n X dX11_fault_4 rfl rfl ?_
    refine S_get X fgX11_21_10 0 rfl hf1 dX11_fault_5 ?_
    refine S_calli X (kX5_read_8 l oR ht hb fR (uF ft 1 (iv n)) T n a1 w1 x1 od fd dB dD dK dF dH pl mt R hf3 hf7 rfl hf4 hf8 hf9 hf10 hf11 hf12 hT) (is := [3, 1, 2, 4, 5, 6, 7, 8, 9]) rfl (run_U X lkX11_107_8 3 rfl rfl (is := [3, 1, 2, 4, 5, 6, 7, 8, 9]) (avs := []) (rest := []) rfl rfl (nle rfl) ⟨nle rfl, nle rfl⟩ ⟨nle rfl, nle rfl⟩ dX11_fault_8 (by decide) rfl) (fun z_23 u_21 hp_22 => ?_)
    rcases hp_22 with ⟨a2_24, fl_25, x2_26, pl2_27, mt2_28, R2_29, hz_30, hu_31, hq_32, hr_33⟩ | ⟨a2_34, x2_35, pl2_36, mt2_37, R2_38, hz_39, hu_40, hq_41, hr_42⟩
    ·
      subst hz_30
      subst hu_31
      refine ⟨rfl, ?_⟩
      refine S_w (ws' := [(h0, ob 10 f), (ht, ob 6 (uF ft 1 (iv n))), (hb, ar 160 T), (oR, ob 8 (uF (uF (uF fR 1 (iv a2_24)) 2 (iv z_23)) 4 (iv x2_26))), (od, ob 7 (uF (uF fd 0 (iv pl2_27)) 1 (iv mt2_28))), (dB, ar 6 (colR R2_29 0)), (dD, ar 6 (colR R2_29 1)), (dK, ar 6 (colR R2_29 2)), (dF, ar 6 (colR R2_29 3)), (dH, ar 6 (colR R2_29 4)), (oZ, ob 2 (uF (uF (uF fZ 1 (iv a3)) 2 (iv w3)) 4 (iv x3))), (hC, ar 160 C)]) rfl ?_
      exact S_iret X (nle rfl) (nle rfl) dX11_fault_11 (hPo _ _ (Or.inl ⟨_, _, _, _, _, _, rfl, rfl, by omega, hq_32, hr_33⟩))
    ·
      subst hz_39
      subst hu_40
      refine ⟨rfl, ?_⟩
      refine S_w (ws' := [(h0, ob 10 f), (ht, ob 6 (uF ft 1 (iv n))), (hb, ar 160 T), (oR, ob 8 (uF (uF (uF fR 1 (iv a2_34)) 2 (iv (-1))) 4 (iv x2_35))), (od, ob 7 (uF (uF fd 0 (iv pl2_36)) 1 (iv mt2_37))), (dB, ar 6 (colR R2_38 0)), (dD, ar 6 (colR R2_38 1)), (dK, ar 6 (colR R2_38 2)), (dF, ar 6 (colR R2_38 3)), (dH, ar 6 (colR R2_38 4)), (oZ, ob 2 (uF (uF (uF fZ 1 (iv a3)) 2 (iv w3)) 4 (iv x3))), (hC, ar 160 C)]) rfl ?_
      exact S_iret X (nle rfl) (nle rfl) dX11_fault_11 (hPo _ _ (Or.inr (Or.inl ⟨_, _, _, _, _, rfl, rfl, by omega, hq_41, hr_42⟩)))
