def chM (T : Int → Int) (n a : Int) : Int := if a < n then T a else -1
theorem chM_or {T : Int → Int} {n a : Int} (hT : okT T n) (h0 : 0 ≤ a) (ha : a ≤ n) : (chM T n a = ch T n a ∧ 1 ≤ ch T n a ∧ ch T n a ≤ 255 ∧ a < n) ∨ (chM T n a = -1 ∧ ch T n a = 0 ∧ a = n) := by
  unfold chM ch
  rcases Int.lt_or_le a n with q | q
  · have := hT.2.2 a h0 q
    rw [if_pos q, if_pos q]
    exact Or.inl ⟨rfl, by omega, by omega, q⟩
  · rw [if_neg (by omega), if_neg (by omega)]
    exact Or.inr ⟨rfl, rfl, by omega⟩
/-- the reference's signs: kinds and values -/
def kC (t : Int) : Int := if 0 ≤ t then 0 else if t = -43 then 2 else if t = -45 then 3 else if t = -42 then 4 else if t = -47 then 5 else if t = -61 then 6 else if t = -60 then 7 else if t = -62 then 8 else if t = -33 then 9 else if t = -38 then 10 else if t = -124 then 11 else 1
def kV (t : Int) : Int := if 0 ≤ t then t else if t = -119 then 1 else if t = -109 then 2 else if t = -110 then 3 else if t = -111 then 4 else 0
def letOf (c : Int) : Int := if c = 100 then 0 else if c = 119 then 1 else if c = 109 then 2 else if c = 110 then 3 else if c = 111 then 4 else -1
set_option maxHeartbeats 4000000 in
set_option maxRecDepth 100000 in
theorem kX12_in (l : Launch) (v : Int) (lo : Int) (hi : Int) (hv : inR v) (hl : inR lo) (hh : inR hi) : AMi l yX12_in cX12_in 3 .boolean 0 0 0 [iv v, iv lo, iv hi] [] (fun z u => (z = 0 ∧ u = [] ∧ (¬ (lo ≤ v ∧ v ≤ hi))) ∨ (z = 1 ∧ u = [] ∧ (lo ≤ v ∧ v ≤ hi))) := by
  refine AMi.of2 rfl (nle rfl) ?_
  intro D G A p e s m args below meth c Po hPo X
  refine S_iload_n X dX12_in_0 rfl rfl ?_
  refine S_iload_n X dX12_in_1 rfl rfl ?_
  refine S_icmp_lt (tgt := 14) X dX12_in_2 (by decide) (by omega) (by omega) (fun c_1 => ?_) (fun c_1 => ?_)
  ·
    refine S_iconst X dX12_in_14 ?_
    exact S_zret X (Or.inl rfl) (nle rfl) (nle rfl) dX12_in_15 (hPo _ _ (Or.inl (⟨by first | rfl | omega, rfl, by first | rfl | assumption | omega⟩)))
  ·
    refine S_iload_n X dX12_in_5 rfl rfl ?_
    refine S_iload_n X dX12_in_6 rfl rfl ?_
    refine S_icmp_gt (tgt := 14) X dX12_in_7 (by decide) (by omega) (by omega) (fun c_2 => ?_) (fun c_2 => ?_)
    ·
      refine S_iconst X dX12_in_14 ?_
      exact S_zret X (Or.inl rfl) (nle rfl) (nle rfl) dX12_in_15 (hPo _ _ (Or.inl (⟨by first | rfl | omega, rfl, by first | rfl | assumption | omega⟩)))
    ·
      refine S_iconst X dX12_in_10 ?_
      refine S_goto (tgt := 15) X dX12_in_11 (by decide) ?_
      exact S_zret X (Or.inr rfl) (nle rfl) (nle rfl) dX12_in_15 (hPo _ _ (Or.inr (⟨by first | rfl | omega, rfl, by first | rfl | assumption | omega⟩)))
set_option maxHeartbeats 4000000 in
set_option maxRecDepth 100000 in
theorem kX12_has (l : Launch) (x : Int) (k : Int) : AMi l yX12_has cX12_has 2 .boolean 0 0 0 [iv x, iv k] [] (fun z u => (z = 0 ∧ u = [] ∧ zAnd (zShr x k) 1 = 0) ∨ (z = 1 ∧ u = [] ∧ ¬ zAnd (zShr x k) 1 = 0)) := by
  refine AMi.of2 rfl (nle rfl) ?_
  intro D G A p e s m args below meth c Po hPo X
  have hz := zAnd1 (zShr x k)
  refine S_iload_n X dX12_has_0 rfl rfl ?_
  refine S_iload_n X dX12_has_1 rfl rfl ?_
  refine S_ishr X dX12_has_2 ?_
  refine S_iconst X dX12_has_3 ?_
  refine S_iand X dX12_has_4 ?_
  refine S_iconst X dX12_has_5 ?_
  refine S_icmp_ne (tgt := 13) X dX12_has_6 (by decide) (by omega) (by decide) (fun c_1 => ?_) (fun c_1 => ?_)
  ·
    refine S_iconst X dX12_has_13 ?_
    exact S_zret X (Or.inl rfl) (nle rfl) (nle rfl) dX12_has_14 (hPo _ _ (Or.inl (⟨by first | rfl | omega, rfl, by first | rfl | assumption | omega⟩)))
  ·
    refine S_iconst X dX12_has_9 ?_
    refine S_goto (tgt := 14) X dX12_has_10 (by decide) ?_
    exact S_zret X (Or.inr rfl) (nle rfl) (nle rfl) dX12_has_14 (hPo _ _ (Or.inr (⟨by first | rfl | omega, rfl, by first | rfl | assumption | omega⟩)))
set_option maxHeartbeats 4000000 in
set_option maxRecDepth 100000 in
theorem kX12_here (l : Launch) (h0 : Nat) (hT : Nat) (f : Nat → AV) (T : Int → Int) (n : Int) (a : Int) (w : Int) (dp : Int) (hf0 : f 1 = rv hT) (hf1 : f 2 = iv n) (okT : okT T n) (ha : 0 ≤ a ∧ a ≤ 200) : AMi l yX12_here cX12_here 1 .int 0 0 0 [rv h0] [(h0, ob 11 (uF (uF (uF f 3 (iv a)) 4 (iv w)) 5 (iv dp))), (hT, ar 160 T)] (fun z u => z = chM T n a ∧ u = [(h0, ob 11 (uF (uF (uF f 3 (iv a)) 4 (iv w)) 5 (iv dp))), (hT, ar 160 T)]) := by
  refine AMi.of2 rfl (nle rfl) ?_
  intro D G A p e s m args below meth c Po hPo X
  obtain ⟨hn0, hn1, hT2⟩ := id okT
  refine S_aload_n X dX12_here_0 rfl rfl ?_
  refine S_get (v := iv a) X fgX12_111_11 0 rfl rfl dX12_here_1 ?_
  refine S_aload_n X dX12_here_4 rfl rfl ?_
  refine S_get X fgX12_108_11 0 rfl hf1 dX12_here_5 ?_
  refine S_icmp_ge (tgt := 23) X dX12_here_8 (by decide) (by omega) (by omega) (fun c_1 => ?_) (fun c_1 => ?_)
  ·
    refine S_iconst X dX12_here_23 ?_
    exact S_iret X (nle rfl) (nle rfl) dX12_here_24 (hPo _ _ (⟨by unfold chM; rw [if_neg (by omega)], rfl⟩))
  ·
    refine S_aload_n X dX12_here_11 rfl rfl ?_
    refine S_get X fgX12_9_11 0 rfl hf0 dX12_here_12 ?_
    refine S_aload_n X dX12_here_15 rfl rfl ?_
    refine S_get (v := iv a) X fgX12_111_11 0 rfl rfl dX12_here_16 ?_
    refine S_iald X 1 rfl (by omega) (by omega) (nle rfl) dX12_here_19 ?_
    have hb_1 := hT2 a (by omega) (by omega)
    refine S_goto (tgt := 24) X dX12_here_20 (by decide) ?_
    exact S_iret X (nle rfl) (nle rfl) dX12_here_24 (hPo _ _ (⟨by unfold chM; rw [if_pos (by omega)], rfl⟩))
set_option maxHeartbeats 4000000 in
set_option maxRecDepth 100000 in
theorem kX12_look (l : Launch) (h0 : Nat) (hT : Nat) (f : Nat → AV) (T : Int → Int) (n : Int) (a : Int) (w : Int) (dp : Int) (hf0 : f 1 = rv hT) (hf1 : f 2 = iv n) (okT : okT T n) (ha : 0 ≤ a ∧ a ≤ n) : AMi l yX12_look cX12_look 1 .int 1 0 0 [rv h0] [(h0, ob 11 (uF (uF (uF f 3 (iv a)) 4 (iv w)) 5 (iv dp))), (hT, ar 160 T)] (fun z u => z = chM T n (sk T n a) ∧ u = [(h0, ob 11 (uF (uF (uF f 3 (iv (sk T n a))) 4 (iv w)) 5 (iv dp))), (hT, ar 160 T)]) := by
  refine AMi.of2 rfl (nle rfl) ?_
  intro D G A p e s m args below meth c Po hPo X
  obtain ⟨hn0, hn1, hT2⟩ := id okT
  have lp0_0 : ∀ (N : Nat) (a1 : Int) (L : Nat → Option AV), a ≤ a1 ∧ a1 ≤ n → sk T n a1 = sk T n a → L 0 = some (rv h0) → 161 - a1 < (N : Int) → S_ p l e (rmD 1 0 0) s m args below meth c (MQ below (QcI D G A Po) args s 0 0 A) D G A 1 0 0 0 L [] [(h0, ob 11 (uF (uF (uF f 3 (iv a1)) 4 (iv w)) 5 (iv dp))), (hT, ar 160 T)] := by
    intro N
    induction N with
    | zero =>
      intro a1 L0 hi hk hL0_0 hN0
      exfalso; omega
    | succ N ih0 =>
      intro a1 L0 hi hk hL0_0 hN0
      refine S_aload_n X dX12_look_0 rfl hL0_0 ?_
      refine S_calli X (kX12_here l h0 hT f T n a1 w dp hf0 hf1 (by omega) (by omega)) (is := [0, 1]) rfl (run_V X lkX12_114 0 rfl rfl (is := [0, 1]) (avs := []) (rest := []) rfl rfl (nle rfl) ⟨nle rfl, nle rfl⟩ ⟨nle rfl, nle rfl⟩ dX12_look_1 (by decide) rfl) (fun z_3 u_1 hp_2 => ?_)
      obtain ⟨hz_4, hu_5⟩ := hp_2
      subst hz_4
      subst hu_5
      refine ⟨rfl, ?_⟩
      refine S_w (ws' := [(h0, ob 11 (uF (uF (uF f 3 (iv a1)) 4 (iv w)) 5 (iv dp))), (hT, ar 160 T)]) rfl ?_
      have hcm := chM_or okT (a := a1) (by omega) (by omega)
      have hchT : a1 < n → ch T n a1 = T a1 := fun h => if_pos h
      refine S_bipush X dX12_look_4 rfl ?_
      refine S_icmp_ne (tgt := 22) X dX12_look_6 (by decide) (by omega) (by decide) (fun c_6 => ?_) (fun c_6 => ?_)
      ·
        have hs : sk T n a = a1 := by rw [← hk]; exact sk_stop (fun q9 => by have := hchT q9.1; omega)
        refine S_aload_n X dX12_look_22 rfl hL0_0 ?_
        refine S_calli X (kX12_here l h0 hT f T n a1 w dp hf0 hf1 (by omega) (by omega)) (is := [0, 1]) rfl (run_V X lkX12_114 0 rfl rfl (is := [0, 1]) (avs := []) (rest := []) rfl rfl (nle rfl) ⟨nle rfl, nle rfl⟩ ⟨nle rfl, nle rfl⟩ dX12_look_23 (by decide) rfl) (fun z_9 u_7 hp_8 => ?_)
        obtain ⟨hz_10, hu_11⟩ := hp_8
        subst hz_10
        subst hu_11
        refine ⟨rfl, ?_⟩
        refine S_w (ws' := [(h0, ob 11 (uF (uF (uF f 3 (iv a1)) 4 (iv w)) 5 (iv dp))), (hT, ar 160 T)]) rfl ?_
        exact S_iret X (nle rfl) (nle rfl) dX12_look_26 (hPo _ _ (⟨by rw [hs], by rw [hs]⟩))
      ·
        have hlt : a1 < n := by omega
        have hT32 := hchT hlt
        refine S_aload_n X dX12_look_9 rfl hL0_0 ?_
        refine S_dup X dX12_look_10 ?_
        refine S_get (v := iv a1) X fgX12_111_11 0 rfl rfl dX12_look_11 ?_
        refine S_iconst X dX12_look_14 ?_
        refine S_iadd X dX12_look_15 ?_
        refine S_put X fpX12_111_11 0 rfl FT_i dX12_look_16 ?_
        refine S_w (ws' := [(h0, ob 11 (uF (uF (uF f 3 (iv (a1 + 1))) 4 (iv w)) 5 (iv dp))), (hT, ar 160 T)]) (by simp only [List.set]; rw [uF_mv (j := 5) (k := 3) (by decide), uF_mv (j := 4) (k := 3) (by decide), uF_same (k := 3)]) ?_
        refine S_goto (tgt := 0) X dX12_look_19 (by decide) ?_
        exact ih0 (a1 + 1) _ (by omega) ((sk_blank (by omega) (by omega)).symm.trans hk) hL0_0 (by omega)
  exact lp0_0 (Int.toNat (161 - a) + 1) a _ (by omega) (rfl) rfl (by omega)
set_option maxHeartbeats 4000000 in
set_option maxRecDepth 100000 in
theorem kX12_bad (l : Launch) (h0 : Nat) (f : Nat → AV) (a : Int) (w : Int) (dp : Int) (hw : w = -1) : AMv l yX12_bad cX12_bad 1 0 0 0 [rv h0] [(h0, ob 11 (uF (uF (uF f 3 (iv a)) 4 (iv w)) 5 (iv dp)))] (fun u => u = [(h0, ob 11 (uF (uF (uF f 3 (iv a)) 4 (iv a)) 5 (iv dp)))]) := by
  refine AMv.of2 rfl (nle rfl) ?_
  intro D G A p e s m args below meth c Po hPo hnm X
  refine S_aload_n X dX12_bad_0 rfl rfl ?_
  refine S_aload_n X dX12_bad_1 rfl rfl ?_
  refine S_get (v := iv w) X fgX12_118_11 0 rfl rfl dX12_bad_2 ?_
  refine S_iconst X dX12_bad_5 ?_
  refine S_icmp_ne (tgt := 16) X dX12_bad_6 (by decide) (by omega) (by decide) (fun c_1 => by exfalso; omega) (fun c_1 => ?_)
  refine S_aload_n X dX12_bad_9 rfl rfl ?_
  refine S_get (v := iv a) X fgX12_111_11 0 rfl rfl dX12_bad_10 ?_
  refine S_goto (tgt := 20) X dX12_bad_13 (by decide) ?_
  refine S_put X fpX12_118_11 0 rfl FT_i dX12_bad_20 ?_
  refine S_w (ws' := [(h0, ob 11 (uF (uF (uF f 3 (iv a)) 4 (iv a)) 5 (iv dp)))]) (by simp only [List.set]; rw [uF_mv (j := 5) (k := 4) (by decide), uF_same (k := 4)]) ?_
  exact S_vret X (nle rfl) (nle rfl) dX12_bad_23 (hPo _ (rfl))
set_option maxHeartbeats 4000000 in
set_option maxRecDepth 100000 in
theorem kX12_isDigit (l : Launch) (x : Int) (hx : inR x) : AMi l yX12_isDigit cX12_isDigit 1 .boolean 0 0 0 [iv x] [] (fun z u => (z = 0 ∧ u = [] ∧ (¬ (48 ≤ x ∧ x ≤ 57))) ∨ (z = 1 ∧ u = [] ∧ (48 ≤ x ∧ x ≤ 57))) := by
  refine AMi.of2 rfl (nle rfl) ?_
  intro D G A p e s m args below meth c Po hPo X
  refine S_iload_n X dX12_isDigit_0 rfl rfl ?_
  refine S_bipush X dX12_isDigit_1 rfl ?_
  refine S_icmp_lt (tgt := 16) X dX12_isDigit_3 (by decide) (by omega) (by decide) (fun c_1 => ?_) (fun c_1 => ?_)
  ·
    refine S_iconst X dX12_isDigit_16 ?_
    exact S_zret X (Or.inl rfl) (nle rfl) (nle rfl) dX12_isDigit_17 (hPo _ _ (Or.inl (⟨by first | rfl | omega, rfl, by first | rfl | assumption | omega⟩)))
  ·
    refine S_iload_n X dX12_isDigit_6 rfl rfl ?_
    refine S_bipush X dX12_isDigit_7 rfl ?_
    refine S_icmp_gt (tgt := 16) X dX12_isDigit_9 (by decide) (by omega) (by decide) (fun c_2 => ?_) (fun c_2 => ?_)
    ·
      refine S_iconst X dX12_isDigit_16 ?_
      exact S_zret X (Or.inl rfl) (nle rfl) (nle rfl) dX12_isDigit_17 (hPo _ _ (Or.inl (⟨by first | rfl | omega, rfl, by first | rfl | assumption | omega⟩)))
    ·
      refine S_iconst X dX12_isDigit_12 ?_
      refine S_goto (tgt := 17) X dX12_isDigit_13 (by decide) ?_
      exact S_zret X (Or.inr rfl) (nle rfl) (nle rfl) dX12_isDigit_17 (hPo _ _ (Or.inr (⟨by first | rfl | omega, rfl, by first | rfl | assumption | omega⟩)))
set_option maxHeartbeats 4000000 in
set_option maxRecDepth 100000 in
theorem kX12_isSign (l : Launch) (x : Int) (hx : inR x) : AMi l yX12_isSign cX12_isSign 1 .boolean 0 0 0 [iv x] [] (fun z u => (z = 0 ∧ u = [] ∧ (¬ (x = 61 ∨ x = 60 ∨ x = 62))) ∨ (z = 1 ∧ u = [] ∧ (x = 61 ∨ x = 60 ∨ x = 62))) := by
  refine AMi.of2 rfl (nle rfl) ?_
  intro D G A p e s m args below meth c Po hPo X
  refine S_iload_n X dX12_isSign_0 rfl rfl ?_
  refine S_bipush X dX12_isSign_1 rfl ?_
  refine S_icmp_eq (tgt := 18) X dX12_isSign_3 (by decide) (by omega) (by decide) (fun c_1 => ?_) (fun c_1 => ?_)
  ·
    refine S_iconst X dX12_isSign_18 ?_
    refine S_goto (tgt := 23) X dX12_isSign_19 (by decide) ?_
    exact S_zret X (Or.inr rfl) (nle rfl) (nle rfl) dX12_isSign_23 (hPo _ _ (Or.inr (⟨by first | rfl | omega, rfl, by first | rfl | assumption | omega⟩)))
  ·
    refine S_iload_n X dX12_isSign_6 rfl rfl ?_
    refine S_bipush X dX12_isSign_7 rfl ?_
    refine S_icmp_eq (tgt := 18) X dX12_isSign_9 (by decide) (by omega) (by decide) (fun c_2 => ?_) (fun c_2 => ?_)
    ·
      refine S_iconst X dX12_isSign_18 ?_
      refine S_goto (tgt := 23) X dX12_isSign_19 (by decide) ?_
      exact S_zret X (Or.inr rfl) (nle rfl) (nle rfl) dX12_isSign_23 (hPo _ _ (Or.inr (⟨by first | rfl | omega, rfl, by first | rfl | assumption | omega⟩)))
    ·
      refine S_iload_n X dX12_isSign_12 rfl rfl ?_
      refine S_bipush X dX12_isSign_13 rfl ?_
      refine S_icmp_ne (tgt := 22) X dX12_isSign_15 (by decide) (by omega) (by decide) (fun c_3 => ?_) (fun c_3 => ?_)
      ·
        refine S_iconst X dX12_isSign_22 ?_
        exact S_zret X (Or.inl rfl) (nle rfl) (nle rfl) dX12_isSign_23 (hPo _ _ (Or.inl (⟨by first | rfl | omega, rfl, by first | rfl | assumption | omega⟩)))
      ·
        refine S_iconst X dX12_isSign_18 ?_
        refine S_goto (tgt := 23) X dX12_isSign_19 (by decide) ?_
        exact S_zret X (Or.inr rfl) (nle rfl) (nle rfl) dX12_isSign_23 (hPo _ _ (Or.inr (⟨by first | rfl | omega, rfl, by first | rfl | assumption | omega⟩)))
set_option maxHeartbeats 4000000 in
set_option maxRecDepth 100000 in
theorem kX12_letterOf (l : Launch) (x : Int) (hx : inR x) : AMi l yX12_letterOf cX12_letterOf 1 .int 0 0 0 [iv x] [] (fun z u => z = letOf x ∧ u = []) := by
  refine AMi.of2 rfl (nle rfl) ?_
  intro D G A p e s m args below meth c Po hPo X
  refine S_iload_n X dX12_letterOf_0 rfl rfl ?_
  refine S_bipush X dX12_letterOf_1 rfl ?_
  refine S_icmp_ne (tgt := 10) X dX12_letterOf_3 (by decide) (by omega) (by decide) (fun c_1 => ?_) (fun c_1 => ?_)
  ·
    refine S_iload_n X dX12_letterOf_10 rfl rfl ?_
    refine S_bipush X dX12_letterOf_11 rfl ?_
    refine S_icmp_ne (tgt := 20) X dX12_letterOf_13 (by decide) (by omega) (by decide) (fun c_2 => ?_) (fun c_2 => ?_)
    ·
      refine S_iload_n X dX12_letterOf_20 rfl rfl ?_
      refine S_bipush X dX12_letterOf_21 rfl ?_
      refine S_icmp_ne (tgt := 30) X dX12_letterOf_23 (by decide) (by omega) (by decide) (fun c_3 => ?_) (fun c_3 => ?_)
      ·
        refine S_iload_n X dX12_letterOf_30 rfl rfl ?_
        refine S_bipush X dX12_letterOf_31 rfl ?_
        refine S_icmp_ne (tgt := 40) X dX12_letterOf_33 (by decide) (by omega) (by decide) (fun c_4 => ?_) (fun c_4 => ?_)
        ·
          refine S_iload_n X dX12_letterOf_40 rfl rfl ?_
          refine S_bipush X dX12_letterOf_41 rfl ?_
          refine S_icmp_ne (tgt := 50) X dX12_letterOf_43 (by decide) (by omega) (by decide) (fun c_5 => ?_) (fun c_5 => ?_)
          ·
            refine S_iconst X dX12_letterOf_50 ?_
            exact S_iret X (nle rfl) (nle rfl) dX12_letterOf_51 (hPo _ _ (⟨by unfold letOf; (repeat' split) <;> omega, rfl⟩))
          ·
            refine S_iconst X dX12_letterOf_46 ?_
            refine S_goto (tgt := 51) X dX12_letterOf_47 (by decide) ?_
            exact S_iret X (nle rfl) (nle rfl) dX12_letterOf_51 (hPo _ _ (⟨by unfold letOf; (repeat' split) <;> omega, rfl⟩))
        ·
          refine S_iconst X dX12_letterOf_36 ?_
          refine S_goto (tgt := 51) X dX12_letterOf_37 (by decide) ?_
          exact S_iret X (nle rfl) (nle rfl) dX12_letterOf_51 (hPo _ _ (⟨by unfold letOf; (repeat' split) <;> omega, rfl⟩))
      ·
        refine S_iconst X dX12_letterOf_26 ?_
        refine S_goto (tgt := 51) X dX12_letterOf_27 (by decide) ?_
        exact S_iret X (nle rfl) (nle rfl) dX12_letterOf_51 (hPo _ _ (⟨by unfold letOf; (repeat' split) <;> omega, rfl⟩))
    ·
      refine S_iconst X dX12_letterOf_16 ?_
      refine S_goto (tgt := 51) X dX12_letterOf_17 (by decide) ?_
      exact S_iret X (nle rfl) (nle rfl) dX12_letterOf_51 (hPo _ _ (⟨by unfold letOf; (repeat' split) <;> omega, rfl⟩))
  ·
    refine S_iconst X dX12_letterOf_6 ?_
    refine S_goto (tgt := 51) X dX12_letterOf_7 (by decide) ?_
    exact S_iret X (nle rfl) (nle rfl) dX12_letterOf_51 (hPo _ _ (⟨by unfold letOf; (repeat' split) <;> omega, rfl⟩))
set_option maxHeartbeats 4000000 in
set_option maxRecDepth 100000 in
theorem kX12_put (l : Launch) (h0 : Nat) (f : Nat → AV) (a : Int) (w : Int) (dp : Int) (hC : Nat) (hV : Nat) (hN : Nat) (C : Int → Int) (V : Int → Int) (Nk : Int → Int) (tx : Int) (k : Int) (c0 : Int) (v0 : Int) (hf0 : f 6 = rv hC) (hf1 : f 7 = rv hV) (hf2 : f 8 = rv hN) (hf3 : f 14 = iv tx) (ht : 0 ≤ tx ∧ tx ≤ 4) (hk : 0 ≤ k ∧ k < 340) : AMv l yX12_put cX12_put 3 0 0 0 [rv h0, iv c0, iv v0] [(h0, ob 11 (uF (uF (uF f 3 (iv a)) 4 (iv w)) 5 (iv dp))), (hC, ar 1700 C), (hV, ar 1700 V), (hN, ar 5 (uZ Nk tx k))] (fun u => u = [(h0, ob 11 (uF (uF (uF f 3 (iv a)) 4 (iv w)) 5 (iv dp))), (hC, ar 1700 (uZ C (340 * tx + k) c0)), (hV, ar 1700 (uZ V (340 * tx + k) v0)), (hN, ar 5 (uZ Nk tx (k + 1)))]) := by
  refine AMv.of2 rfl (nle rfl) ?_
  intro D G A p e s m args below meth c Po hPo hnm X
  refine S_aload_n X dX12_put_0 rfl rfl ?_
  refine S_get X fgX12_13_11 0 rfl hf0 dX12_put_1 ?_
  refine S_sipush X dX12_put_4 rfl ?_
  refine S_aload_n X dX12_put_7 rfl rfl ?_
  refine S_get X fgX12_121_11 0 rfl hf3 dX12_put_8 ?_
  refine S_imul X dX12_put_11 ?_
  refine S_aload_n X dX12_put_12 rfl rfl ?_
  refine S_get X fgX12_19_11 0 rfl hf2 dX12_put_13 ?_
  refine S_aload_n X dX12_put_16 rfl rfl ?_
  refine S_get X fgX12_121_11 0 rfl hf3 dX12_put_17 ?_
  refine S_iald X 3 rfl (by omega) (by omega) (nle rfl) dX12_put_20 ?_
  rw [show uZ Nk tx k tx = k from uZ_at]
  refine S_iadd X dX12_put_21 ?_
  refine S_iload_n X dX12_put_22 rfl rfl ?_
  refine S_iast X 1 rfl (by omega) (by omega) (nle rfl) dX12_put_23 ?_
  refine S_w (ws' := [(h0, ob 11 (uF (uF (uF f 3 (iv a)) 4 (iv w)) 5 (iv dp))), (hC, ar 1700 (uZ C ((340 * tx) + k) c0)), (hV, ar 1700 V), (hN, ar 5 (uZ Nk tx k))]) rfl ?_
  refine S_aload_n X dX12_put_24 rfl rfl ?_
  refine S_get X fgX12_16_11 0 rfl hf1 dX12_put_25 ?_
  refine S_sipush X dX12_put_28 rfl ?_
  refine S_aload_n X dX12_put_31 rfl rfl ?_
  refine S_get X fgX12_121_11 0 rfl hf3 dX12_put_32 ?_
  refine S_imul X dX12_put_35 ?_
  refine S_aload_n X dX12_put_36 rfl rfl ?_
  refine S_get X fgX12_19_11 0 rfl hf2 dX12_put_37 ?_
  refine S_aload_n X dX12_put_40 rfl rfl ?_
  refine S_get X fgX12_121_11 0 rfl hf3 dX12_put_41 ?_
  refine S_iald X 3 rfl (by omega) (by omega) (nle rfl) dX12_put_44 ?_
  rw [show uZ Nk tx k tx = k from uZ_at]
  refine S_iadd X dX12_put_45 ?_
  refine S_iload_n X dX12_put_46 rfl rfl ?_
  refine S_iast X 2 rfl (by omega) (by omega) (nle rfl) dX12_put_47 ?_
  refine S_w (ws' := [(h0, ob 11 (uF (uF (uF f 3 (iv a)) 4 (iv w)) 5 (iv dp))), (hC, ar 1700 (uZ C ((340 * tx) + k) c0)), (hV, ar 1700 (uZ V ((340 * tx) + k) v0)), (hN, ar 5 (uZ Nk tx k))]) rfl ?_
  refine S_aload_n X dX12_put_48 rfl rfl ?_
  refine S_get X fgX12_19_11 0 rfl hf2 dX12_put_49 ?_
  refine S_aload_n X dX12_put_52 rfl rfl ?_
  refine S_get X fgX12_121_11 0 rfl hf3 dX12_put_53 ?_
  refine S_dup2 X dX12_put_56 ?_
  refine S_iald X 3 rfl (by omega) (by omega) (nle rfl) dX12_put_57 ?_
  rw [show uZ Nk tx k tx = k from uZ_at]
  refine S_iconst X dX12_put_58 ?_
  refine S_iadd X dX12_put_59 ?_
  refine S_iast X 3 rfl (by omega) (by omega) (nle rfl) dX12_put_60 ?_
  refine S_w (ws' := [(h0, ob 11 (uF (uF (uF f 3 (iv a)) 4 (iv w)) 5 (iv dp))), (hC, ar 1700 (uZ C ((340 * tx) + k) c0)), (hV, ar 1700 (uZ V ((340 * tx) + k) v0)), (hN, ar 5 (uZ (uZ Nk tx k) tx (k + 1)))]) rfl ?_
  exact S_vret X (nle rfl) (nle rfl) dX12_put_61 (hPo _ (by rw [uZ_same]))
set_option maxHeartbeats 4000000 in
set_option maxRecDepth 100000 in
theorem kX12_opens (l : Launch) (h0 : Nat) (f : Nat → AV) (a : Int) (w : Int) (dp : Int) (hw : w = -1) (hd : 0 ≤ dp ∧ dp ≤ 6) : AMv l yX12_opens cX12_opens 1 1 0 0 [rv h0] [(h0, ob 11 (uF (uF (uF f 3 (iv a)) 4 (iv w)) 5 (iv dp)))] (fun u => (u = [(h0, ob 11 (uF (uF (uF f 3 (iv (a + 1))) 4 (iv a)) 5 (iv (dp + 1))))] ∧ dp = 6) ∨ (u = [(h0, ob 11 (uF (uF (uF f 3 (iv (a + 1))) 4 (iv w)) 5 (iv (dp + 1))))] ∧ ¬ dp = 6)) := by
  refine AMv.of2 rfl (nle rfl) ?_
  intro D G A p e s m args below meth c Po hPo hnm X
  refine S_aload_n X dX12_opens_0 rfl rfl ?_
  refine S_get (v := iv dp) X fgX12_124_11 0 rfl rfl dX12_opens_1 ?_
  refine S_bipush X dX12_opens_4 rfl ?_
  refine S_icmp_ne (tgt := 13) X dX12_opens_6 (by decide) (by omega) (by decide) (fun c_1 => ?_) (fun c_1 => ?_)
  ·
    refine S_aload_n X dX12_opens_13 rfl rfl ?_
    refine S_dup X dX12_opens_14 ?_
    refine S_get (v := iv dp) X fgX12_124_11 0 rfl rfl dX12_opens_15 ?_
    refine S_iconst X dX12_opens_18 ?_
    refine S_iadd X dX12_opens_19 ?_
    refine S_put X fpX12_124_11 0 rfl FT_i dX12_opens_20 ?_
    refine S_w (ws' := [(h0, ob 11 (uF (uF (uF f 3 (iv a)) 4 (iv w)) 5 (iv (dp + 1))))]) (by simp only [List.set]; rw [uF_same (k := 5)]) ?_
    refine S_aload_n X dX12_opens_23 rfl rfl ?_
    refine S_dup X dX12_opens_24 ?_
    refine S_get (v := iv a) X fgX12_111_11 0 rfl rfl dX12_opens_25 ?_
    refine S_iconst X dX12_opens_28 ?_
    refine S_iadd X dX12_opens_29 ?_
    refine S_put X fpX12_111_11 0 rfl FT_i dX12_opens_30 ?_
    refine S_w (ws' := [(h0, ob 11 (uF (uF (uF f 3 (iv (a + 1))) 4 (iv w)) 5 (iv (dp + 1))))]) (by simp only [List.set]; rw [uF_mv (j := 5) (k := 3) (by decide), uF_mv (j := 4) (k := 3) (by decide), uF_same (k := 3)]) ?_
    exact S_vret X (nle rfl) (nle rfl) dX12_opens_33 (hPo _ (Or.inr (⟨rfl, by first | rfl | assumption | omega⟩)))
  ·
    refine S_aload_n X dX12_opens_9 rfl rfl ?_
    refine S_callv X (kX12_bad l h0 f a w dp (by omega)) (is := [0]) rfl (run_V X lkX12_127 0 rfl rfl (is := [0]) (avs := []) (rest := []) rfl rfl (nle rfl) ⟨nle rfl, nle rfl⟩ ⟨nle rfl, nle rfl⟩ dX12_opens_10 (by decide) rfl) (fun u_2 hp_3 => ?_)
    have hu_6 := hp_3
    subst hu_6
    refine ⟨rfl, ?_⟩
    refine S_w (ws' := [(h0, ob 11 (uF (uF (uF f 3 (iv a)) 4 (iv a)) 5 (iv dp)))]) rfl ?_
    refine S_aload_n X dX12_opens_13 rfl rfl ?_
    refine S_dup X dX12_opens_14 ?_
    refine S_get (v := iv dp) X fgX12_124_11 0 rfl rfl dX12_opens_15 ?_
    refine S_iconst X dX12_opens_18 ?_
    refine S_iadd X dX12_opens_19 ?_
    refine S_put X fpX12_124_11 0 rfl FT_i dX12_opens_20 ?_
    refine S_w (ws' := [(h0, ob 11 (uF (uF (uF f 3 (iv a)) 4 (iv a)) 5 (iv (dp + 1))))]) (by simp only [List.set]; rw [uF_same (k := 5)]) ?_
    refine S_aload_n X dX12_opens_23 rfl rfl ?_
    refine S_dup X dX12_opens_24 ?_
    refine S_get (v := iv a) X fgX12_111_11 0 rfl rfl dX12_opens_25 ?_
    refine S_iconst X dX12_opens_28 ?_
    refine S_iadd X dX12_opens_29 ?_
    refine S_put X fpX12_111_11 0 rfl FT_i dX12_opens_30 ?_
    refine S_w (ws' := [(h0, ob 11 (uF (uF (uF f 3 (iv (a + 1))) 4 (iv a)) 5 (iv (dp + 1))))]) (by simp only [List.set]; rw [uF_mv (j := 5) (k := 3) (by decide), uF_mv (j := 4) (k := 3) (by decide), uF_same (k := 3)]) ?_
    exact S_vret X (nle rfl) (nle rfl) dX12_opens_33 (hPo _ (Or.inl (⟨rfl, by first | rfl | assumption | omega⟩)))
set_option maxHeartbeats 4000000 in
set_option maxRecDepth 100000 in
theorem kX12_closes_N (l : Launch) (h0 : Nat) (hT : Nat) (f : Nat → AV) (T : Int → Int) (n : Int) (a : Int) (w : Int) (dp : Int) (c0 : Int) (hf0 : f 1 = rv hT) (hf1 : f 2 = iv n) (okT : okT T n) (ha : 0 ≤ a ∧ a ≤ n) (hw : w = -1) (hc : 1 ≤ c0 ∧ c0 ≤ 255) : AMv l yX12_closes cX12_closes 2 2 0 0 [rv h0, iv c0] [(h0, ob 11 (uF (uF (uF f 3 (iv a)) 4 (iv w)) 5 (iv dp))), (hT, ar 160 T)] (fun u => (u = [(h0, ob 11 (uF (uF (uF f 3 (iv ((sk T n a) + 1))) 4 (iv (sk T n a))) 5 (iv (dp - 1)))), (hT, ar 160 T)] ∧ ¬ ch T n (sk T n a) = c0) ∨ (u = [(h0, ob 11 (uF (uF (uF f 3 (iv ((sk T n a) + 1))) 4 (iv w)) 5 (iv (dp - 1)))), (hT, ar 160 T)] ∧ ch T n (sk T n a) = c0)) := by
  refine AMv.of2 rfl (nle rfl) ?_
  intro D G A p e s m args below meth c Po hPo hnm X
  obtain ⟨hn0, hn1, hT2⟩ := id okT
  refine S_aload_n X dX12_closes_0 rfl rfl ?_
  refine S_get (v := iv w) X fgX12_118_11 0 rfl rfl dX12_closes_1 ?_
  refine S_iconst X dX12_closes_4 ?_
  refine S_icmp_ne (tgt := 20) X dX12_closes_5 (by decide) (by omega) (by decide) (fun c_1 => by exfalso; omega) (fun c_1 => ?_)
  refine S_aload_n X dX12_closes_8 rfl rfl ?_
  refine S_calli X (kX12_look l h0 hT f T n a w dp hf0 hf1 (by omega) (by omega)) (is := [0, 1]) rfl (run_V X lkX12_130 0 rfl rfl (is := [0, 1]) (avs := []) (rest := []) rfl rfl (nle rfl) ⟨nle rfl, nle rfl⟩ ⟨nle rfl, nle rfl⟩ dX12_closes_9 (by decide) rfl) (fun z_4 u_2 hp_3 => ?_)
  obtain ⟨hz_5, hu_6⟩ := hp_3
  subst hz_5
  subst hu_6
  refine ⟨rfl, ?_⟩
  refine S_w (ws' := [(h0, ob 11 (uF (uF (uF f 3 (iv (sk T n a))) 4 (iv w)) 5 (iv dp))), (hT, ar 160 T)]) rfl ?_
  have hsk := sk_in (T := T) ha.2
  have hcm := chM_or okT (a := sk T n a) (by omega) (by omega)
  refine S_iload_n X dX12_closes_12 rfl rfl ?_
  refine S_icmp_eq (tgt := 20) X dX12_closes_13 (by decide) (by omega) (by omega) (fun c_7 => ?_) (fun c_7 => ?_)
  ·
    refine S_aload_n X dX12_closes_20 rfl rfl ?_
    refine S_dup X dX12_closes_21 ?_
    refine S_get (v := iv (sk T n a)) X fgX12_111_11 0 rfl rfl dX12_closes_22 ?_
    refine S_iconst X dX12_closes_25 ?_
    refine S_iadd X dX12_closes_26 ?_
    refine S_put X fpX12_111_11 0 rfl FT_i dX12_closes_27 ?_
    refine S_w (ws' := [(h0, ob 11 (uF (uF (uF f 3 (iv ((sk T n a) + 1))) 4 (iv w)) 5 (iv dp))), (hT, ar 160 T)]) (by simp only [List.set]; rw [uF_mv (j := 5) (k := 3) (by decide), uF_mv (j := 4) (k := 3) (by decide), uF_same (k := 3)]) ?_
    refine S_aload_n X dX12_closes_30 rfl rfl ?_
    refine S_dup X dX12_closes_31 ?_
    refine S_get (v := iv dp) X fgX12_124_11 0 rfl rfl dX12_closes_32 ?_
    refine S_iconst X dX12_closes_35 ?_
    refine S_isub X dX12_closes_36 ?_
    refine S_put X fpX12_124_11 0 rfl FT_i dX12_closes_37 ?_
    refine S_w (ws' := [(h0, ob 11 (uF (uF (uF f 3 (iv ((sk T n a) + 1))) 4 (iv w)) 5 (iv (dp - 1)))), (hT, ar 160 T)]) (by simp only [List.set]; rw [uF_same (k := 5)]) ?_
    exact S_vret X (nle rfl) (nle rfl) dX12_closes_40 (hPo _ (Or.inr (⟨rfl, by first | rfl | assumption | omega⟩)))
  ·
    refine S_aload_n X dX12_closes_16 rfl rfl ?_
    refine S_callv X (kX12_bad l h0 f (sk T n a) w dp (by omega)) (is := [0]) rfl (run_V X lkX12_127 0 rfl rfl (is := [0]) (avs := []) (rest := []) rfl rfl (nle rfl) ⟨nle rfl, nle rfl⟩ ⟨nle rfl, nle rfl⟩ dX12_closes_17 (by decide) rfl) (fun u_8 hp_9 => ?_)
    have hu_12 := hp_9
    subst hu_12
    refine ⟨rfl, ?_⟩
    refine S_w (ws' := [(h0, ob 11 (uF (uF (uF f 3 (iv (sk T n a))) 4 (iv (sk T n a))) 5 (iv dp))), (hT, ar 160 T)]) rfl ?_
    refine S_aload_n X dX12_closes_20 rfl rfl ?_
    refine S_dup X dX12_closes_21 ?_
    refine S_get (v := iv (sk T n a)) X fgX12_111_11 0 rfl rfl dX12_closes_22 ?_
    refine S_iconst X dX12_closes_25 ?_
    refine S_iadd X dX12_closes_26 ?_
    refine S_put X fpX12_111_11 0 rfl FT_i dX12_closes_27 ?_
    refine S_w (ws' := [(h0, ob 11 (uF (uF (uF f 3 (iv ((sk T n a) + 1))) 4 (iv (sk T n a))) 5 (iv dp))), (hT, ar 160 T)]) (by simp only [List.set]; rw [uF_mv (j := 5) (k := 3) (by decide), uF_mv (j := 4) (k := 3) (by decide), uF_same (k := 3)]) ?_
    refine S_aload_n X dX12_closes_30 rfl rfl ?_
    refine S_dup X dX12_closes_31 ?_
    refine S_get (v := iv dp) X fgX12_124_11 0 rfl rfl dX12_closes_32 ?_
    refine S_iconst X dX12_closes_35 ?_
    refine S_isub X dX12_closes_36 ?_
    refine S_put X fpX12_124_11 0 rfl FT_i dX12_closes_37 ?_
    refine S_w (ws' := [(h0, ob 11 (uF (uF (uF f 3 (iv ((sk T n a) + 1))) 4 (iv (sk T n a))) 5 (iv (dp - 1)))), (hT, ar 160 T)]) (by simp only [List.set]; rw [uF_same (k := 5)]) ?_
    exact S_vret X (nle rfl) (nle rfl) dX12_closes_40 (hPo _ (Or.inl (⟨rfl, by first | rfl | assumption | omega⟩)))
set_option maxHeartbeats 4000000 in
set_option maxRecDepth 100000 in
theorem kX12_closes_E (l : Launch) (h0 : Nat) (f : Nat → AV) (a : Int) (w : Int) (dp : Int) (c0 : Int) (hw : ¬ w = -1) (hw2 : inR w) : AMv l yX12_closes cX12_closes 2 2 0 0 [rv h0, iv c0] [(h0, ob 11 (uF (uF (uF f 3 (iv a)) 4 (iv w)) 5 (iv dp)))] (fun u => u = [(h0, ob 11 (uF (uF (uF f 3 (iv (a + 1))) 4 (iv w)) 5 (iv (dp - 1))))]) := by
  refine AMv.of2 rfl (nle rfl) ?_
  intro D G A p e s m args below meth c Po hPo hnm X
  refine S_aload_n X dX12_closes_0 rfl rfl ?_
  refine S_get (v := iv w) X fgX12_118_11 0 rfl rfl dX12_closes_1 ?_
  refine S_iconst X dX12_closes_4 ?_
  refine S_icmp_ne (tgt := 20) X dX12_closes_5 (by decide) (by omega) (by decide) (fun c_1 => ?_) (fun c_1 => by exfalso; omega)
  refine S_aload_n X dX12_closes_20 rfl rfl ?_
  refine S_dup X dX12_closes_21 ?_
  refine S_get (v := iv a) X fgX12_111_11 0 rfl rfl dX12_closes_22 ?_
  refine S_iconst X dX12_closes_25 ?_
  refine S_iadd X dX12_closes_26 ?_
  refine S_put X fpX12_111_11 0 rfl FT_i dX12_closes_27 ?_
  refine S_w (ws' := [(h0, ob 11 (uF (uF (uF f 3 (iv (a + 1))) 4 (iv w)) 5 (iv dp)))]) (by simp only [List.set]; rw [uF_mv (j := 5) (k := 3) (by decide), uF_mv (j := 4) (k := 3) (by decide), uF_same (k := 3)]) ?_
  refine S_aload_n X dX12_closes_30 rfl rfl ?_
  refine S_dup X dX12_closes_31 ?_
  refine S_get (v := iv dp) X fgX12_124_11 0 rfl rfl dX12_closes_32 ?_
  refine S_iconst X dX12_closes_35 ?_
  refine S_isub X dX12_closes_36 ?_
  refine S_put X fpX12_124_11 0 rfl FT_i dX12_closes_37 ?_
  refine S_w (ws' := [(h0, ob 11 (uF (uF (uF f 3 (iv (a + 1))) 4 (iv w)) 5 (iv (dp - 1))))]) (by simp only [List.set]; rw [uF_same (k := 5)]) ?_
  exact S_vret X (nle rfl) (nle rfl) dX12_closes_40 (hPo _ (rfl))
set_option maxHeartbeats 4000000 in
set_option maxRecDepth 100000 in
theorem kX12_plainNumber (l : Launch) (h0 : Nat) (hT : Nat) (f : Nat → AV) (T : Int → Int) (n : Int) (a : Int) (w : Int) (dp : Int) (hf0 : f 1 = rv hT) (hf1 : f 2 = iv n) (okT : okT T n) (ha : 0 ≤ a ∧ a ≤ n) (hw : w = -1) (hdg : a < n ∧ 48 ≤ T a ∧ T a ≤ 57) : AMi l yX12_plainNumber cX12_plainNumber 3 .int 1 0 0 [rv h0] [(h0, ob 11 (uF (uF (uF f 3 (iv a)) 4 (iv w)) 5 (iv dp))), (hT, ar 160 T)] (fun z u => (∃ a2 : Int, ∃ v : Int, z = v ∧ u = [(h0, ob 11 (uF (uF (uF f 3 (iv a2)) 4 (iv a2)) 5 (iv dp))), (hT, ar 160 T)] ∧ pNum T n 4 0 9999 a = .inl a2 ∧ (a + 4 ≤ a2 ∧ a2 ≤ n)) ∨ (∃ a2 : Int, ∃ v : Int, z = v ∧ u = [(h0, ob 11 (uF (uF (uF f 3 (iv a2)) 4 (iv w)) 5 (iv dp))), (hT, ar 160 T)] ∧ pNum T n 4 0 9999 a = .inr (a2, v))) := by
  refine AMi.of2 rfl (nle rfl) ?_
  intro D G A p e s m args below meth c Po hPo X
  obtain ⟨hn0, hn1, hT2⟩ := id okT
  have hska : sk T n a = a := sk_stop (by omega)
  have hcha : ch T n a = T a := if_pos hdg.1
  refine S_iconst X dX12_plainNumber_0 ?_
  refine S_istore_n X dX12_plainNumber_1 rfl (nle rfl) ?_
  refine S_iconst X dX12_plainNumber_2 ?_
  refine S_istore_n X dX12_plainNumber_3 rfl (nle rfl) ?_
  have lp4_0 : ∀ (N : Nat) (a1 : Int) (v : Int) (m1 : Int) (L : Nat → Option AV), a ≤ a1 ∧ a1 ≤ n ∧ m1 = a1 - a ∧ m1 ≤ 4 → (m1 = 0 ∧ v = 0) ∨ (m1 = 1 ∧ 0 ≤ v ∧ v ≤ 9) ∨ (m1 = 2 ∧ 0 ≤ v ∧ v ≤ 99) ∨ (m1 = 3 ∧ 0 ≤ v ∧ v ≤ 999) ∨ (m1 = 4 ∧ 0 ≤ v ∧ v ≤ 9999) → (∀ r, numF T n 4 a (6 - m1.toNat) a1 v = r → pNum T n 4 0 9999 a = numE 0 9999 r) → L 0 = some (rv h0) → L 1 = some (iv v) → L 2 = some (iv m1) → 5 - m1 < (N : Int) → S_ p l e (rmD 1 0 0) s m args below meth c (MQ below (QcI D G A Po) args s 0 0 A) D G A 3 0 0 4 L [] [(h0, ob 11 (uF (uF (uF f 3 (iv a1)) 4 (iv w)) 5 (iv dp))), (hT, ar 160 T)] := by
    intro N
    induction N with
    | zero =>
      intro a1 v m1 L4 hi1 hv hk hL4_0 hL4_1 hL4_2 hN4
      exfalso; omega
    | succ N ih4 =>
      intro a1 v m1 L4 hi1 hv hk hL4_0 hL4_1 hL4_2 hN4
      refine S_iload_n X dX12_plainNumber_4 rfl hL4_2 ?_
      refine S_iconst X dX12_plainNumber_5 ?_
      refine S_icmp_ge (tgt := 48) X dX12_plainNumber_6 (by decide) (by omega) (by decide) (fun c_1 => ?_) (fun c_1 => ?_)
      ·
        refine S_aload_n X dX12_plainNumber_48 rfl hL4_0 ?_
        refine S_calli X (kX12_here l h0 hT f T n a1 w dp hf0 hf1 (by omega) (by omega)) (is := [0, 1]) rfl (run_V X lkX12_114 0 rfl rfl (is := [0, 1]) (avs := []) (rest := []) rfl rfl (nle rfl) ⟨nle rfl, nle rfl⟩ ⟨nle rfl, nle rfl⟩ dX12_plainNumber_49 (by decide) rfl) (fun z_4 u_2 hp_3 => ?_)
        obtain ⟨hz_5, hu_6⟩ := hp_3
        subst hz_5
        subst hu_6
        refine ⟨rfl, ?_⟩
        refine S_w (ws' := [(h0, ob 11 (uF (uF (uF f 3 (iv a1)) 4 (iv w)) 5 (iv dp))), (hT, ar 160 T)]) rfl ?_
        have hcm2 := chM_or okT (a := a1) (by omega) (by omega)
        have hchT2 : a1 < n → ch T n a1 = T a1 := fun h => if_pos h
        refine S_calli X (kX12_isDigit l (chM T n a1) (by omega)) (is := []) rfl (run_S X lkX12_133 (is := []) (avs := [iv (chM T n a1)]) (rest := []) rfl rfl (nle rfl) ⟨nle rfl, nle rfl⟩ ⟨nle rfl, nle rfl⟩ dX12_plainNumber_52 (by decide) rfl) (fun z_9 u_7 hp_8 => ?_)
        rcases hp_8 with ⟨hz_10, hu_11, hd_12⟩ | ⟨hz_13, hu_14, hd_15⟩
        ·
          subst hz_10
          subst hu_11
          refine ⟨rfl, ?_⟩
          refine S_w (ws' := [(h0, ob 11 (uF (uF (uF f 3 (iv a1)) 4 (iv w)) 5 (iv dp))), (hT, ar 160 T)]) rfl ?_
          refine S_if_eq (tgt := 62) X dX12_plainNumber_55 (by decide) (by decide) (fun _ => ?_) (fun h9 => absurd h9 (by decide))
          refine S_iload_n X dX12_plainNumber_62 rfl hL4_1 ?_
          exact S_iret X (nle rfl) (nle rfl) dX12_plainNumber_63 (hPo _ _ (Or.inr ⟨_, _, rfl, rfl, (hk (.inr (a1, v)) (by rw [fuel6 (by omega) (by omega)]; exact numF_end (fun q9 => by have := (if_pos q9.1 : ch T n a1 = T a1); omega))).trans (numE_i (by omega))⟩))
        ·
          subst hz_13
          subst hu_14
          refine ⟨rfl, ?_⟩
          refine S_w (ws' := [(h0, ob 11 (uF (uF (uF f 3 (iv a1)) 4 (iv w)) 5 (iv dp))), (hT, ar 160 T)]) rfl ?_
          refine S_if_eq (tgt := 62) X dX12_plainNumber_55 (by decide) (by decide) (fun h9 => absurd h9 (by decide)) (fun _ => ?_)
          refine S_aload_n X dX12_plainNumber_58 rfl hL4_0 ?_
          refine S_callv X (kX12_bad l h0 f a1 w dp (by omega)) (is := [0]) rfl (run_V X lkX12_127 0 rfl rfl (is := [0]) (avs := []) (rest := []) rfl rfl (nle rfl) ⟨nle rfl, nle rfl⟩ ⟨nle rfl, nle rfl⟩ dX12_plainNumber_59 (by decide) rfl) (fun u_18 hp_19 => ?_)
          have hu_22 := hp_19
          subst hu_22
          refine ⟨rfl, ?_⟩
          refine S_w (ws' := [(h0, ob 11 (uF (uF (uF f 3 (iv a1)) 4 (iv a1)) 5 (iv dp))), (hT, ar 160 T)]) rfl ?_
          refine S_iload_n X dX12_plainNumber_62 rfl hL4_1 ?_
          exact S_iret X (nle rfl) (nle rfl) dX12_plainNumber_63 (hPo _ _ (Or.inl ⟨_, _, rfl, rfl, (hk (.inl a1) (by rw [fuel6 (by omega) (by omega)]; have := hchT2 (by omega); exact numF_big ⟨by omega, by omega, by omega⟩ (by omega))), by omega, by omega⟩))
      ·
        refine S_aload_n X dX12_plainNumber_9 rfl hL4_0 ?_
        refine S_calli X (kX12_here l h0 hT f T n a1 w dp hf0 hf1 (by omega) (by omega)) (is := [0, 1]) rfl (run_V X lkX12_114 0 rfl rfl (is := [0, 1]) (avs := []) (rest := []) rfl rfl (nle rfl) ⟨nle rfl, nle rfl⟩ ⟨nle rfl, nle rfl⟩ dX12_plainNumber_10 (by decide) rfl) (fun z_25 u_23 hp_24 => ?_)
        obtain ⟨hz_26, hu_27⟩ := hp_24
        subst hz_26
        subst hu_27
        refine ⟨rfl, ?_⟩
        refine S_w (ws' := [(h0, ob 11 (uF (uF (uF f 3 (iv a1)) 4 (iv w)) 5 (iv dp))), (hT, ar 160 T)]) rfl ?_
        have hcm := chM_or okT (a := a1) (by omega) (by omega)
        have hchT : a1 < n → ch T n a1 = T a1 := fun h => if_pos h
        refine S_calli X (kX12_isDigit l (chM T n a1) (by omega)) (is := []) rfl (run_S X lkX12_133 (is := []) (avs := [iv (chM T n a1)]) (rest := []) rfl rfl (nle rfl) ⟨nle rfl, nle rfl⟩ ⟨nle rfl, nle rfl⟩ dX12_plainNumber_13 (by decide) rfl) (fun z_30 u_28 hp_29 => ?_)
        rcases hp_29 with ⟨hz_31, hu_32, hd_33⟩ | ⟨hz_34, hu_35, hd_36⟩
        ·
          subst hz_31
          subst hu_32
          refine ⟨rfl, ?_⟩
          refine S_w (ws' := [(h0, ob 11 (uF (uF (uF f 3 (iv a1)) 4 (iv w)) 5 (iv dp))), (hT, ar 160 T)]) rfl ?_
          refine S_if_eq (tgt := 48) X dX12_plainNumber_16 (by decide) (by decide) (fun _ => ?_) (fun h9 => absurd h9 (by decide))
          refine S_aload_n X dX12_plainNumber_48 rfl hL4_0 ?_
          refine S_calli X (kX12_here l h0 hT f T n a1 w dp hf0 hf1 (by omega) (by omega)) (is := [0, 1]) rfl (run_V X lkX12_114 0 rfl rfl (is := [0, 1]) (avs := []) (rest := []) rfl rfl (nle rfl) ⟨nle rfl, nle rfl⟩ ⟨nle rfl, nle rfl⟩ dX12_plainNumber_49 (by decide) rfl) (fun z_40 u_38 hp_39 => ?_)
          obtain ⟨hz_41, hu_42⟩ := hp_39
          subst hz_41
          subst hu_42
          refine ⟨rfl, ?_⟩
          refine S_w (ws' := [(h0, ob 11 (uF (uF (uF f 3 (iv a1)) 4 (iv w)) 5 (iv dp))), (hT, ar 160 T)]) rfl ?_
          have hcm2 := chM_or okT (a := a1) (by omega) (by omega)
          have hchT2 : a1 < n → ch T n a1 = T a1 := fun h => if_pos h
          refine S_calli X (kX12_isDigit l (chM T n a1) (by omega)) (is := []) rfl (run_S X lkX12_133 (is := []) (avs := [iv (chM T n a1)]) (rest := []) rfl rfl (nle rfl) ⟨nle rfl, nle rfl⟩ ⟨nle rfl, nle rfl⟩ dX12_plainNumber_52 (by decide) rfl) (fun z_45 u_43 hp_44 => ?_)
          rcases hp_44 with ⟨hz_46, hu_47, hd_48⟩ | ⟨hz_49, hu_50, hd_51⟩
          ·
            subst hz_46
            subst hu_47
            refine ⟨rfl, ?_⟩
            refine S_w (ws' := [(h0, ob 11 (uF (uF (uF f 3 (iv a1)) 4 (iv w)) 5 (iv dp))), (hT, ar 160 T)]) rfl ?_
            refine S_if_eq (tgt := 62) X dX12_plainNumber_55 (by decide) (by decide) (fun _ => ?_) (fun h9 => absurd h9 (by decide))
            refine S_iload_n X dX12_plainNumber_62 rfl hL4_1 ?_
            exact S_iret X (nle rfl) (nle rfl) dX12_plainNumber_63 (hPo _ _ (Or.inr ⟨_, _, rfl, rfl, (hk (.inr (a1, v)) (by rw [fuel6 (by omega) (by omega)]; exact numF_end (fun q9 => by have := (if_pos q9.1 : ch T n a1 = T a1); omega))).trans (numE_i (by omega))⟩))
          ·
            subst hz_49
            subst hu_50
            refine ⟨rfl, ?_⟩
            refine S_w (ws' := [(h0, ob 11 (uF (uF (uF f 3 (iv a1)) 4 (iv w)) 5 (iv dp))), (hT, ar 160 T)]) rfl ?_
            refine S_if_eq (tgt := 62) X dX12_plainNumber_55 (by decide) (by decide) (fun h9 => absurd h9 (by decide)) (fun _ => ?_)
            refine S_aload_n X dX12_plainNumber_58 rfl hL4_0 ?_
            refine S_callv X (kX12_bad l h0 f a1 w dp (by omega)) (is := [0]) rfl (run_V X lkX12_127 0 rfl rfl (is := [0]) (avs := []) (rest := []) rfl rfl (nle rfl) ⟨nle rfl, nle rfl⟩ ⟨nle rfl, nle rfl⟩ dX12_plainNumber_59 (by decide) rfl) (fun u_54 hp_55 => ?_)
            have hu_58 := hp_55
            subst hu_58
            refine ⟨rfl, ?_⟩
            refine S_w (ws' := [(h0, ob 11 (uF (uF (uF f 3 (iv a1)) 4 (iv a1)) 5 (iv dp))), (hT, ar 160 T)]) rfl ?_
            refine S_iload_n X dX12_plainNumber_62 rfl hL4_1 ?_
            exact S_iret X (nle rfl) (nle rfl) dX12_plainNumber_63 (hPo _ _ (Or.inl ⟨_, _, rfl, rfl, (hk (.inl a1) (by rw [fuel6 (by omega) (by omega)]; have := hchT2 (by omega); exact numF_big ⟨by omega, by omega, by omega⟩ (by omega))), by omega, by omega⟩))
        ·
          subst hz_34
          subst hu_35
          refine ⟨rfl, ?_⟩
          refine S_w (ws' := [(h0, ob 11 (uF (uF (uF f 3 (iv a1)) 4 (iv w)) 5 (iv dp))), (hT, ar 160 T)]) rfl ?_
          refine S_if_eq (tgt := 48) X dX12_plainNumber_16 (by decide) (by decide) (fun h9 => absurd h9 (by decide)) (fun _ => ?_)
          refine S_bipush X dX12_plainNumber_19 rfl ?_
          refine S_iload_n X dX12_plainNumber_21 rfl hL4_1 ?_
          refine S_imul X dX12_plainNumber_22 ?_
          refine S_aload_n X dX12_plainNumber_23 rfl hL4_0 ?_
          refine S_calli X (kX12_here l h0 hT f T n a1 w dp hf0 hf1 (by omega) (by omega)) (is := [0, 1]) rfl (run_V X lkX12_114 0 rfl rfl (is := [0, 1]) (avs := []) (rest := [iv (10 * v)]) rfl rfl (nle rfl) ⟨nle rfl, nle rfl⟩ ⟨nle rfl, nle rfl⟩ dX12_plainNumber_24 (by decide) rfl) (fun z_62 u_60 hp_61 => ?_)
          obtain ⟨hz_63, hu_64⟩ := hp_61
          subst hz_63
          subst hu_64
          refine ⟨rfl, ?_⟩
          refine S_w (ws' := [(h0, ob 11 (uF (uF (uF f 3 (iv a1)) 4 (iv w)) 5 (iv dp))), (hT, ar 160 T)]) rfl ?_
          have hlt : a1 < n := by omega
          have hT32 := hchT hlt
          refine S_iadd X dX12_plainNumber_27 ?_
          refine S_bipush X dX12_plainNumber_28 rfl ?_
          refine S_isub X dX12_plainNumber_30 ?_
          refine S_istore_n X dX12_plainNumber_31 rfl (nle rfl) ?_
          refine S_aload_n X dX12_plainNumber_32 rfl hL4_0 ?_
          refine S_dup X dX12_plainNumber_33 ?_
          refine S_get (v := iv a1) X fgX12_111_11 0 rfl rfl dX12_plainNumber_34 ?_
          refine S_iconst X dX12_plainNumber_37 ?_
          refine S_iadd X dX12_plainNumber_38 ?_
          refine S_put X fpX12_111_11 0 rfl FT_i dX12_plainNumber_39 ?_
          refine S_w (ws' := [(h0, ob 11 (uF (uF (uF f 3 (iv (a1 + 1))) 4 (iv w)) 5 (iv dp))), (hT, ar 160 T)]) (by simp only [List.set]; rw [uF_mv (j := 5) (k := 3) (by decide), uF_mv (j := 4) (k := 3) (by decide), uF_same (k := 3)]) ?_
          refine S_iinc X dX12_plainNumber_42 (nle rfl) hL4_2 ?_
          refine S_goto (tgt := 4) X dX12_plainNumber_45 (by decide) ?_
          exact ih4 (a1 + 1) (((10 * v) + (chM T n a1)) - 48) (m1 + 1) _ (by omega) (by omega) (fun r9 h9 => hk r9 (by rw [show 6 - m1.toNat = (6 - (m1 + 1).toNat) + 1 by omega, numF_dig ⟨by omega, by omega, by omega⟩ (by omega)]; rw [show v * 10 + T a1 - 48 = 10 * v + chM T n a1 - 48 by omega]; exact h9)) hL4_0 rfl rfl (by omega)
  exact lp4_0 (Int.toNat (5 - 0) + 1) a 0 0 _ (by omega) (by omega) (fun r9 h9 => by unfold pNum; rw [hska, if_pos (by omega)]; exact congrArg (numE 0 9999) h9) rfl rfl rfl (by omega)
