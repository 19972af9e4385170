theorem pb_t {pl ec mk b i v a : Int} {Fo Ho B Lt : Int → Int} (hb : 0 ≤ b) (hw : v = if b = 0 then 0 else wS pl ec mk Fo Ho B Lt (b - 1) i) (ha : a = bF ec Fo Ho B b i) : v + a + Lt i = tS pl ec mk Fo Ho B Lt b i := by
  rw [hw, ha]
  by_cases h : b = 0
  · rw [if_pos h, h]; exact tF_0.symm
  · rw [if_neg h]; exact (tF_P (by omega)).symm
theorem pf_o {A : Int → Int} {ec pl : Int} {Fo Ho B : Int → Int} (h : ∀ x, 0 ≤ x → x < 6 → A x = B x) (hp : pl ≤ 6 := by omega) : reg A (bF ec Fo Ho B) pl (max 0 1) 0 := by
  intro x y h0 h1 h2 h3
  have e : x = 0 := by omega
  subst e
  rw [show 6 * 0 + y = y by omega, bF_0]
  exact h y h1 (by omega)
theorem pf_m {A : Int → Int} {g : Int → Int → Int} {pl b : Int} (hb : 0 ≤ b) (h : reg A g pl (b + 1) 0) : reg A g pl (max (b + 1) 1) 0 := h.lo (by omega)
theorem pf_cut {pl n ec mk b ce : Int} {Fo Ho B Lt : Int → Int} (h : okS pl n ec Fo Ho B Lt) (hb : 0 ≤ b ∧ b < n) (hc : ce ≤ sS pl ec mk Fo Ho B Lt b) : ce ≤ WO pl n ec mk Fo Ho B Lt := by
  have := (mxI_ge (g := sS pl ec mk Fo Ho B Lt) n (by omega)).2 b hb.1 hb.2
  unfold WO
  omega
set_option maxHeartbeats 4000000 in
set_option maxRecDepth 100000 in
theorem kX11_held (l : Launch) (v : Int) (lo : Int) (hi : Int) (hv : inR v) (hl : inR lo) (hh : inR hi) (hlh : lo ≤ hi) : AMi l yX11_held cX11_held 3 .int 0 0 0 [iv v, iv lo, iv hi] [] (fun z u => z = max lo (min hi v) ∧ u = []) := by
  refine AMi.of2 rfl (nle rfl) ?_
  intro D G A p e s m args below meth c Po hPo X
  refine S_iload_n X dX11_held_0 rfl rfl ?_
  refine S_iload_n X dX11_held_1 rfl rfl ?_
  refine S_icmp_ge (tgt := 9) X dX11_held_2 (by decide) (by omega) (by omega) (fun c_1 => ?_) (fun c_1 => ?_)
  ·
    refine S_iload_n X dX11_held_9 rfl rfl ?_
    refine S_iload_n X dX11_held_10 rfl rfl ?_
    refine S_icmp_le (tgt := 18) X dX11_held_11 (by decide) (by omega) (by omega) (fun c_2 => ?_) (fun c_2 => ?_)
    ·
      refine S_iload_n X dX11_held_18 rfl rfl ?_
      exact S_iret X (nle rfl) (nle rfl) dX11_held_19 (hPo _ _ (⟨by first | rfl | omega, rfl⟩))
    ·
      refine S_iload_n X dX11_held_14 rfl rfl ?_
      refine S_goto (tgt := 19) X dX11_held_15 (by decide) ?_
      exact S_iret X (nle rfl) (nle rfl) dX11_held_19 (hPo _ _ (⟨by first | rfl | omega, rfl⟩))
  ·
    refine S_iload_n X dX11_held_5 rfl rfl ?_
    refine S_goto (tgt := 19) X dX11_held_6 (by decide) ?_
    exact S_iret X (nle rfl) (nle rfl) dX11_held_19 (hPo _ _ (⟨by first | rfl | omega, rfl⟩))
set_option maxHeartbeats 4000000 in
set_option maxRecDepth 100000 in
theorem kJ7_fill_53178 (l : Launch) (a9 : Nat) (n9 : Nat) (g9 : Int → Int) (x : Int) (hn9 : n9 ≤ 100000) : AMv l yJ7_fill_53178 cJ7_fill_53178 4 0 0 0 [rv a9, iv x] [(a9, ar n9 g9)] (fun u => ∃ g2 : Int → Int, u = [(a9, ar n9 g2)] ∧ (∀ j, 0 ≤ j → j < (n9 : Int) → g2 j = x)) := by
  refine AMv.of2 rfl (nle rfl) ?_
  intro D G A p e s m args below meth c Po hPo hnm X
  refine S_iconst X dJ7_fill_53178_0 ?_
  refine S_istore_n X dJ7_fill_53178_1 rfl (nle rfl) ?_
  refine S_aload_n X dJ7_fill_53178_2 rfl rfl ?_
  refine S_alen X 0 rfl dJ7_fill_53178_3 ?_
  refine S_istore_n X dJ7_fill_53178_4 rfl (nle rfl) ?_
  have lp5_0 : ∀ (N : Nat) (i : Int) (gv : Int → Int) (L : Nat → Option AV), 0 ≤ i ∧ i ≤ (n9 : Int) → (∀ j, 0 ≤ j → j < i → gv j = x) → L 0 = some (rv a9) → L 1 = some (iv x) → L 2 = some (iv i) → L 3 = some (iv (n9 : Int)) → (n9 : Int) + 1 - i < (N : Int) → S_ p l e (rmD 0 0 0) s m args below meth c (MQ below (QcV D G A Po) args s 0 0 A) D G A 4 0 0 5 L [] [(a9, ar n9 gv)] := by
    intro N
    induction N with
    | zero =>
      intro i gv L5 hi hk hL5_0 hL5_1 hL5_2 hL5_3 hN5
      exfalso; omega
    | succ N ih5 =>
      intro i gv L5 hi hk hL5_0 hL5_1 hL5_2 hL5_3 hN5
      refine S_iload_n X dJ7_fill_53178_5 rfl hL5_2 ?_
      refine S_iload_n X dJ7_fill_53178_6 rfl hL5_3 ?_
      refine S_icmp_ge (tgt := 20) X dJ7_fill_53178_7 (by decide) (by omega) (by omega) (fun c_1 => ?_) (fun c_1 => ?_)
      ·
        exact S_vret X (nle rfl) (nle rfl) dJ7_fill_53178_20 (hPo _ (⟨_, rfl, fun j h0 h1 => hk j h0 (by omega)⟩))
      ·
        refine S_aload_n X dJ7_fill_53178_10 rfl hL5_0 ?_
        refine S_iload_n X dJ7_fill_53178_11 rfl hL5_2 ?_
        refine S_iload_n X dJ7_fill_53178_12 rfl hL5_1 ?_
        refine S_iast X 0 rfl (by omega) (by omega) (by omega) dJ7_fill_53178_13 ?_
        refine S_w (ws' := [(a9, ar n9 (uZ gv i x))]) rfl ?_
        refine S_iinc X dJ7_fill_53178_14 (nle rfl) hL5_2 ?_
        refine S_goto (tgt := 5) X dJ7_fill_53178_17 (by decide) ?_
        exact ih5 (i + 1) (uZ gv i x) _ (by omega) (fun j h0 h1 => (by omega : j < i ∨ j = i).elim (fun q9 => by rw [uZ_ne (by omega)]; exact hk j h0 q9) (fun q9 => by rw [q9]; exact uZ_at)) hL5_0 hL5_1 rfl hL5_3 (by omega)
  exact lp5_0 (Int.toNat ((n9 : Int) + 1 - 0) + 1) 0 g9 _ (by omega) (fun j h0 h1 => by omega) rfl rfl rfl rfl (by omega)
set_option maxHeartbeats 4000000 in
set_option maxRecDepth 100000 in
theorem kX6_isMarked (l : Launch) (fS : Nat → AV) (mk : Int) (oS : Nat) (b : Int) (hf0 : fS 3 = iv mk) : AMi l yX6_isMarked cX6_isMarked 2 .boolean 0 0 0 [rv oS, iv b] [(oS, ob 5 fS)] (fun z u => (z = 0 ∧ u = [(oS, ob 5 fS)] ∧ zMk mk b = false) ∨ (z = 1 ∧ u = [(oS, ob 5 fS)] ∧ zMk mk b = true)) := by
  refine AMi.of2 rfl (nle rfl) ?_
  intro D G A p e s m args below meth c Po hPo X
  refine S_aload_n X dX6_isMarked_0 rfl rfl ?_
  refine S_get X fgX6_34_5 0 rfl hf0 dX6_isMarked_1 ?_
  refine S_iload_n X dX6_isMarked_4 rfl rfl ?_
  refine S_ishr X dX6_isMarked_5 ?_
  refine S_iconst X dX6_isMarked_6 ?_
  refine S_iand X dX6_isMarked_7 ?_
  have hr := zAnd_r (zShr mk b) 1
  have hz := zAnd1 (zShr mk b)
  refine S_if_eq (tgt := 15) X dX6_isMarked_8 (by decide) (by omega) (fun c_1 => ?_) (fun c_1 => ?_)
  ·
    refine S_iconst X dX6_isMarked_15 ?_
    exact S_zret X (Or.inl rfl) (nle rfl) (nle rfl) dX6_isMarked_16 (hPo _ _ (Or.inl ⟨rfl, rfl, zMk_0 (by omega)⟩))
  ·
    refine S_iconst X dX6_isMarked_11 ?_
    refine S_goto (tgt := 16) X dX6_isMarked_12 (by decide) ?_
    exact S_zret X (Or.inr rfl) (nle rfl) (nle rfl) dX6_isMarked_16 (hPo _ _ (Or.inr ⟨rfl, rfl, zMk_1 (by omega)⟩))
set_option maxHeartbeats 4000000 in
set_option maxRecDepth 100000 in
theorem kX4_open (l : Launch) (fP : Nat → AV) (fS : Nat → AV) (pl : Int) (n : Int) (mk : Int) (oP : Nat) (oS : Nat) (aA : Nat) (aW : Nat) (aB : Nat) (Ab : Int → Int) (Wq : Int → Int) (B : Int → Int) (p0 : Int) (n0 : Int) (k0 : Int) (hf0 : fP 0 = rv aA) (hf1 : fP 2 = rv aW) (hf2 : fS 0 = iv pl) (hf3 : fS 1 = iv n) (hf4 : fS 3 = iv mk) (hf5 : fS 4 = rv aB) : AMv l yX4_open cX4_open 3 0 0 0 [rv oP, rv oS] [(oP, ob 4 (uF (uF (uF fP 6 (iv p0)) 7 (iv n0)) 8 (iv k0))), (aA, ar 1206 Ab), (aW, ar 6 Wq), (oS, ob 5 fS), (aB, ar 6 B)] (fun u => ∃ A2 : Int → Int, ∃ W2 : Int → Int, u = [(oP, ob 4 (uF (uF (uF fP 6 (iv pl)) 7 (iv n)) 8 (iv mk))), (aA, ar 1206 A2), (aW, ar 6 W2), (oS, ob 5 fS), (aB, ar 6 B)] ∧ (∀ x, 0 ≤ x → x < 6 → A2 x = B x) ∧ (∀ x, 0 ≤ x → x < 6 → W2 x = 0)) := by
  refine AMv.of2 rfl (nle rfl) ?_
  intro D G A p e s m args below meth c Po hPo hnm X
  refine S_aload_n X dX4_open_0 rfl rfl ?_
  refine S_aload_n X dX4_open_1 rfl rfl ?_
  refine S_get X fgX4_46_5 3 rfl hf2 dX4_open_2 ?_
  refine S_put X fpX4_51_4 0 rfl FT_i dX4_open_5 ?_
  refine S_w (ws' := [(oP, ob 4 (uF (uF (uF fP 6 (iv pl)) 7 (iv n0)) 8 (iv k0))), (aA, ar 1206 Ab), (aW, ar 6 Wq), (oS, ob 5 fS), (aB, ar 6 B)]) (by simp only [List.set]; rw [uF_mv (j := 8) (k := 6) (by decide), uF_mv (j := 7) (k := 6) (by decide), uF_same (k := 6)]) ?_
  refine S_aload_n X dX4_open_8 rfl rfl ?_
  refine S_aload_n X dX4_open_9 rfl rfl ?_
  refine S_get X fgX4_52_5 3 rfl hf3 dX4_open_10 ?_
  refine S_put X fpX4_28_4 0 rfl FT_i dX4_open_13 ?_
  refine S_w (ws' := [(oP, ob 4 (uF (uF (uF fP 6 (iv pl)) 7 (iv n)) 8 (iv k0))), (aA, ar 1206 Ab), (aW, ar 6 Wq), (oS, ob 5 fS), (aB, ar 6 B)]) (by simp only [List.set]; rw [uF_mv (j := 8) (k := 7) (by decide), uF_same (k := 7)]) ?_
  refine S_aload_n X dX4_open_16 rfl rfl ?_
  refine S_aload_n X dX4_open_17 rfl rfl ?_
  refine S_get X fgX4_53_5 3 rfl hf4 dX4_open_18 ?_
  refine S_put X fpX4_56_4 0 rfl FT_i dX4_open_21 ?_
  refine S_w (ws' := [(oP, ob 4 (uF (uF (uF fP 6 (iv pl)) 7 (iv n)) 8 (iv mk))), (aA, ar 1206 Ab), (aW, ar 6 Wq), (oS, ob 5 fS), (aB, ar 6 B)]) (by simp only [List.set]; rw [uF_same (k := 8)]) ?_
  refine S_iconst X dX4_open_24 ?_
  refine S_istore_n X dX4_open_25 rfl (nle rfl) ?_
  have lp26_0 : ∀ (N : Nat) (i : Int) (Av : Int → Int) (Wv : Int → Int) (L : Nat → Option AV), 0 ≤ i ∧ i ≤ 6 → (∀ x, 0 ≤ x → x < i → Av x = B x) → (∀ x, 0 ≤ x → x < i → Wv x = 0) → L 0 = some (rv oP) → L 1 = some (rv oS) → L 2 = some (iv i) → 7 - i < (N : Int) → S_ p l e (rmD 0 0 0) s m args below meth c (MQ below (QcV D G A Po) args s 0 0 A) D G A 3 0 0 26 L [] [(oP, ob 4 (uF (uF (uF fP 6 (iv pl)) 7 (iv n)) 8 (iv mk))), (aA, ar 1206 Av), (aW, ar 6 Wv), (oS, ob 5 fS), (aB, ar 6 B)] := by
    intro N
    induction N with
    | zero =>
      intro i Av Wv L26 hi hk hk2 hL26_0 hL26_1 hL26_2 hN26
      exfalso; omega
    | succ N ih26 =>
      intro i Av Wv L26 hi hk hk2 hL26_0 hL26_1 hL26_2 hN26
      refine S_iload_n X dX4_open_26 rfl hL26_2 ?_
      refine S_bipush X dX4_open_27 rfl ?_
      refine S_icmp_ge (tgt := 57) X dX4_open_29 (by decide) (by omega) (by decide) (fun c_1 => ?_) (fun c_1 => ?_)
      ·
        exact S_vret X (nle rfl) (nle rfl) dX4_open_57 (hPo _ (⟨_, _, rfl, fun x h0 h1 => hk x h0 (by omega), fun x h0 h1 => hk2 x h0 (by omega)⟩))
      ·
        refine S_aload_n X dX4_open_32 rfl hL26_0 ?_
        refine S_get X fgX4_11_4 0 rfl hf0 dX4_open_33 ?_
        refine S_iload_n X dX4_open_36 rfl hL26_2 ?_
        refine S_aload_n X dX4_open_37 rfl hL26_1 ?_
        refine S_get X fgX4_57_5 3 rfl hf5 dX4_open_38 ?_
        refine S_iload_n X dX4_open_41 rfl hL26_2 ?_
        refine S_iald X 4 rfl (by omega) (by omega) (nle rfl) dX4_open_42 ?_
        refine S_iast X 1 rfl (by omega) (by omega) (nle rfl) dX4_open_43 ?_
        refine S_w (ws' := [(oP, ob 4 (uF (uF (uF fP 6 (iv pl)) 7 (iv n)) 8 (iv mk))), (aA, ar 1206 (uZ Av i (B i))), (aW, ar 6 Wv), (oS, ob 5 fS), (aB, ar 6 B)]) rfl ?_
        refine S_aload_n X dX4_open_44 rfl hL26_0 ?_
        refine S_get X fgX4_18_4 0 rfl hf1 dX4_open_45 ?_
        refine S_iload_n X dX4_open_48 rfl hL26_2 ?_
        refine S_iconst X dX4_open_49 ?_
        refine S_iast X 2 rfl (by omega) (by omega) (nle rfl) dX4_open_50 ?_
        refine S_w (ws' := [(oP, ob 4 (uF (uF (uF fP 6 (iv pl)) 7 (iv n)) 8 (iv mk))), (aA, ar 1206 (uZ Av i (B i))), (aW, ar 6 (uZ Wv i 0)), (oS, ob 5 fS), (aB, ar 6 B)]) rfl ?_
        refine S_iinc X dX4_open_51 (nle rfl) hL26_2 ?_
        refine S_goto (tgt := 26) X dX4_open_54 (by decide) ?_
        exact ih26 (i + 1) (uZ Av i (B i)) (uZ Wv i 0) _ (by omega) (fun x h0 h1 => (by omega : x < i ∨ x = i).elim (fun q9 => by rw [uZ_ne (by omega)]; exact hk x h0 q9) (fun q9 => by rw [q9]; exact uZ_at)) (fun x h0 h1 => (by omega : x < i ∨ x = i).elim (fun q9 => by rw [uZ_ne (by omega)]; exact hk2 x h0 q9) (fun q9 => by rw [q9]; exact uZ_at)) hL26_0 hL26_1 rfl (by omega)
  exact lp26_0 (Int.toNat (7 - 0) + 1) 0 Ab Wq _ (by omega) (fun x h0 h1 => by omega) (fun x h0 h1 => by omega) rfl rfl rfl (by omega)
set_option maxHeartbeats 4000000 in
set_option maxRecDepth 100000 in
theorem kX4_goOn (l : Launch) (fP : Nat → AV) (fS : Nat → AV) (pl : Int) (n : Int) (ec : Int) (oP : Nat) (oS : Nat) (aA : Nat) (aF : Nat) (aH : Nat) (Ab : Int → Int) (B : Int → Int) (Fo : Int → Int) (Ho : Int → Int) (Lt : Int → Int) (b : Int) (hf0 : fP 0 = rv aA) (hf1 : fP 6 = iv pl) (hf2 : fS 2 = iv ec) (hf3 : fS 5 = rv aF) (hf4 : fS 6 = rv aH) (hok : okS pl n ec Fo Ho B Lt) (hb : 1 ≤ b ∧ b ≤ 200) (hr : reg Ab (bF ec Fo Ho B) pl b 0) : AMv l yX4_goOn cX4_goOn 9 1 0 0 [rv oP, rv oS, iv b] [(oP, ob 4 fP), (aA, ar 1206 Ab), (oS, ob 5 fS), (aF, ar 6 Fo), (aH, ar 6 Ho)] (fun u => ∃ A2 : Int → Int, u = [(oP, ob 4 fP), (aA, ar 1206 A2), (oS, ob 5 fS), (aF, ar 6 Fo), (aH, ar 6 Ho)] ∧ reg A2 (bF ec Fo Ho B) pl (b + 1) 0) := by
  refine AMv.of2 rfl (nle rfl) ?_
  intro D G A p e s m args below meth c Po hPo hnm X
  have hpl := hok.2.1
  have hpl1 := hok.1
  have hn1 := hok.2.2.1
  have hn2 := hok.2.2.2.1
  have hec := hok.2.2.2.2
  refine S_iload_n X dX4_goOn_0 rfl rfl ?_
  refine S_bipush X dX4_goOn_1 rfl ?_
  refine S_imul X dX4_goOn_3 ?_
  refine S_istore_n X dX4_goOn_4 rfl (nle rfl) ?_
  refine S_iload_n X dX4_goOn_5 rfl rfl ?_
  refine S_bipush X dX4_goOn_6 rfl ?_
  refine S_isub X dX4_goOn_8 ?_
  refine S_istore X dX4_goOn_9 (nle rfl) ?_
  refine S_iload_n X dX4_goOn_11 rfl rfl ?_
  refine S_iconst X dX4_goOn_12 ?_
  refine S_isub X dX4_goOn_13 ?_
  refine S_aload_n X dX4_goOn_14 rfl rfl ?_
  refine S_get X fgX4_58_5 2 rfl hf2 dX4_goOn_15 ?_
  refine S_isub X dX4_goOn_18 ?_
  refine S_iconst X dX4_goOn_19 ?_
  refine S_mmax X lkX4_40 rfl rfl (by omega) (by decide) (nle rfl) (nle rfl) (nle rfl) (nle rfl) dX4_goOn_20 ?_
  refine S_bipush X dX4_goOn_23 rfl ?_
  refine S_imul X dX4_goOn_25 ?_
  refine S_istore X dX4_goOn_26 (nle rfl) ?_
  refine S_iconst X dX4_goOn_28 ?_
  refine S_istore X dX4_goOn_29 (nle rfl) ?_
  have lp31_0 : ∀ (N : Nat) (i : Int) (Aw : Int → Int) (L : Nat → Option AV), 0 ≤ i ∧ i ≤ pl → reg Aw (bF ec Fo Ho B) pl b i → L 0 = some (rv oP) → L 1 = some (rv oS) → L 2 = some (iv b) → L 3 = some (iv (b * 6)) → L 4 = some (iv ((b * 6) - 6)) → L 5 = some (iv ((max ((b - 1) - ec) 0) * 6)) → L 6 = some (iv i) → pl + 1 - i < (N : Int) → S_ p l e (rmD 1 0 0) s m args below meth c (MQ below (QcV D G A Po) args s 0 0 A) D G A 9 0 0 31 L [] [(oP, ob 4 fP), (aA, ar 1206 Aw), (oS, ob 5 fS), (aF, ar 6 Fo), (aH, ar 6 Ho)] := by
    intro N
    induction N with
    | zero =>
      intro i Aw L31 hi hreg hL31_0 hL31_1 hL31_2 hL31_3 hL31_4 hL31_5 hL31_6 hN31
      exfalso; omega
    | succ N ih31 =>
      intro i Aw L31 hi hreg hL31_0 hL31_1 hL31_2 hL31_3 hL31_4 hL31_5 hL31_6 hN31
      refine S_iload X dX4_goOn_31 hL31_6 ?_
      refine S_aload_n X dX4_goOn_33 rfl hL31_0 ?_
      refine S_get X fgX4_51_4 0 rfl hf1 dX4_goOn_34 ?_
      refine S_icmp_ge (tgt := 126) X dX4_goOn_37 (by decide) (by omega) (by omega) (fun c_1 => ?_) (fun c_1 => ?_)
      ·
        exact S_vret X (nle rfl) (nle rfl) dX4_goOn_126 (hPo _ (⟨_, rfl, hreg.next (by omega)⟩))
      ·
        have hA1 := hreg.at (z := b * 6 - 6 + i) (x := b - 1) (y := i) (by omega) (by omega) (by omega) (by omega) (by omega)
        have hB1 := hok.beat (b - 1) i (by omega) (by omega) (by omega)
        have hcl := hok.2.2.2.2.2.2 i (by omega) (by omega)
        refine S_aload_n X dX4_goOn_40 rfl hL31_0 ?_
        refine S_get X fgX4_11_4 0 rfl hf0 dX4_goOn_41 ?_
        refine S_iload X dX4_goOn_44 hL31_4 ?_
        refine S_iload X dX4_goOn_46 hL31_6 ?_
        refine S_iadd X dX4_goOn_48 ?_
        refine S_iald X 1 rfl (by omega) (by omega) (nle rfl) dX4_goOn_49 ?_
        refine S_istore X dX4_goOn_50 (nle rfl) ?_
        refine S_aload_n X dX4_goOn_52 rfl hL31_1 ?_
        refine S_get X fgX4_61_5 2 rfl hf3 dX4_goOn_53 ?_
        refine S_iload X dX4_goOn_56 hL31_6 ?_
        refine S_iald X 3 rfl (by omega) (by omega) (nle rfl) dX4_goOn_58 ?_
        refine S_istore X dX4_goOn_59 (nle rfl) ?_
        refine S_iload X dX4_goOn_61 rfl ?_
        refine S_if_lt (tgt := 109) X dX4_goOn_63 (by decide) (by omega) (fun c_2 => ?_) (fun c_2 => ?_)
        ·
          refine S_aload_n X dX4_goOn_109 rfl hL31_0 ?_
          refine S_get X fgX4_11_4 0 rfl hf0 dX4_goOn_110 ?_
          refine S_iload_n X dX4_goOn_113 rfl hL31_3 ?_
          refine S_iload X dX4_goOn_114 hL31_6 ?_
          refine S_iadd X dX4_goOn_116 ?_
          refine S_iload X dX4_goOn_117 rfl ?_
          refine S_iast X 1 rfl (by omega) (by omega) (nle rfl) dX4_goOn_119 ?_
          refine S_w (ws' := [(oP, ob 4 fP), (aA, ar 1206 (uZ Aw ((b * 6) + i) (Aw (((b * 6) - 6) + i)))), (oS, ob 5 fS), (aF, ar 6 Fo), (aH, ar 6 Ho)]) rfl ?_
          refine S_iinc X dX4_goOn_120 (nle rfl) hL31_6 ?_
          refine S_goto (tgt := 31) X dX4_goOn_123 (by decide) ?_
          exact ih31 (i + 1) (uZ Aw ((b * 6) + i) (Aw (((b * 6) - 6) + i))) _ (by omega) (hreg.put (by omega) (by omega) (by omega) (by omega) (by omega) (by rw [bF_P (by omega) (by omega)]; unfold nxB; rw [if_pos (by omega), hA1])) hL31_0 hL31_1 hL31_2 hL31_3 hL31_4 hL31_5 rfl (by omega)
        ·
          refine S_iload X dX4_goOn_66 rfl ?_
          refine S_bipush X dX4_goOn_68 rfl ?_
          refine S_icmp_ge (tgt := 109) X dX4_goOn_70 (by decide) (by omega) (by decide) (fun c_3 => by exfalso; omega) (fun c_3 => ?_)
          have hA2 := hreg.at (z := max (b - 1 - ec) 0 * 6 + Fo i) (x := max 0 (b - 1 - ec)) (y := Fo i) (by omega) (by omega) (by omega) (by omega) (by omega)
          have hB2 := hok.beat (max 0 (b - 1 - ec)) (Fo i) (by omega) (by omega) (by omega)
          have hm := mulr (h := Ho i) (d := Aw (max (b - 1 - ec) 0 * 6 + Fo i) - Aw (b * 6 - 6 + i)) (by omega) (by omega)
          have hm2 := tdiv10 hm
          refine S_iload X dX4_goOn_73 rfl ?_
          refine S_aload_n X dX4_goOn_75 rfl hL31_1 ?_
          refine S_get X fgX4_64_5 2 rfl hf4 dX4_goOn_76 ?_
          refine S_iload X dX4_goOn_79 hL31_6 ?_
          refine S_iald X 4 rfl (by omega) (by omega) (nle rfl) dX4_goOn_81 ?_
          refine S_aload_n X dX4_goOn_82 rfl hL31_0 ?_
          refine S_get X fgX4_11_4 0 rfl hf0 dX4_goOn_83 ?_
          refine S_iload X dX4_goOn_86 hL31_5 ?_
          refine S_iload X dX4_goOn_88 rfl ?_
          refine S_iadd X dX4_goOn_90 ?_
          refine S_iald X 1 rfl (by omega) (by omega) (nle rfl) dX4_goOn_91 ?_
          refine S_iload X dX4_goOn_92 rfl ?_
          refine S_isub X dX4_goOn_94 ?_
          refine S_imul X dX4_goOn_95 ?_
          refine S_bipush X dX4_goOn_96 rfl ?_
          refine S_idiv X (by omega) (by decide) (by decide) dX4_goOn_98 ?_
          refine S_iadd X dX4_goOn_99 ?_
          refine S_iconst X dX4_goOn_100 ?_
          refine S_sipush X dX4_goOn_101 rfl ?_
          refine S_calli X (kX11_held l ((Aw (((b * 6) - 6) + i)) + (((Ho i) * ((Aw (((max ((b - 1) - ec) 0) * 6) + (Fo i))) - (Aw (((b * 6) - 6) + i)))).tdiv 10)) 1 199 (by omega) (by omega) (by omega) (by omega)) (is := []) rfl (run_SN X lkX4_67 (is := []) (avs := [iv ((Aw (((b * 6) - 6) + i)) + (((Ho i) * ((Aw (((max ((b - 1) - ec) 0) * 6) + (Fo i))) - (Aw (((b * 6) - 6) + i)))).tdiv 10)), iv 1, iv 199]) (rest := []) rfl rfl (nle rfl) ⟨nle rfl, nle rfl⟩ ⟨nle rfl, nle rfl⟩ dX4_goOn_104 (by decide) rfl) (fun z_6 u_4 hp_5 => ?_)
          obtain ⟨hz_7, hu_8⟩ := hp_5
          subst hz_7
          subst hu_8
          refine ⟨rfl, ?_⟩
          refine S_w (ws' := [(oP, ob 4 fP), (aA, ar 1206 Aw), (oS, ob 5 fS), (aF, ar 6 Fo), (aH, ar 6 Ho)]) rfl ?_
          refine S_istore X dX4_goOn_107 (nle rfl) ?_
          refine S_aload_n X dX4_goOn_109 rfl hL31_0 ?_
          refine S_get X fgX4_11_4 0 rfl hf0 dX4_goOn_110 ?_
          refine S_iload_n X dX4_goOn_113 rfl hL31_3 ?_
          refine S_iload X dX4_goOn_114 hL31_6 ?_
          refine S_iadd X dX4_goOn_116 ?_
          refine S_iload X dX4_goOn_117 rfl ?_
          refine S_iast X 1 rfl (by omega) (by omega) (nle rfl) dX4_goOn_119 ?_
          refine S_w (ws' := [(oP, ob 4 fP), (aA, ar 1206 (uZ Aw ((b * 6) + i) (max 1 (min 199 ((Aw (((b * 6) - 6) + i)) + (((Ho i) * ((Aw (((max ((b - 1) - ec) 0) * 6) + (Fo i))) - (Aw (((b * 6) - 6) + i)))).tdiv 10)))))), (oS, ob 5 fS), (aF, ar 6 Fo), (aH, ar 6 Ho)]) rfl ?_
          refine S_iinc X dX4_goOn_120 (nle rfl) hL31_6 ?_
          refine S_goto (tgt := 31) X dX4_goOn_123 (by decide) ?_
          exact ih31 (i + 1) (uZ Aw ((b * 6) + i) (max 1 (min 199 ((Aw (((b * 6) - 6) + i)) + (((Ho i) * ((Aw (((max ((b - 1) - ec) 0) * 6) + (Fo i))) - (Aw (((b * 6) - 6) + i)))).tdiv 10))))) _ (by omega) (hreg.put (by omega) (by omega) (by omega) (by omega) (by omega) (by rw [bF_P (by omega) (by omega)]; unfold nxB; rw [if_neg (by omega), hA1, hA2])) hL31_0 hL31_1 hL31_2 hL31_3 hL31_4 hL31_5 rfl (by omega)
  exact lp31_0 (Int.toNat (pl + 1 - 0) + 1) 0 Ab _ (by omega) (hr) rfl rfl rfl rfl rfl rfl rfl (by omega)
set_option maxHeartbeats 4000000 in
set_option maxRecDepth 100000 in
theorem kX4_playBar (l : Launch) (fP : Nat → AV) (fS : Nat → AV) (pl : Int) (n : Int) (ec : Int) (mk : Int) (oP : Nat) (oS : Nat) (aA : Nat) (aT : Nat) (aW : Nat) (aS : Nat) (aL : Nat) (Ab : Int → Int) (Tm : Int → Int) (Wq : Int → Int) (Sp : Int → Int) (B : Int → Int) (Fo : Int → Int) (Ho : Int → Int) (Lt : Int → Int) (b : Int) (hf0 : fP 0 = rv aA) (hf1 : fP 1 = rv aT) (hf2 : fP 2 = rv aW) (hf3 : fP 3 = rv aS) (hf4 : fP 6 = iv pl) (hf5 : fS 3 = iv mk) (hf6 : fS 7 = rv aL) (hok : okS pl n ec Fo Ho B Lt) (hb : 0 ≤ b ∧ b < n) (hr : reg Ab (bF ec Fo Ho B) pl (b + 1) 0) (hT : reg Tm (tS pl ec mk Fo Ho B Lt) pl b 0) (hWq : ∀ x, 0 ≤ x → x < pl → Wq x = (if b = 0 then 0 else (wS pl ec mk Fo Ho B Lt) (b - 1) x)) : AMi l yX4_playBar cX4_playBar 8 .int 1 0 0 [rv oP, rv oS, iv b] [(oP, ob 4 fP), (aA, ar 1206 Ab), (aT, ar 180 Tm), (aW, ar 6 Wq), (aS, ar 30 Sp), (oS, ob 5 fS), (aL, ar 6 Lt)] (fun z u => ∃ T2 : Int → Int, ∃ W2 : Int → Int, z = sS pl ec mk Fo Ho B Lt b ∧ u = [(oP, ob 4 fP), (aA, ar 1206 Ab), (aT, ar 180 T2), (aW, ar 6 W2), (aS, ar 30 (uZ Sp b (sS pl ec mk Fo Ho B Lt b))), (oS, ob 5 fS), (aL, ar 6 Lt)] ∧ reg T2 (tS pl ec mk Fo Ho B Lt) pl (b + 1) 0 ∧ (∀ x, 0 ≤ x → x < pl → W2 x = (wS pl ec mk Fo Ho B Lt) b x)) := by
  refine AMi.of2 rfl (nle rfl) ?_
  intro D G A p e s m args below meth c Po hPo X
  have hpl := hok.2.1
  have hpl1 := hok.1
  have hn1 := hok.2.2.1
  have hn2 := hok.2.2.2.1
  have hec := hok.2.2.2.2
  refine S_iload_n X dX4_playBar_0 rfl rfl ?_
  refine S_bipush X dX4_playBar_1 rfl ?_
  refine S_imul X dX4_playBar_3 ?_
  refine S_istore_n X dX4_playBar_4 rfl (nle rfl) ?_
  refine S_iconst X dX4_playBar_5 ?_
  refine S_istore X dX4_playBar_6 (nle rfl) ?_
  refine S_ldc (n := 1000000000) X m834 dX4_playBar_8 ?_
  refine S_istore X dX4_playBar_10 (nle rfl) ?_
  refine S_iconst X dX4_playBar_12 ?_
  refine S_istore X dX4_playBar_13 (nle rfl) ?_
  have lp15_0 : ∀ (N : Nat) (i : Int) (gr : Int) (le : Int) (Tv : Int → Int) (Wv : Int → Int) (L : Nat → Option AV), 0 ≤ i ∧ i ≤ pl → reg Tv (tS pl ec mk Fo Ho B Lt) pl b i → gr = mxI ((tS pl ec mk Fo Ho B Lt) b) i → le = mnI ((tS pl ec mk Fo Ho B Lt) b) i → (∀ x, 0 ≤ x → x < i → Wv x = (tS pl ec mk Fo Ho B Lt) b x) → (∀ x, i ≤ x → x < pl → Wv x = (if b = 0 then 0 else (wS pl ec mk Fo Ho B Lt) (b - 1) x)) → L 0 = some (rv oP) → L 1 = some (rv oS) → L 2 = some (iv b) → L 3 = some (iv (b * 6)) → L 4 = some (iv gr) → L 5 = some (iv le) → L 6 = some (iv i) → pl + 1 - i < (N : Int) → S_ p l e (rmD 1 0 0) s m args below meth c (MQ below (QcI D G A Po) args s 0 0 A) D G A 8 0 0 15 L [] [(oP, ob 4 fP), (aA, ar 1206 Ab), (aT, ar 180 Tv), (aW, ar 6 Wv), (aS, ar 30 Sp), (oS, ob 5 fS), (aL, ar 6 Lt)] := by
    intro N
    induction N with
    | zero =>
      intro i gr le Tv Wv L15 hi hT15 hgr hle hw1 hw2 hL15_0 hL15_1 hL15_2 hL15_3 hL15_4 hL15_5 hL15_6 hN15
      exfalso; omega
    | succ N ih15 =>
      intro i gr le Tv Wv L15 hi hT15 hgr hle hw1 hw2 hL15_0 hL15_1 hL15_2 hL15_3 hL15_4 hL15_5 hL15_6 hN15
      refine S_iload X dX4_playBar_15 hL15_6 ?_
      refine S_aload_n X dX4_playBar_17 rfl hL15_0 ?_
      refine S_get X fgX4_51_4 0 rfl hf4 dX4_playBar_18 ?_
      refine S_icmp_ge (tgt := 109) X dX4_playBar_21 (by decide) (by omega) (by omega) (fun c_1 => ?_) (fun c_1 => ?_)
      ·
        have hgr2 : gr = mxI ((tS pl ec mk Fo Ho B Lt) b) pl := by rw [hgr]; congr 1; omega
        have hle2 : le = mnI ((tS pl ec mk Fo Ho B Lt) b) pl := by rw [hle]; congr 1; omega
        have hsp : gr - le = sS pl ec mk Fo Ho B Lt b := by rw [hgr2, hle2]; rfl
        refine S_aload_n X dX4_playBar_109 rfl hL15_1 ?_
        refine S_iload_n X dX4_playBar_110 rfl hL15_2 ?_
        refine S_calli X (kX6_isMarked l fS mk oS b hf5) (is := [5]) rfl (run_V X lkX4_75 5 rfl rfl (is := [5]) (avs := [iv b]) (rest := []) rfl rfl (nle rfl) ⟨nle rfl, nle rfl⟩ ⟨nle rfl, nle rfl⟩ dX4_playBar_111 (by decide) rfl) (fun z_4 u_2 hp_3 => ?_)
        rcases hp_3 with ⟨hz_5, hu_6, hq_7⟩ | ⟨hz_8, hu_9, hq_10⟩
        ·
          subst hz_5
          subst hu_6
          refine ⟨rfl, ?_⟩
          refine S_w (ws' := [(oP, ob 4 fP), (aA, ar 1206 Ab), (aT, ar 180 Tv), (aW, ar 6 Wv), (aS, ar 30 Sp), (oS, ob 5 fS), (aL, ar 6 Lt)]) rfl ?_
          refine S_if_eq (tgt := 126) X dX4_playBar_114 (by decide) (by decide) (fun _ => ?_) (fun h9 => absurd h9 (by decide))
          refine S_aload_n X dX4_playBar_126 rfl hL15_0 ?_
          refine S_get X fgX4_21_4 0 rfl hf3 dX4_playBar_127 ?_
          refine S_iload_n X dX4_playBar_130 rfl hL15_2 ?_
          refine S_iload X dX4_playBar_131 hL15_4 ?_
          refine S_iload X dX4_playBar_133 hL15_5 ?_
          refine S_isub X dX4_playBar_135 ?_
          refine S_iast X 4 rfl (by omega) (by omega) (nle rfl) dX4_playBar_136 ?_
          refine S_w (ws' := [(oP, ob 4 fP), (aA, ar 1206 Ab), (aT, ar 180 Tv), (aW, ar 6 Wv), (aS, ar 30 (uZ Sp b (gr - le))), (oS, ob 5 fS), (aL, ar 6 Lt)]) rfl ?_
          refine S_iload X dX4_playBar_137 hL15_4 ?_
          refine S_iload X dX4_playBar_139 hL15_5 ?_
          refine S_isub X dX4_playBar_141 ?_
          exact S_iret X (nle rfl) (nle rfl) dX4_playBar_142 (hPo _ _ (⟨_, _, hsp, by rw [hsp], hT15.next (by omega), fun x h0 h1 => (hw1 x h0 (by omega)).trans (wF_0 hq_7).symm⟩))
        ·
          subst hz_8
          subst hu_9
          refine ⟨rfl, ?_⟩
          refine S_w (ws' := [(oP, ob 4 fP), (aA, ar 1206 Ab), (aT, ar 180 Tv), (aW, ar 6 Wv), (aS, ar 30 Sp), (oS, ob 5 fS), (aL, ar 6 Lt)]) rfl ?_
          refine S_if_eq (tgt := 126) X dX4_playBar_114 (by decide) (by decide) (fun h9 => absurd h9 (by decide)) (fun _ => ?_)
          refine S_aload_n X dX4_playBar_117 rfl hL15_0 ?_
          refine S_get X fgX4_18_4 0 rfl hf2 dX4_playBar_118 ?_
          refine S_iload X dX4_playBar_121 hL15_4 ?_
          refine S_callv X (kJ7_fill_53178 l aW 6 Wv gr (by omega)) (is := [3]) rfl (run_S X lkX4_79 (is := [3]) (avs := [rv aW, iv gr]) (rest := []) rfl rfl (nle rfl) ⟨nle rfl, nle rfl⟩ ⟨nle rfl, nle rfl⟩ dX4_playBar_123 (by decide) rfl) (fun u_13 hp_14 => ?_)
          obtain ⟨g2_16, hu_18, hg2_19⟩ := hp_14
          subst hu_18
          refine ⟨rfl, ?_⟩
          refine S_w (ws' := [(oP, ob 4 fP), (aA, ar 1206 Ab), (aT, ar 180 Tv), (aW, ar 6 g2_16), (aS, ar 30 Sp), (oS, ob 5 fS), (aL, ar 6 Lt)]) rfl ?_
          refine S_aload_n X dX4_playBar_126 rfl hL15_0 ?_
          refine S_get X fgX4_21_4 0 rfl hf3 dX4_playBar_127 ?_
          refine S_iload_n X dX4_playBar_130 rfl hL15_2 ?_
          refine S_iload X dX4_playBar_131 hL15_4 ?_
          refine S_iload X dX4_playBar_133 hL15_5 ?_
          refine S_isub X dX4_playBar_135 ?_
          refine S_iast X 4 rfl (by omega) (by omega) (nle rfl) dX4_playBar_136 ?_
          refine S_w (ws' := [(oP, ob 4 fP), (aA, ar 1206 Ab), (aT, ar 180 Tv), (aW, ar 6 g2_16), (aS, ar 30 (uZ Sp b (gr - le))), (oS, ob 5 fS), (aL, ar 6 Lt)]) rfl ?_
          refine S_iload X dX4_playBar_137 hL15_4 ?_
          refine S_iload X dX4_playBar_139 hL15_5 ?_
          refine S_isub X dX4_playBar_141 ?_
          exact S_iret X (nle rfl) (nle rfl) dX4_playBar_142 (hPo _ _ (⟨_, _, hsp, by rw [hsp], hT15.next (by omega), fun x h0 h1 => (hg2_19 x h0 (by omega)).trans (by rw [hgr2]; exact (wF_1 hq_10).symm)⟩))
      ·
        have hA1 := hr.at (z := b * 6 + i) (x := b) (y := i) (by omega) (by omega) (by omega) (by omega) (by omega)
        have hB1 := hok.beat b i (by omega) (by omega) (by omega)
        have hL1 := (hok.2.2.2.2.2.2 i (by omega) (by omega)).2.2.2
        have hWi := hw2 i (by omega) (by omega)
        have htv : Wv i + Ab (b * 6 + i) + Lt i = (tS pl ec mk Fo Ho B Lt) b i := pb_t (by omega) hWi hA1
        have htr := hok.time (mk := mk) b i (by omega) (by omega) (by omega)
        have h04 := mxI_le (g := (tS pl ec mk Fo Ho B Lt) b) (K := 7470) (by omega) i (by omega) (fun y y0 y1 => by have := (hok.time (mk := mk) b y (by omega) y0 (by omega)).2; omega)
        have h05 := (mxI_ge (g := (tS pl ec mk Fo Ho B Lt) b) i (by omega)).1
        have h06 := mnI_le (g := (tS pl ec mk Fo Ho B Lt) b) i (by omega)
        have h07 := mnI_ge (g := (tS pl ec mk Fo Ho B Lt) b) (K := 1) (by omega) i (by omega) (fun y y0 y1 => (hok.time (mk := mk) b y (by omega) y0 (by omega)).1)
        refine S_aload_n X dX4_playBar_24 rfl hL15_0 ?_
        refine S_get X fgX4_18_4 0 rfl hf2 dX4_playBar_25 ?_
        refine S_iload X dX4_playBar_28 hL15_6 ?_
        refine S_iald X 3 rfl (by omega) (by omega) (nle rfl) dX4_playBar_30 ?_
        refine S_aload_n X dX4_playBar_31 rfl hL15_0 ?_
        refine S_get X fgX4_11_4 0 rfl hf0 dX4_playBar_32 ?_
        refine S_iload_n X dX4_playBar_35 rfl hL15_3 ?_
        refine S_iload X dX4_playBar_36 hL15_6 ?_
        refine S_iadd X dX4_playBar_38 ?_
        refine S_iald X 1 rfl (by omega) (by omega) (nle rfl) dX4_playBar_39 ?_
        refine S_iadd X dX4_playBar_40 ?_
        refine S_aload_n X dX4_playBar_41 rfl hL15_1 ?_
        refine S_get X fgX4_72_5 5 rfl hf6 dX4_playBar_42 ?_
        refine S_iload X dX4_playBar_45 hL15_6 ?_
        refine S_iald X 6 rfl (by omega) (by omega) (nle rfl) dX4_playBar_47 ?_
        refine S_iadd X dX4_playBar_48 ?_
        refine S_istore X dX4_playBar_49 (nle rfl) ?_
        refine S_aload_n X dX4_playBar_51 rfl hL15_0 ?_
        refine S_get X fgX4_15_4 0 rfl hf1 dX4_playBar_52 ?_
        refine S_iload_n X dX4_playBar_55 rfl hL15_3 ?_
        refine S_iload X dX4_playBar_56 hL15_6 ?_
        refine S_iadd X dX4_playBar_58 ?_
        refine S_iload X dX4_playBar_59 rfl ?_
        refine S_iast X 2 rfl (by omega) (by omega) (nle rfl) dX4_playBar_61 ?_
        refine S_w (ws' := [(oP, ob 4 fP), (aA, ar 1206 Ab), (aT, ar 180 (uZ Tv ((b * 6) + i) (((Wv i) + (Ab ((b * 6) + i))) + (Lt i)))), (aW, ar 6 Wv), (aS, ar 30 Sp), (oS, ob 5 fS), (aL, ar 6 Lt)]) rfl ?_
        refine S_aload_n X dX4_playBar_62 rfl hL15_0 ?_
        refine S_get X fgX4_18_4 0 rfl hf2 dX4_playBar_63 ?_
        refine S_iload X dX4_playBar_66 hL15_6 ?_
        refine S_iload X dX4_playBar_68 rfl ?_
        refine S_iast X 3 rfl (by omega) (by omega) (nle rfl) dX4_playBar_70 ?_
        refine S_w (ws' := [(oP, ob 4 fP), (aA, ar 1206 Ab), (aT, ar 180 (uZ Tv ((b * 6) + i) (((Wv i) + (Ab ((b * 6) + i))) + (Lt i)))), (aW, ar 6 (uZ Wv i (((Wv i) + (Ab ((b * 6) + i))) + (Lt i)))), (aS, ar 30 Sp), (oS, ob 5 fS), (aL, ar 6 Lt)]) rfl ?_
        refine S_iload X dX4_playBar_71 rfl ?_
        refine S_iload X dX4_playBar_73 hL15_4 ?_
        refine S_icmp_le (tgt := 83) X dX4_playBar_75 (by decide) (by omega) (by omega) (fun c_20 => ?_) (fun c_20 => ?_)
        ·
          refine S_iload X dX4_playBar_83 hL15_4 ?_
          refine S_istore X dX4_playBar_85 (nle rfl) ?_
          refine S_iload X dX4_playBar_87 rfl ?_
          refine S_iload X dX4_playBar_89 hL15_5 ?_
          refine S_icmp_ge (tgt := 99) X dX4_playBar_91 (by decide) (by omega) (by omega) (fun c_21 => ?_) (fun c_21 => ?_)
          ·
            refine S_iload X dX4_playBar_99 hL15_5 ?_
            refine S_istore X dX4_playBar_101 (nle rfl) ?_
            refine S_iinc X dX4_playBar_103 (nle rfl) hL15_6 ?_
            refine S_goto (tgt := 15) X dX4_playBar_106 (by decide) ?_
            exact ih15 (i + 1) gr le (uZ Tv ((b * 6) + i) (((Wv i) + (Ab ((b * 6) + i))) + (Lt i))) (uZ Wv i (((Wv i) + (Ab ((b * 6) + i))) + (Lt i))) _ (by omega) (hT15.put (by omega) (by omega) (by omega) (by omega) (by omega) htv) (by rw [mxI_S (by omega), ← hgr, ← htv]; omega) (by rw [mnI_S (by omega), ← hle, ← htv]; omega) (fun x h0 h1 => (by omega : x < i ∨ x = i).elim (fun q9 => by rw [uZ_ne (by omega)]; exact hw1 x h0 q9) (fun q9 => by rw [q9, uZ_at]; exact htv)) (fun x h0 h1 => by rw [uZ_ne (by omega)]; exact hw2 x (by omega) h1) hL15_0 hL15_1 hL15_2 hL15_3 rfl rfl rfl (by omega)
          ·
            refine S_iload X dX4_playBar_94 rfl ?_
            refine S_goto (tgt := 101) X dX4_playBar_96 (by decide) ?_
            refine S_istore X dX4_playBar_101 (nle rfl) ?_
            refine S_iinc X dX4_playBar_103 (nle rfl) hL15_6 ?_
            refine S_goto (tgt := 15) X dX4_playBar_106 (by decide) ?_
            exact ih15 (i + 1) gr (((Wv i) + (Ab ((b * 6) + i))) + (Lt i)) (uZ Tv ((b * 6) + i) (((Wv i) + (Ab ((b * 6) + i))) + (Lt i))) (uZ Wv i (((Wv i) + (Ab ((b * 6) + i))) + (Lt i))) _ (by omega) (hT15.put (by omega) (by omega) (by omega) (by omega) (by omega) htv) (by rw [mxI_S (by omega), ← hgr, ← htv]; omega) (by rw [mnI_S (by omega), ← hle, ← htv]; omega) (fun x h0 h1 => (by omega : x < i ∨ x = i).elim (fun q9 => by rw [uZ_ne (by omega)]; exact hw1 x h0 q9) (fun q9 => by rw [q9, uZ_at]; exact htv)) (fun x h0 h1 => by rw [uZ_ne (by omega)]; exact hw2 x (by omega) h1) hL15_0 hL15_1 hL15_2 hL15_3 rfl rfl rfl (by omega)
        ·
          refine S_iload X dX4_playBar_78 rfl ?_
          refine S_goto (tgt := 85) X dX4_playBar_80 (by decide) ?_
          refine S_istore X dX4_playBar_85 (nle rfl) ?_
          refine S_iload X dX4_playBar_87 rfl ?_
          refine S_iload X dX4_playBar_89 hL15_5 ?_
          refine S_icmp_ge (tgt := 99) X dX4_playBar_91 (by decide) (by omega) (by omega) (fun c_22 => ?_) (fun c_22 => ?_)
          ·
            refine S_iload X dX4_playBar_99 hL15_5 ?_
            refine S_istore X dX4_playBar_101 (nle rfl) ?_
            refine S_iinc X dX4_playBar_103 (nle rfl) hL15_6 ?_
            refine S_goto (tgt := 15) X dX4_playBar_106 (by decide) ?_
            exact ih15 (i + 1) (((Wv i) + (Ab ((b * 6) + i))) + (Lt i)) le (uZ Tv ((b * 6) + i) (((Wv i) + (Ab ((b * 6) + i))) + (Lt i))) (uZ Wv i (((Wv i) + (Ab ((b * 6) + i))) + (Lt i))) _ (by omega) (hT15.put (by omega) (by omega) (by omega) (by omega) (by omega) htv) (by rw [mxI_S (by omega), ← hgr, ← htv]; omega) (by rw [mnI_S (by omega), ← hle, ← htv]; omega) (fun x h0 h1 => (by omega : x < i ∨ x = i).elim (fun q9 => by rw [uZ_ne (by omega)]; exact hw1 x h0 q9) (fun q9 => by rw [q9, uZ_at]; exact htv)) (fun x h0 h1 => by rw [uZ_ne (by omega)]; exact hw2 x (by omega) h1) hL15_0 hL15_1 hL15_2 hL15_3 rfl rfl rfl (by omega)
          ·
            refine S_iload X dX4_playBar_94 rfl ?_
            refine S_goto (tgt := 101) X dX4_playBar_96 (by decide) ?_
            refine S_istore X dX4_playBar_101 (nle rfl) ?_
            refine S_iinc X dX4_playBar_103 (nle rfl) hL15_6 ?_
            refine S_goto (tgt := 15) X dX4_playBar_106 (by decide) ?_
            exact ih15 (i + 1) (((Wv i) + (Ab ((b * 6) + i))) + (Lt i)) (((Wv i) + (Ab ((b * 6) + i))) + (Lt i)) (uZ Tv ((b * 6) + i) (((Wv i) + (Ab ((b * 6) + i))) + (Lt i))) (uZ Wv i (((Wv i) + (Ab ((b * 6) + i))) + (Lt i))) _ (by omega) (hT15.put (by omega) (by omega) (by omega) (by omega) (by omega) htv) (by rw [mxI_S (by omega), ← hgr, ← htv]; omega) (by rw [mnI_S (by omega), ← hle, ← htv]; omega) (fun x h0 h1 => (by omega : x < i ∨ x = i).elim (fun q9 => by rw [uZ_ne (by omega)]; exact hw1 x h0 q9) (fun q9 => by rw [q9, uZ_at]; exact htv)) (fun x h0 h1 => by rw [uZ_ne (by omega)]; exact hw2 x (by omega) h1) hL15_0 hL15_1 hL15_2 hL15_3 rfl rfl rfl (by omega)
  exact lp15_0 (Int.toNat (pl + 1 - 0) + 1) 0 0 1000000000 Tm Wq _ (by omega) (hT) (rfl) (rfl) (fun x h0 h1 => by omega) (fun x h0 h1 => hWq x h0 h1) rfl rfl rfl rfl rfl rfl rfl (by omega)
set_option maxHeartbeats 4000000 in
set_option maxRecDepth 100000 in
theorem kX4_perform (l : Launch) (fP : Nat → AV) (fS : Nat → AV) (pl : Int) (n : Int) (ec : Int) (mk : Int) (oP : Nat) (oS : Nat) (aA : Nat) (aT : Nat) (aW : Nat) (aS : Nat) (aB : Nat) (aF : Nat) (aH : Nat) (aL : Nat) (Ab : Int → Int) (Tm : Int → Int) (Wq : Int → Int) (Sp : Int → Int) (B : Int → Int) (Fo : Int → Int) (Ho : Int → Int) (Lt : Int → Int) (p0 : Int) (n0 : Int) (k0 : Int) (ce : Int) (hf0 : fP 0 = rv aA) (hf1 : fP 1 = rv aT) (hf2 : fP 2 = rv aW) (hf3 : fP 3 = rv aS) (hf4 : fS 0 = iv pl) (hf5 : fS 1 = iv n) (hf6 : fS 2 = iv ec) (hf7 : fS 3 = iv mk) (hf8 : fS 4 = rv aB) (hf9 : fS 5 = rv aF) (hf10 : fS 6 = rv aH) (hf11 : fS 7 = rv aL) (hok : okS pl n ec Fo Ho B Lt) (hce : 0 ≤ ce ∧ ce ≤ 2000000000) : AMi l yX4_perform cX4_perform 6 .int 2 0 0 [rv oP, rv oS, iv ce] [(oP, ob 4 (uF (uF (uF fP 6 (iv p0)) 7 (iv n0)) 8 (iv k0))), (aA, ar 1206 Ab), (aT, ar 180 Tm), (aW, ar 6 Wq), (aS, ar 30 Sp), (oS, ob 5 fS), (aB, ar 6 B), (aF, ar 6 Fo), (aH, ar 6 Ho), (aL, ar 6 Lt)] (fun z u => (∃ A2 : Int → Int, ∃ T2 : Int → Int, ∃ W2 : Int → Int, ∃ S2 : Int → Int, z = ce ∧ u = [(oP, ob 4 (uF (uF (uF fP 6 (iv pl)) 7 (iv n)) 8 (iv mk))), (aA, ar 1206 A2), (aT, ar 180 T2), (aW, ar 6 W2), (aS, ar 30 S2), (oS, ob 5 fS), (aB, ar 6 B), (aF, ar 6 Fo), (aH, ar 6 Ho), (aL, ar 6 Lt)] ∧ ce ≤ WO pl n ec mk Fo Ho B Lt) ∨ (∃ A2 : Int → Int, ∃ T2 : Int → Int, ∃ W2 : Int → Int, ∃ S2 : Int → Int, z = WO pl n ec mk Fo Ho B Lt ∧ u = [(oP, ob 4 (uF (uF (uF fP 6 (iv pl)) 7 (iv n)) 8 (iv mk))), (aA, ar 1206 A2), (aT, ar 180 T2), (aW, ar 6 W2), (aS, ar 30 S2), (oS, ob 5 fS), (aB, ar 6 B), (aF, ar 6 Fo), (aH, ar 6 Ho), (aL, ar 6 Lt)] ∧ (WO pl n ec mk Fo Ho B Lt < ce ∨ n = 0) ∧ reg A2 (bF ec Fo Ho B) pl n 0 ∧ reg T2 (tS pl ec mk Fo Ho B Lt) pl n 0 ∧ (∀ x, 0 ≤ x → x < n → S2 x = (sS pl ec mk Fo Ho B Lt) x))) := by
  refine AMi.of2 rfl (nle rfl) ?_
  intro D G A p e s m args below meth c Po hPo X
  have hpl := hok.2.1
  have hpl1 := hok.1
  have hn1 := hok.2.2.1
  have hn2 := hok.2.2.2.1
  have hec := hok.2.2.2.2
  refine S_aload_n X dX4_perform_0 rfl rfl ?_
  refine S_aload_n X dX4_perform_1 rfl rfl ?_
  refine S_callv X (kX4_open l fP fS pl n mk oP oS aA aW aB Ab Wq B p0 n0 k0 hf0 hf2 hf4 hf5 hf7 hf8) (is := [0, 1, 3, 5, 6]) rfl (run_V X lkX4_24 0 rfl rfl (is := [0, 1, 3, 5, 6]) (avs := [rv oS]) (rest := []) rfl rfl (nle rfl) ⟨nle rfl, nle rfl⟩ ⟨nle rfl, nle rfl⟩ dX4_perform_2 (by decide) rfl) (fun u_1 hp_2 => ?_)
  obtain ⟨A2_4, W2_5, hu_7, hA2_8, hW2_9⟩ := hp_2
  subst hu_7
  refine ⟨rfl, ?_⟩
  refine S_w (ws' := [(oP, ob 4 (uF (uF (uF fP 6 (iv pl)) 7 (iv n)) 8 (iv mk))), (aA, ar 1206 A2_4), (aT, ar 180 Tm), (aW, ar 6 W2_5), (aS, ar 30 Sp), (oS, ob 5 fS), (aB, ar 6 B), (aF, ar 6 Fo), (aH, ar 6 Ho), (aL, ar 6 Lt)]) rfl ?_
  have hA0 := hA2_8
  have hW0 := hW2_9
  refine S_iconst X dX4_perform_5 ?_
  refine S_istore_n X dX4_perform_6 rfl (nle rfl) ?_
  refine S_iconst X dX4_perform_7 ?_
  refine S_istore X dX4_perform_8 (nle rfl) ?_
  have lp10_0 : ∀ (N : Nat) (b : Int) (wo : Int) (Av : Int → Int) (Tv : Int → Int) (Wv : Int → Int) (Sv : Int → Int) (L : Nat → Option AV), 0 ≤ b ∧ b ≤ n → wo = mxI (sS pl ec mk Fo Ho B Lt) b → (b = 0 ∧ wo = 0) ∨ wo < ce → reg Av (bF ec Fo Ho B) pl (max b 1) 0 → reg Tv (tS pl ec mk Fo Ho B Lt) pl b 0 → (∀ x, 0 ≤ x → x < pl → Wv x = (if b = 0 then 0 else (wS pl ec mk Fo Ho B Lt) (b - 1) x)) → (∀ x, 0 ≤ x → x < b → Sv x = (sS pl ec mk Fo Ho B Lt) x) → L 0 = some (rv oP) → L 1 = some (rv oS) → L 2 = some (iv ce) → L 3 = some (iv wo) → L 4 = some (iv b) → n + 1 - b < (N : Int) → S_ p l e (rmD 2 0 0) s m args below meth c (MQ below (QcI D G A Po) args s 0 0 A) D G A 6 0 0 10 L [] [(oP, ob 4 (uF (uF (uF fP 6 (iv pl)) 7 (iv n)) 8 (iv mk))), (aA, ar 1206 Av), (aT, ar 180 Tv), (aW, ar 6 Wv), (aS, ar 30 Sv), (oS, ob 5 fS), (aB, ar 6 B), (aF, ar 6 Fo), (aH, ar 6 Ho), (aL, ar 6 Lt)] := by
    intro N
    induction N with
    | zero =>
      intro b wo Av Tv Wv Sv L10 hb hwo hwc hA10 hT10 hW10 hSp hL10_0 hL10_1 hL10_2 hL10_3 hL10_4 hN10
      exfalso; omega
    | succ N ih10 =>
      intro b wo Av Tv Wv Sv L10 hb hwo hwc hA10 hT10 hW10 hSp hL10_0 hL10_1 hL10_2 hL10_3 hL10_4 hN10
      refine S_iload X dX4_perform_10 hL10_4 ?_
      refine S_aload_n X dX4_perform_12 rfl hL10_0 ?_
      refine S_get (v := iv n) X fgX4_28_4 0 rfl rfl dX4_perform_13 ?_
      refine S_icmp_ge (tgt := 68) X dX4_perform_16 (by decide) (by omega) (by omega) (fun c_10 => ?_) (fun c_10 => ?_)
      ·
        refine S_iload_n X dX4_perform_68 rfl hL10_3 ?_
        exact S_iret X (nle rfl) (nle rfl) dX4_perform_69 (hPo _ _ (Or.inr ⟨_, _, _, _, by rw [hwo]; unfold WO; rw [show b = n by omega], rfl, by have h9 := hwo; rw [show b = n by omega] at h9; unfold WO; omega, hA10.lo (by omega), hT10.lo (by omega), fun x h0 h1 => hSp x h0 (by omega)⟩))
      ·
        refine S_iload X dX4_perform_19 hL10_4 ?_
        refine S_bipush X dX4_perform_21 rfl ?_
        refine S_icmp_ge (tgt := 68) X dX4_perform_23 (by decide) (by omega) (by decide) (fun c_11 => ?_) (fun c_11 => ?_)
        ·
          refine S_iload_n X dX4_perform_68 rfl hL10_3 ?_
          exact S_iret X (nle rfl) (nle rfl) dX4_perform_69 (hPo _ _ (Or.inr ⟨_, _, _, _, by rw [hwo]; unfold WO; rw [show b = n by omega], rfl, by have h9 := hwo; rw [show b = n by omega] at h9; unfold WO; omega, hA10.lo (by omega), hT10.lo (by omega), fun x h0 h1 => hSp x h0 (by omega)⟩))
        ·
          refine S_iload X dX4_perform_26 hL10_4 ?_
          refine S_if_le (tgt := 38) X dX4_perform_28 (by decide) (by omega) (fun c_12 => ?_) (fun c_12 => ?_)
          ·
            have hAg := hA10.lo (c := b + 1) (q := 0) (by omega)
            refine S_aload_n X dX4_perform_38 rfl hL10_0 ?_
            refine S_aload_n X dX4_perform_39 rfl hL10_1 ?_
            refine S_iload X dX4_perform_40 hL10_4 ?_
            refine S_calli X (kX4_playBar l (uF (uF (uF fP 6 (iv pl)) 7 (iv n)) 8 (iv mk)) fS pl n ec mk oP oS aA aT aW aS aL Av Tv Wv Sv B Fo Ho Lt b hf0 hf1 hf2 hf3 rfl hf7 hf11 (by omega) (by omega) hAg hT10 hW10) (is := [0, 1, 2, 3, 4, 5, 9]) rfl (run_V X lkX4_36 0 rfl rfl (is := [0, 1, 2, 3, 4, 5, 9]) (avs := [rv oS, iv b]) (rest := []) rfl rfl (nle rfl) ⟨nle rfl, nle rfl⟩ ⟨nle rfl, nle rfl⟩ dX4_perform_42 (by decide) rfl) (fun z_15 u_13 hp_14 => ?_)
            obtain ⟨T2_16, W2_17, hz_18, hu_19, hT2_20, hW2_21⟩ := hp_14
            subst hz_18
            subst hu_19
            refine ⟨rfl, ?_⟩
            refine S_w (ws' := [(oP, ob 4 (uF (uF (uF fP 6 (iv pl)) 7 (iv n)) 8 (iv mk))), (aA, ar 1206 Av), (aT, ar 180 T2_16), (aW, ar 6 W2_17), (aS, ar 30 (uZ Sv b (sS pl ec mk Fo Ho B Lt b))), (oS, ob 5 fS), (aB, ar 6 B), (aF, ar 6 Fo), (aH, ar 6 Ho), (aL, ar 6 Lt)]) rfl ?_
            have hT9 := hT2_20
            have hW9 := hW2_21
            have hA9 := hAg
            have hsr := hok.spread (mk := mk) b (by omega) (by omega)
            have hwr := mxI_le (g := (sS pl ec mk Fo Ho B Lt)) (K := 7470) (by omega) b (by omega) (fun y y0 y1 => by have := (hok.spread (mk := mk) y y0 (by omega)).2; omega)
            have hwr0 := (mxI_ge (g := (sS pl ec mk Fo Ho B Lt)) b (by omega)).1
            refine S_istore X dX4_perform_45 (nle rfl) ?_
            refine S_iload X dX4_perform_47 rfl ?_
            refine S_iload_n X dX4_perform_49 rfl hL10_2 ?_
            refine S_icmp_lt (tgt := 55) X dX4_perform_50 (by decide) (by omega) (by omega) (fun c_22 => ?_) (fun c_22 => ?_)
            ·
              refine S_iload_n X dX4_perform_55 rfl hL10_3 ?_
              refine S_iload X dX4_perform_56 rfl ?_
              refine S_mmax X lkX4_40 rfl rfl (by omega) (by omega) (nle rfl) (nle rfl) (nle rfl) (nle rfl) dX4_perform_58 ?_
              refine S_istore_n X dX4_perform_61 rfl (nle rfl) ?_
              refine S_iinc X dX4_perform_62 (nle rfl) hL10_4 ?_
              refine S_goto (tgt := 10) X dX4_perform_65 (by decide) ?_
              exact ih10 (b + 1) (max wo (sS pl ec mk Fo Ho B Lt b)) Av T2_16 W2_17 (uZ Sv b (sS pl ec mk Fo Ho B Lt b)) _ (by omega) (by rw [mxI_S (by omega), ← hwo]) (by omega) (pf_m (by omega) hA9) (hT9) (fun x h0 h1 => by rw [if_neg (by omega), Int.add_sub_cancel]; exact hW9 x h0 h1) (fun x h0 h1 => (by omega : x < b ∨ x = b).elim (fun q9 => by rw [uZ_ne (by omega)]; exact hSp x h0 q9) (fun q9 => by rw [q9]; exact uZ_at)) hL10_0 hL10_1 hL10_2 rfl rfl (by omega)
            ·
              refine S_iload_n X dX4_perform_53 rfl hL10_2 ?_
              exact S_iret X (nle rfl) (nle rfl) dX4_perform_54 (hPo _ _ (Or.inl ⟨_, _, _, _, rfl, rfl, pf_cut (b := b) hok (by omega) (by omega)⟩))
          ·
            refine S_aload_n X dX4_perform_31 rfl hL10_0 ?_
            refine S_aload_n X dX4_perform_32 rfl hL10_1 ?_
            refine S_iload X dX4_perform_33 hL10_4 ?_
            refine S_callv X (kX4_goOn l (uF (uF (uF fP 6 (iv pl)) 7 (iv n)) 8 (iv mk)) fS pl n ec oP oS aA aF aH Av B Fo Ho Lt b hf0 rfl hf6 hf9 hf10 (by omega) (by omega) (hA10.lo (by omega))) (is := [0, 1, 5, 7, 8]) rfl (run_V X lkX4_32 0 rfl rfl (is := [0, 1, 5, 7, 8]) (avs := [rv oS, iv b]) (rest := []) rfl rfl (nle rfl) ⟨nle rfl, nle rfl⟩ ⟨nle rfl, nle rfl⟩ dX4_perform_35 (by decide) rfl) (fun u_23 hp_24 => ?_)
            obtain ⟨A2_26, hu_28, hA2_29⟩ := hp_24
            subst hu_28
            refine ⟨rfl, ?_⟩
            refine S_w (ws' := [(oP, ob 4 (uF (uF (uF fP 6 (iv pl)) 7 (iv n)) 8 (iv mk))), (aA, ar 1206 A2_26), (aT, ar 180 Tv), (aW, ar 6 Wv), (aS, ar 30 Sv), (oS, ob 5 fS), (aB, ar 6 B), (aF, ar 6 Fo), (aH, ar 6 Ho), (aL, ar 6 Lt)]) rfl ?_
            have hAg := hA2_29
            refine S_aload_n X dX4_perform_38 rfl hL10_0 ?_
            refine S_aload_n X dX4_perform_39 rfl hL10_1 ?_
            refine S_iload X dX4_perform_40 hL10_4 ?_
            refine S_calli X (kX4_playBar l (uF (uF (uF fP 6 (iv pl)) 7 (iv n)) 8 (iv mk)) fS pl n ec mk oP oS aA aT aW aS aL A2_26 Tv Wv Sv B Fo Ho Lt b hf0 hf1 hf2 hf3 rfl hf7 hf11 (by omega) (by omega) hAg hT10 hW10) (is := [0, 1, 2, 3, 4, 5, 9]) rfl (run_V X lkX4_36 0 rfl rfl (is := [0, 1, 2, 3, 4, 5, 9]) (avs := [rv oS, iv b]) (rest := []) rfl rfl (nle rfl) ⟨nle rfl, nle rfl⟩ ⟨nle rfl, nle rfl⟩ dX4_perform_42 (by decide) rfl) (fun z_32 u_30 hp_31 => ?_)
            obtain ⟨T2_33, W2_34, hz_35, hu_36, hT2_37, hW2_38⟩ := hp_31
            subst hz_35
            subst hu_36
            refine ⟨rfl, ?_⟩
            refine S_w (ws' := [(oP, ob 4 (uF (uF (uF fP 6 (iv pl)) 7 (iv n)) 8 (iv mk))), (aA, ar 1206 A2_26), (aT, ar 180 T2_33), (aW, ar 6 W2_34), (aS, ar 30 (uZ Sv b (sS pl ec mk Fo Ho B Lt b))), (oS, ob 5 fS), (aB, ar 6 B), (aF, ar 6 Fo), (aH, ar 6 Ho), (aL, ar 6 Lt)]) rfl ?_
            have hT9 := hT2_37
            have hW9 := hW2_38
            have hA9 := hAg
            have hsr := hok.spread (mk := mk) b (by omega) (by omega)
            have hwr := mxI_le (g := (sS pl ec mk Fo Ho B Lt)) (K := 7470) (by omega) b (by omega) (fun y y0 y1 => by have := (hok.spread (mk := mk) y y0 (by omega)).2; omega)
            have hwr0 := (mxI_ge (g := (sS pl ec mk Fo Ho B Lt)) b (by omega)).1
            refine S_istore X dX4_perform_45 (nle rfl) ?_
            refine S_iload X dX4_perform_47 rfl ?_
            refine S_iload_n X dX4_perform_49 rfl hL10_2 ?_
            refine S_icmp_lt (tgt := 55) X dX4_perform_50 (by decide) (by omega) (by omega) (fun c_39 => ?_) (fun c_39 => ?_)
            ·
              refine S_iload_n X dX4_perform_55 rfl hL10_3 ?_
              refine S_iload X dX4_perform_56 rfl ?_
              refine S_mmax X lkX4_40 rfl rfl (by omega) (by omega) (nle rfl) (nle rfl) (nle rfl) (nle rfl) dX4_perform_58 ?_
              refine S_istore_n X dX4_perform_61 rfl (nle rfl) ?_
              refine S_iinc X dX4_perform_62 (nle rfl) hL10_4 ?_
              refine S_goto (tgt := 10) X dX4_perform_65 (by decide) ?_
              exact ih10 (b + 1) (max wo (sS pl ec mk Fo Ho B Lt b)) A2_26 T2_33 W2_34 (uZ Sv b (sS pl ec mk Fo Ho B Lt b)) _ (by omega) (by rw [mxI_S (by omega), ← hwo]) (by omega) (pf_m (by omega) hA9) (hT9) (fun x h0 h1 => by rw [if_neg (by omega), Int.add_sub_cancel]; exact hW9 x h0 h1) (fun x h0 h1 => (by omega : x < b ∨ x = b).elim (fun q9 => by rw [uZ_ne (by omega)]; exact hSp x h0 q9) (fun q9 => by rw [q9]; exact uZ_at)) hL10_0 hL10_1 hL10_2 rfl rfl (by omega)
            ·
              refine S_iload_n X dX4_perform_53 rfl hL10_2 ?_
              exact S_iret X (nle rfl) (nle rfl) dX4_perform_54 (hPo _ _ (Or.inl ⟨_, _, _, _, rfl, rfl, pf_cut (b := b) hok (by omega) (by omega)⟩))
  exact lp10_0 (Int.toNat (n + 1 - 0) + 1) 0 0 A2_4 Tm W2_5 Sp _ (by omega) (rfl) (Or.inl ⟨rfl, rfl⟩) (pf_o hA0) (reg.zero) (fun x h0 h1 => by rw [if_pos rfl]; exact hW0 x h0 (by omega)) (fun x h0 h1 => by omega) rfl rfl rfl rfl rfl (by omega)
