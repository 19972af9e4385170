theorem mulr {h d : Int} (h0 : 0 ≤ h ∧ h ≤ 10) (hd : -198 ≤ d ∧ d ≤ 198) : -1980 ≤ h * d ∧ h * d ≤ 1980 := by
  have a1 : h * d ≤ h * 198 := Int.mul_le_mul_of_nonneg_left hd.2 h0.1
  have a2 : h * (-198) ≤ h * d := Int.mul_le_mul_of_nonneg_left hd.1 h0.1
  omega
theorem tdiv10 {x : Int} (h : -1980 ≤ x ∧ x ≤ 1980) : -198 ≤ x.tdiv 10 ∧ x.tdiv 10 ≤ 198 := by
  have h1 := Int.tmod_add_mul_tdiv x 10
  have h2 := Int.tmod_lt_of_pos x (b := 10) (by decide)
  have h3 := Int.lt_tmod_of_pos x (b := 10) (by decide)
  omega
theorem mxI_1 {g : Int → Int} : mxI g 1 = max 0 (g 0) := rfl
theorem mnI_1 {g : Int → Int} : mnI g 1 = min 1000000000 (g 0) := rfl
theorem zMk_1 {mk b : Int} (h : zAnd (zShr mk b) 1 = 1) : zMk mk b = true := decide_eq_true h
theorem zMk_0 {mk b : Int} (h : ¬ zAnd (zShr mk b) 1 = 1) : zMk mk b = false := decide_eq_false h
theorem wF_1 {pl mk b p : Int} {Lt : Int → Int} {g : Int → Int → Int} (h : zMk mk b = true) : wF pl mk Lt g b p = mxI (tF pl mk Lt g b) pl := by unfold wF; rw [if_pos h]
theorem wF_0 {pl mk b p : Int} {Lt : Int → Int} {g : Int → Int → Int} (h : zMk mk b = false) : wF pl mk Lt g b p = tF pl mk Lt g b p := by unfold wF; rw [if_neg (by rw [h]; decide)]
theorem tF_P {pl mk b p : Int} {Lt : Int → Int} {g : Int → Int → Int} (hb : 0 < b) : tF pl mk Lt g b p = wF pl mk Lt g (b - 1) p + g b p + Lt p := by
  have h := tF_S (pl := pl) (mk := mk) (b := b - 1) (p := p) (Lt := Lt) (g := g) (by omega)
  rwa [Int.sub_add_cancel] at h
theorem bF_P {ec : Int} {Fo Ho B0 : Int → Int} {b p : Int} (hec : 0 ≤ ec) (hb : 0 < b) : bF ec Fo Ho B0 b p = nxB ec Fo Ho (bF ec Fo Ho B0) (b - 1) p := by
  have h := bF_S (ec := ec) (Fo := Fo) (Ho := Ho) (B0 := B0) (b := b - 1) (p := p) hec (by omega)
  rwa [Int.sub_add_cancel] at h
set_option maxHeartbeats 4000000 in
set_option maxRecDepth 100000 in
theorem kJ6_compare_7cf53 (l : Launch) (x : Int) (y : Int) (hx : inR x) (hy : inR y) : AMi l yJ6_compare_7cf53 cJ6_compare_7cf53 2 .int 0 0 0 [iv x, iv y] [] (fun z u => z = (if x < y then -1 else if x = y then 0 else 1) ∧ u = []) := by
  refine AMi.of2 rfl (nle rfl) ?_
  intro D G A p e s m args below meth c Po hPo X
  refine S_iload_n X dJ6_compare_7cf53_0 rfl rfl ?_
  refine S_iload_n X dJ6_compare_7cf53_1 rfl rfl ?_
  refine S_icmp_ge (tgt := 9) X dJ6_compare_7cf53_2 (by decide) (by omega) (by omega) (fun c_1 => ?_) (fun c_1 => ?_)
  ·
    refine S_iload_n X dJ6_compare_7cf53_9 rfl rfl ?_
    refine S_iload_n X dJ6_compare_7cf53_10 rfl rfl ?_
    refine S_icmp_ne (tgt := 18) X dJ6_compare_7cf53_11 (by decide) (by omega) (by omega) (fun c_2 => ?_) (fun c_2 => ?_)
    ·
      refine S_iconst X dJ6_compare_7cf53_18 ?_
      exact S_iret X (nle rfl) (nle rfl) dJ6_compare_7cf53_19 (hPo _ _ (⟨by (repeat' split) <;> omega, rfl⟩))
    ·
      refine S_iconst X dJ6_compare_7cf53_14 ?_
      refine S_goto (tgt := 19) X dJ6_compare_7cf53_15 (by decide) ?_
      exact S_iret X (nle rfl) (nle rfl) dJ6_compare_7cf53_19 (hPo _ _ (⟨by (repeat' split) <;> omega, rfl⟩))
  ·
    refine S_iconst X dJ6_compare_7cf53_5 ?_
    refine S_goto (tgt := 19) X dJ6_compare_7cf53_6 (by decide) ?_
    exact S_iret X (nle rfl) (nle rfl) dJ6_compare_7cf53_19 (hPo _ _ (⟨by (repeat' split) <;> omega, rfl⟩))
set_option maxHeartbeats 4000000 in
set_option maxRecDepth 100000 in
theorem kX12_isPlayer (l : Launch) (h0 : Nat) (f : Nat → AV) (pl : Int) (pp : Int) (hf0 : f 21 = iv pl) (hpl : 0 ≤ pl ∧ pl ≤ 6) (hp : inR pp) : AMi l yX12_isPlayer cX12_isPlayer 2 .boolean 1 0 0 [rv h0, iv pp] [(h0, ob 11 f)] (fun z u => (z = 0 ∧ u = [(h0, ob 11 f)] ∧ (pp < 0 ∨ pl ≤ pp)) ∨ (z = 1 ∧ u = [(h0, ob 11 f)] ∧ (0 ≤ pp ∧ pp < pl))) := by
  refine AMi.of2 rfl (nle rfl) ?_
  intro D G A p e s m args below meth c Po hPo X
  refine S_iload_n X dX12_isPlayer_0 rfl rfl ?_
  refine S_iconst X dX12_isPlayer_1 ?_
  refine S_aload_n X dX12_isPlayer_2 rfl rfl ?_
  refine S_get X fgX12_253_11 0 rfl hf0 dX12_isPlayer_3 ?_
  refine S_iconst X dX12_isPlayer_6 ?_
  refine S_isub X dX12_isPlayer_7 ?_
  refine S_calli X (kX12_in l pp 0 (pl - 1) (by omega) (by omega) (by omega)) (is := []) rfl (run_S X lkX12_216 (is := []) (avs := [iv pp, iv 0, iv (pl - 1)]) (rest := []) rfl rfl (nle rfl) ⟨nle rfl, nle rfl⟩ ⟨nle rfl, nle rfl⟩ dX12_isPlayer_8 (by decide) rfl) (fun z_3 u_1 hp_2 => ?_)
  rcases hp_2 with ⟨hz_4, hu_5, hq_6⟩ | ⟨hz_7, hu_8, hq_9⟩
  ·
    subst hz_4
    subst hu_5
    refine ⟨rfl, ?_⟩
    refine S_w (ws' := [(h0, ob 11 f)]) rfl ?_
    exact S_zret X (Or.inl rfl) (nle rfl) (nle rfl) dX12_isPlayer_11 (hPo _ _ (Or.inl (⟨by first | rfl | omega, rfl, by first | rfl | assumption | omega⟩)))
  ·
    subst hz_7
    subst hu_8
    refine ⟨rfl, ?_⟩
    refine S_w (ws' := [(h0, ob 11 f)]) rfl ?_
    exact S_zret X (Or.inr rfl) (nle rfl) (nle rfl) dX12_isPlayer_11 (hPo _ _ (Or.inr (⟨by first | rfl | omega, rfl, by first | rfl | assumption | omega⟩)))
set_option maxHeartbeats 4000000 in
set_option maxRecDepth 100000 in
theorem kX12_of (l : Launch) (h0 : Nat) (f : Nat → AV) (hQ : Nat) (Q : Int → Int) (pp : Int) (k : Int) (hf0 : f 20 = rv hQ) (hp : 0 ≤ pp ∧ pp ≤ 5) (hk : 0 ≤ k ∧ k ≤ 4) : AMi l yX12_of cX12_of 3 .int 0 0 0 [rv h0, iv pp, iv k] [(h0, ob 11 f), (hQ, ar 30 Q)] (fun z u => z = Q (5 * pp + k) ∧ u = [(h0, ob 11 f), (hQ, ar 30 Q)]) := by
  refine AMi.of2 rfl (nle rfl) ?_
  intro D G A p e s m args below meth c Po hPo X
  refine S_aload_n X dX12_of_0 rfl rfl ?_
  refine S_get X fgX12_43_11 0 rfl hf0 dX12_of_1 ?_
  refine S_iconst X dX12_of_4 ?_
  refine S_iload_n X dX12_of_5 rfl rfl ?_
  refine S_imul X dX12_of_6 ?_
  refine S_iload_n X dX12_of_7 rfl rfl ?_
  refine S_iadd X dX12_of_8 ?_
  refine S_iald X 1 rfl (by omega) (by omega) (nle rfl) dX12_of_9 ?_
  exact S_iret X (nle rfl) (nle rfl) dX12_of_10 (hPo _ _ (⟨by first | rfl | omega, rfl⟩))
set_option maxHeartbeats 4000000 in
set_option maxRecDepth 100000 in
theorem kX12_isBar (l : Launch) (h0 : Nat) (f : Nat → AV) (pl : Int) (n : Int) (b : Int) (hf0 : f 21 = iv pl) (hf1 : f 28 = iv n) (hpl : 0 ≤ pl ∧ pl ≤ 6) (hn : 1 ≤ n ∧ n ≤ 30) (hb : inR b) : AMi l yX12_isBar cX12_isBar 2 .boolean 1 0 0 [rv h0, iv b] [(h0, ob 11 f)] (fun z u => (z = 0 ∧ u = [(h0, ob 11 f)] ∧ (pl = 0 ∨ b < 0 ∨ n ≤ b)) ∨ (z = 1 ∧ u = [(h0, ob 11 f)] ∧ (0 < pl ∧ 0 ≤ b ∧ b < n))) := by
  refine AMi.of2 rfl (nle rfl) ?_
  intro D G A p e s m args below meth c Po hPo X
  refine S_aload_n X dX12_isBar_0 rfl rfl ?_
  refine S_get X fgX12_253_11 0 rfl hf0 dX12_isBar_1 ?_
  refine S_if_le (tgt := 25) X dX12_isBar_4 (by decide) (by omega) (fun c_1 => ?_) (fun c_1 => ?_)
  ·
    refine S_iconst X dX12_isBar_25 ?_
    exact S_zret X (Or.inl rfl) (nle rfl) (nle rfl) dX12_isBar_26 (hPo _ _ (Or.inl (⟨by first | rfl | omega, rfl, by first | rfl | assumption | omega⟩)))
  ·
    refine S_iload_n X dX12_isBar_7 rfl rfl ?_
    refine S_iconst X dX12_isBar_8 ?_
    refine S_aload_n X dX12_isBar_9 rfl rfl ?_
    refine S_get X fgX12_56_11 0 rfl hf1 dX12_isBar_10 ?_
    refine S_iconst X dX12_isBar_13 ?_
    refine S_isub X dX12_isBar_14 ?_
    refine S_calli X (kX12_in l b 0 (n - 1) (by omega) (by omega) (by omega)) (is := []) rfl (run_S X lkX12_216 (is := []) (avs := [iv b, iv 0, iv (n - 1)]) (rest := []) rfl rfl (nle rfl) ⟨nle rfl, nle rfl⟩ ⟨nle rfl, nle rfl⟩ dX12_isBar_15 (by decide) rfl) (fun z_4 u_2 hp_3 => ?_)
    rcases hp_3 with ⟨hz_5, hu_6, hq_7⟩ | ⟨hz_8, hu_9, hq_10⟩
    ·
      subst hz_5
      subst hu_6
      refine ⟨rfl, ?_⟩
      refine S_w (ws' := [(h0, ob 11 f)]) rfl ?_
      refine S_if_eq (tgt := 25) X dX12_isBar_18 (by decide) (by decide) (fun _ => ?_) (fun h9 => absurd h9 (by decide))
      refine S_iconst X dX12_isBar_25 ?_
      exact S_zret X (Or.inl rfl) (nle rfl) (nle rfl) dX12_isBar_26 (hPo _ _ (Or.inl (⟨by first | rfl | omega, rfl, by first | rfl | assumption | omega⟩)))
    ·
      subst hz_8
      subst hu_9
      refine ⟨rfl, ?_⟩
      refine S_w (ws' := [(h0, ob 11 f)]) rfl ?_
      refine S_if_eq (tgt := 25) X dX12_isBar_18 (by decide) (by decide) (fun h9 => absurd h9 (by decide)) (fun _ => ?_)
      refine S_iconst X dX12_isBar_21 ?_
      refine S_goto (tgt := 26) X dX12_isBar_22 (by decide) ?_
      exact S_zret X (Or.inr rfl) (nle rfl) (nle rfl) dX12_isBar_26 (hPo _ _ (Or.inr (⟨by first | rfl | omega, rfl, by first | rfl | assumption | omega⟩)))
set_option maxHeartbeats 4000000 in
set_option maxRecDepth 100000 in
theorem kX12_beatBehind (l : Launch) (h0 : Nat) (f : Nat → AV) (pl : Int) (n : Int) (ec : Int) (hQ : Nat) (hA : Nat) (Q : Int → Int) (B : Int → Int) (E : Int → Int) (Ab : Int → Int) (b : Int) (pp : Int) (k : Int) (hf0 : f 29 = iv ec) (hf1 : f 20 = rv hQ) (hf2 : f 33 = rv hA) (hok : okS pl n ec (c5 Q 3) (c5 Q 4) B E) (hb : 0 ≤ b ∧ b < 200) (hp : 0 ≤ pp ∧ pp < pl) (hr : reg Ab (bF ec (c5 Q 3) (c5 Q 4) B) pl (b + 1) k) : AMi l yX12_beatBehind cX12_beatBehind 6 .int 1 0 0 [rv h0, iv b, iv pp] [(h0, ob 11 f), (hQ, ar 30 Q), (hA, ar 1206 Ab)] (fun z u => z = nxB ec (c5 Q 3) (c5 Q 4) (bF ec (c5 Q 3) (c5 Q 4) B) b pp ∧ u = [(h0, ob 11 f), (hQ, ar 30 Q), (hA, ar 1206 Ab)]) := by
  refine AMi.of2 rfl (nle rfl) ?_
  intro D G A p e s m args below meth c Po hPo X
  have hec := hok.2.2.2.2
  have hpp := hok.2.2.2.2.2.2 pp hp.1 hp.2
  have hpl := hok.2.1
  unfold c5 at hpp
  have hA1 := hr.at (z := 6 * b + pp) (x := b) (y := pp) rfl (by omega) (by omega) (by omega) (by omega)
  have hB1 := hok.beat b pp (by omega) hp.1 hp.2
  refine S_aload_n X dX12_beatBehind_0 rfl rfl ?_
  refine S_get X fgX12_65_11 0 rfl hf2 dX12_beatBehind_1 ?_
  refine S_bipush X dX12_beatBehind_4 rfl ?_
  refine S_iload_n X dX12_beatBehind_6 rfl rfl ?_
  refine S_imul X dX12_beatBehind_7 ?_
  refine S_iload_n X dX12_beatBehind_8 rfl rfl ?_
  refine S_iadd X dX12_beatBehind_9 ?_
  refine S_iald X 2 rfl (by omega) (by omega) (nle rfl) dX12_beatBehind_10 ?_
  refine S_istore_n X dX12_beatBehind_11 rfl (nle rfl) ?_
  refine S_aload_n X dX12_beatBehind_12 rfl rfl ?_
  refine S_iload_n X dX12_beatBehind_13 rfl rfl ?_
  refine S_iconst X dX12_beatBehind_14 ?_
  refine S_calli X (kX12_of l h0 f hQ Q pp 3 hf1 (by omega) (by omega)) (is := [0, 1]) rfl (run_V X lkX12_284 0 rfl rfl (is := [0, 1]) (avs := [iv pp, iv 3]) (rest := []) rfl rfl (nle rfl) ⟨nle rfl, nle rfl⟩ ⟨nle rfl, nle rfl⟩ dX12_beatBehind_15 (by decide) rfl) (fun z_3 u_1 hp_2 => ?_)
  obtain ⟨hz_4, hu_5⟩ := hp_2
  subst hz_4
  subst hu_5
  refine ⟨rfl, ?_⟩
  refine S_w (ws' := [(h0, ob 11 f), (hQ, ar 30 Q), (hA, ar 1206 Ab)]) rfl ?_
  refine S_istore X dX12_beatBehind_18 (nle rfl) ?_
  refine S_iload X dX12_beatBehind_20 rfl ?_
  refine S_iconst X dX12_beatBehind_22 ?_
  refine S_icmp_ne (tgt := 28) X dX12_beatBehind_23 (by decide) (by omega) (by decide) (fun c_6 => ?_) (fun c_6 => ?_)
  ·
    refine S_aload_n X dX12_beatBehind_28 rfl rfl ?_
    refine S_get X fgX12_65_11 0 rfl hf2 dX12_beatBehind_29 ?_
    refine S_bipush X dX12_beatBehind_32 rfl ?_
    refine S_iconst X dX12_beatBehind_34 ?_
    refine S_iload_n X dX12_beatBehind_35 rfl rfl ?_
    refine S_aload_n X dX12_beatBehind_36 rfl rfl ?_
    refine S_get X fgX12_287_11 0 rfl hf0 dX12_beatBehind_37 ?_
    refine S_isub X dX12_beatBehind_40 ?_
    refine S_mmax X lkX12_295 rfl rfl (by decide) (by omega) (nle rfl) (nle rfl) (nle rfl) (nle rfl) dX12_beatBehind_41 ?_
    refine S_imul X dX12_beatBehind_44 ?_
    refine S_iload X dX12_beatBehind_45 rfl ?_
    refine S_iadd X dX12_beatBehind_47 ?_
    refine S_iald X 2 rfl (by omega) (by omega) (nle rfl) dX12_beatBehind_48 ?_
    have hA2 := hr.at (z := 6 * max 0 (b - ec) + Q (5 * pp + 3)) (x := max 0 (b - ec)) (y := Q (5 * pp + 3)) rfl (by omega) (by omega) (by omega) (by omega)
    have hB2 := hok.beat (max 0 (b - ec)) (Q (5 * pp + 3)) (by omega) (by omega) (by omega)
    refine S_istore X dX12_beatBehind_49 (nle rfl) ?_
    refine S_iconst X dX12_beatBehind_51 ?_
    refine S_sipush X dX12_beatBehind_52 rfl ?_
    refine S_iload_n X dX12_beatBehind_55 rfl rfl ?_
    refine S_aload_n X dX12_beatBehind_56 rfl rfl ?_
    refine S_iload_n X dX12_beatBehind_57 rfl rfl ?_
    refine S_iconst X dX12_beatBehind_58 ?_
    refine S_calli X (kX12_of l h0 f hQ Q pp 4 hf1 (by omega) (by omega)) (is := [0, 1]) rfl (run_V X lkX12_284 0 rfl rfl (is := [0, 1]) (avs := [iv pp, iv 4]) (rest := [iv (Ab ((6 * b) + pp)), iv 199, iv 1]) rfl rfl (nle rfl) ⟨nle rfl, nle rfl⟩ ⟨nle rfl, nle rfl⟩ dX12_beatBehind_59 (by decide) rfl) (fun z_9 u_7 hp_8 => ?_)
    obtain ⟨hz_10, hu_11⟩ := hp_8
    subst hz_10
    subst hu_11
    refine ⟨rfl, ?_⟩
    refine S_w (ws' := [(h0, ob 11 f), (hQ, ar 30 Q), (hA, ar 1206 Ab)]) rfl ?_
    refine S_iload X dX12_beatBehind_62 rfl ?_
    refine S_iload_n X dX12_beatBehind_64 rfl rfl ?_
    refine S_isub X dX12_beatBehind_65 ?_
    refine S_imul X dX12_beatBehind_66 ?_
    have hm := mulr (h := Q (5 * pp + 4)) (d := Ab (6 * max 0 (b - ec) + Q (5 * pp + 3)) - Ab (6 * b + pp)) (by omega) (by omega)
    have hm2 := tdiv10 hm
    refine S_bipush X dX12_beatBehind_67 rfl ?_
    refine S_idiv X (by omega) (by decide) (by decide) dX12_beatBehind_69 ?_
    refine S_iadd X dX12_beatBehind_70 ?_
    refine S_mmin X lkX12_293 rfl rfl (by decide) (by omega) (nle rfl) (nle rfl) (nle rfl) (nle rfl) dX12_beatBehind_71 ?_
    refine S_mmax X lkX12_295 rfl rfl (by decide) (by omega) (nle rfl) (nle rfl) (nle rfl) (nle rfl) dX12_beatBehind_74 ?_
    exact S_iret X (nle rfl) (nle rfl) dX12_beatBehind_77 (hPo _ _ (⟨by unfold nxB c5; rw [if_neg (by assumption), hA1, hA2]; rfl, rfl⟩))
  ·
    refine S_iload_n X dX12_beatBehind_26 rfl rfl ?_
    exact S_iret X (nle rfl) (nle rfl) dX12_beatBehind_27 (hPo _ _ (⟨by unfold nxB c5; rw [if_pos (by assumption)]; exact hA1, rfl⟩))
set_option maxHeartbeats 4000000 in
set_option maxRecDepth 100000 in
theorem kX12_layBeats (l : Launch) (h0 : Nat) (f : Nat → AV) (pl : Int) (n : Int) (ec : Int) (hQ : Nat) (hB : Nat) (hA : Nat) (Q : Int → Int) (B : Int → Int) (E : Int → Int) (Ab : Int → Int) (k : Int) (hf0 : f 21 = iv pl) (hf1 : f 29 = iv ec) (hf2 : f 20 = rv hQ) (hf3 : f 23 = rv hB) (hf4 : f 33 = rv hA) (hok : okS pl n ec (c5 Q 3) (c5 Q 4) B E) (hk : 0 ≤ k ∧ k ≤ 201) : AMv l yX12_layBeats cX12_layBeats 4 2 0 0 [rv h0, iv k] [(h0, ob 11 f), (hQ, ar 30 Q), (hB, ar 6 B), (hA, ar 1206 Ab)] (fun u => ∃ A2 : Int → Int, u = [(h0, ob 11 f), (hQ, ar 30 Q), (hB, ar 6 B), (hA, ar 1206 A2)] ∧ reg A2 (bF ec (c5 Q 3) (c5 Q 4) B) pl k 0) := by
  refine AMv.of2 rfl (nle rfl) ?_
  intro D G A p e s m args below meth c Po hPo hnm X
  have hpl := hok.2.1
  have hpl1 := hok.1
  have hec := hok.2.2.2.2
  refine S_iconst X dX12_layBeats_0 ?_
  refine S_istore_n X dX12_layBeats_1 rfl (nle rfl) ?_
  have lp2_0 : ∀ (N : Nat) (b : Int) (Av : Int → Int) (L : Nat → Option AV), 0 ≤ b ∧ b ≤ k → reg Av (bF ec (c5 Q 3) (c5 Q 4) B) pl b 0 → L 0 = some (rv h0) → L 1 = some (iv k) → L 2 = some (iv b) → k + 1 - b < (N : Int) → S_ p l e (rmD 2 0 0) s m args below meth c (MQ below (QcV D G A Po) args s 0 0 A) D G A 4 0 0 2 L [] [(h0, ob 11 f), (hQ, ar 30 Q), (hB, ar 6 B), (hA, ar 1206 Av)] := by
    intro N
    induction N with
    | zero =>
      intro b Av L2 hb hreg2 hL2_0 hL2_1 hL2_2 hN2
      exfalso; omega
    | succ N ih2 =>
      intro b Av L2 hb hreg2 hL2_0 hL2_1 hL2_2 hN2
      refine S_iload_n X dX12_layBeats_2 rfl hL2_2 ?_
      refine S_iload_n X dX12_layBeats_3 rfl hL2_1 ?_
      refine S_icmp_ge (tgt := 61) X dX12_layBeats_4 (by decide) (by omega) (by omega) (fun c_1 => ?_) (fun c_1 => ?_)
      ·
        exact S_vret X (nle rfl) (nle rfl) dX12_layBeats_61 (hPo _ (⟨_, rfl, hreg2.lo (by omega)⟩))
      ·
        refine S_iconst X dX12_layBeats_7 ?_
        refine S_istore_n X dX12_layBeats_8 rfl (nle rfl) ?_
        have lp9_3 : ∀ (N : Nat) (pp : Int) (Aw : Int → Int) (L : Nat → Option AV), 0 ≤ pp ∧ pp ≤ pl → reg Aw (bF ec (c5 Q 3) (c5 Q 4) B) pl b pp → L 0 = some (rv h0) → L 1 = some (iv k) → L 2 = some (iv b) → L 3 = some (iv pp) → pl + 1 - pp < (N : Int) → S_ p l e (rmD 2 0 0) s m args below meth c (MQ below (QcV D G A Po) args s 0 0 A) D G A 4 0 0 9 L [] [(h0, ob 11 f), (hQ, ar 30 Q), (hB, ar 6 B), (hA, ar 1206 Aw)] := by
          intro N
          induction N with
          | zero =>
            intro pp Aw L9 hp hreg9 hL9_0 hL9_1 hL9_2 hL9_3 hN9
            exfalso; omega
          | succ N ih9 =>
            intro pp Aw L9 hp hreg9 hL9_0 hL9_1 hL9_2 hL9_3 hN9
            refine S_iload_n X dX12_layBeats_9 rfl hL9_3 ?_
            refine S_aload_n X dX12_layBeats_10 rfl hL9_0 ?_
            refine S_get X fgX12_253_11 0 rfl hf0 dX12_layBeats_11 ?_
            refine S_icmp_ge (tgt := 55) X dX12_layBeats_14 (by decide) (by omega) (by omega) (fun c_2 => ?_) (fun c_2 => ?_)
            ·
              refine S_iinc X dX12_layBeats_55 (nle rfl) hL9_2 ?_
              refine S_goto (tgt := 2) X dX12_layBeats_58 (by decide) ?_
              exact ih2 (b + 1) Aw _ (by omega) (hreg9.next (by omega)) hL9_0 hL9_1 rfl (by omega)
            ·
              refine S_aload_n X dX12_layBeats_17 rfl hL9_0 ?_
              refine S_get X fgX12_65_11 0 rfl hf4 dX12_layBeats_18 ?_
              refine S_bipush X dX12_layBeats_21 rfl ?_
              refine S_iload_n X dX12_layBeats_23 rfl hL9_2 ?_
              refine S_imul X dX12_layBeats_24 ?_
              refine S_iload_n X dX12_layBeats_25 rfl hL9_3 ?_
              refine S_iadd X dX12_layBeats_26 ?_
              refine S_iload_n X dX12_layBeats_27 rfl hL9_2 ?_
              refine S_if_ne (tgt := 40) X dX12_layBeats_28 (by decide) (by omega) (fun c_3 => ?_) (fun c_3 => ?_)
              ·
                refine S_aload_n X dX12_layBeats_40 rfl hL9_0 ?_
                refine S_iload_n X dX12_layBeats_41 rfl hL9_2 ?_
                refine S_iconst X dX12_layBeats_42 ?_
                refine S_isub X dX12_layBeats_43 ?_
                refine S_iload_n X dX12_layBeats_44 rfl hL9_3 ?_
                refine S_calli X (kX12_beatBehind l h0 f pl n ec hQ hA Q B E Aw (b - 1) pp pp hf1 hf2 hf4 (by omega) (by omega) (by omega) (by rw [Int.sub_add_cancel]; exact hreg9)) (is := [0, 1, 3]) rfl (run_V X lkX12_303 0 rfl rfl (is := [0, 1, 3]) (avs := [iv (b - 1), iv pp]) (rest := [iv ((6 * b) + pp), rv hA]) rfl rfl (nle rfl) ⟨nle rfl, nle rfl⟩ ⟨nle rfl, nle rfl⟩ dX12_layBeats_45 (by decide) rfl) (fun z_6 u_4 hp_5 => ?_)
                obtain ⟨hz_7, hu_8⟩ := hp_5
                subst hz_7
                subst hu_8
                refine ⟨rfl, ?_⟩
                refine S_w (ws' := [(h0, ob 11 f), (hQ, ar 30 Q), (hB, ar 6 B), (hA, ar 1206 Aw)]) rfl ?_
                refine S_iast X 3 rfl (by omega) (by omega) (nle rfl) dX12_layBeats_48 ?_
                refine S_w (ws' := [(h0, ob 11 f), (hQ, ar 30 Q), (hB, ar 6 B), (hA, ar 1206 (uZ Aw ((6 * b) + pp) (nxB ec (c5 Q 3) (c5 Q 4) (bF ec (c5 Q 3) (c5 Q 4) B) (b - 1) pp)))]) rfl ?_
                refine S_iinc X dX12_layBeats_49 (nle rfl) hL9_3 ?_
                refine S_goto (tgt := 9) X dX12_layBeats_52 (by decide) ?_
                exact ih9 (pp + 1) (uZ Aw ((6 * b) + pp) (nxB ec (c5 Q 3) (c5 Q 4) (bF ec (c5 Q 3) (c5 Q 4) B) (b - 1) pp)) _ (by omega) (hreg9.put (by omega) (by omega) (by omega) (by omega) rfl (bF_P (by omega) (by omega)).symm) hL9_0 hL9_1 hL9_2 rfl (by omega)
              ·
                refine S_aload_n X dX12_layBeats_31 rfl hL9_0 ?_
                refine S_get X fgX12_46_11 0 rfl hf3 dX12_layBeats_32 ?_
                refine S_iload_n X dX12_layBeats_35 rfl hL9_3 ?_
                refine S_iald X 2 rfl (by omega) (by omega) (nle rfl) dX12_layBeats_36 ?_
                refine S_goto (tgt := 48) X dX12_layBeats_37 (by decide) ?_
                refine S_iast X 3 rfl (by omega) (by omega) (nle rfl) dX12_layBeats_48 ?_
                refine S_w (ws' := [(h0, ob 11 f), (hQ, ar 30 Q), (hB, ar 6 B), (hA, ar 1206 (uZ Aw ((6 * b) + pp) (B pp)))]) rfl ?_
                refine S_iinc X dX12_layBeats_49 (nle rfl) hL9_3 ?_
                refine S_goto (tgt := 9) X dX12_layBeats_52 (by decide) ?_
                exact ih9 (pp + 1) (uZ Aw ((6 * b) + pp) (B pp)) _ (by omega) (hreg9.put (by omega) (by omega) (by omega) (by omega) rfl (by rw [c_3]; exact bF_0.symm)) hL9_0 hL9_1 hL9_2 rfl (by omega)
        exact lp9_3 (Int.toNat (pl + 1 - 0) + 1) 0 Av _ (by omega) (hreg2) hL2_0 hL2_1 hL2_2 rfl (by omega)
  exact lp2_0 (Int.toNat (k + 1 - 0) + 1) 0 Ab _ (by omega) (reg.zero) rfl rfl rfl (by omega)
set_option maxHeartbeats 4000000 in
set_option maxRecDepth 100000 in
theorem kX12_play (l : Launch) (h0 : Nat) (f : Nat → AV) (pl : Int) (n : Int) (ec : Int) (mk : Int) (hQ : Nat) (hB : Nat) (hE : Nat) (hA : Nat) (hM : Nat) (hW : Nat) (Q : Int → Int) (B : Int → Int) (E : Int → Int) (Ab : Int → Int) (Mt : Int → Int) (Wt : Int → Int) (hf0 : f 21 = iv pl) (hf1 : f 28 = iv n) (hf2 : f 29 = iv ec) (hf3 : f 26 = iv mk) (hf4 : f 20 = rv hQ) (hf5 : f 23 = rv hB) (hf6 : f 24 = rv hE) (hf7 : f 33 = rv hA) (hf8 : f 34 = rv hM) (hf9 : f 35 = rv hW) (hok : okS pl n ec (c5 Q 3) (c5 Q 4) B E) : AMv l yX12_play cX12_play 5 3 0 0 [rv h0] [(h0, ob 11 f), (hQ, ar 30 Q), (hB, ar 6 B), (hE, ar 6 E), (hA, ar 1206 Ab), (hM, ar 180 Mt), (hW, ar 180 Wt)] (fun u => ∃ A2 : Int → Int, ∃ M2 : Int → Int, ∃ W2 : Int → Int, u = [(h0, ob 11 f), (hQ, ar 30 Q), (hB, ar 6 B), (hE, ar 6 E), (hA, ar 1206 A2), (hM, ar 180 M2), (hW, ar 180 W2)] ∧ reg A2 (bF ec (c5 Q 3) (c5 Q 4) B) pl n 0 ∧ reg M2 (tS pl ec mk (c5 Q 3) (c5 Q 4) B E) pl n 0 ∧ reg W2 (wS pl ec mk (c5 Q 3) (c5 Q 4) B E) pl n 0) := by
  refine AMv.of2 rfl (nle rfl) ?_
  intro D G A p e s m args below meth c Po hPo hnm X
  have hpl := hok.2.1
  have hpl1 := hok.1
  have hn1 := hok.2.2.1
  have hn2 := hok.2.2.2.1
  have hec := hok.2.2.2.2
  refine S_aload_n X dX12_play_0 rfl rfl ?_
  refine S_aload_n X dX12_play_1 rfl rfl ?_
  refine S_get X fgX12_56_11 0 rfl hf1 dX12_play_2 ?_
  refine S_callv X (kX12_layBeats l h0 f pl n ec hQ hB hA Q B E Ab n hf0 hf2 hf4 hf5 hf7 (by omega) (by omega)) (is := [0, 1, 2, 4]) rfl (run_V X lkX12_306 0 rfl rfl (is := [0, 1, 2, 4]) (avs := [iv n]) (rest := []) rfl rfl (nle rfl) ⟨nle rfl, nle rfl⟩ ⟨nle rfl, nle rfl⟩ dX12_play_5 (by decide) rfl) (fun u_1 hp_2 => ?_)
  obtain ⟨A2_4, hu_6, hreg_7⟩ := hp_2
  subst hu_6
  refine ⟨rfl, ?_⟩
  refine S_w (ws' := [(h0, ob 11 f), (hQ, ar 30 Q), (hB, ar 6 B), (hE, ar 6 E), (hA, ar 1206 A2_4), (hM, ar 180 Mt), (hW, ar 180 Wt)]) rfl ?_
  have hAL := hreg_7
  refine S_iconst X dX12_play_8 ?_
  refine S_istore_n X dX12_play_9 rfl (nle rfl) ?_
  have lp10_0 : ∀ (N : Nat) (b : Int) (Mv : Int → Int) (Wv : Int → Int) (L : Nat → Option AV), 0 ≤ b ∧ b ≤ n → reg Mv (tS pl ec mk (c5 Q 3) (c5 Q 4) B E) pl b 0 → reg Wv (wS pl ec mk (c5 Q 3) (c5 Q 4) B E) pl b 0 → L 0 = some (rv h0) → L 1 = some (iv b) → n + 1 - b < (N : Int) → S_ p l e (rmD 3 0 0) s m args below meth c (MQ below (QcV D G A Po) args s 0 0 A) D G A 5 0 0 10 L [] [(h0, ob 11 f), (hQ, ar 30 Q), (hB, ar 6 B), (hE, ar 6 E), (hA, ar 1206 A2_4), (hM, ar 180 Mv), (hW, ar 180 Wv)] := by
    intro N
    induction N with
    | zero =>
      intro b Mv Wv L10 hb hM10 hW10 hL10_0 hL10_1 hN10
      exfalso; omega
    | succ N ih10 =>
      intro b Mv Wv L10 hb hM10 hW10 hL10_0 hL10_1 hN10
      refine S_iload_n X dX12_play_10 rfl hL10_1 ?_
      refine S_aload_n X dX12_play_11 rfl hL10_0 ?_
      refine S_get X fgX12_56_11 0 rfl hf1 dX12_play_12 ?_
      refine S_icmp_ge (tgt := 166) X dX12_play_15 (by decide) (by omega) (by omega) (fun c_8 => ?_) (fun c_8 => ?_)
      ·
        exact S_vret X (nle rfl) (nle rfl) dX12_play_166 (hPo _ (⟨_, _, _, rfl, hAL, hM10.lo (by omega), hW10.lo (by omega)⟩))
      ·
        refine S_iconst X dX12_play_18 ?_
        refine S_istore_n X dX12_play_19 rfl (nle rfl) ?_
        refine S_iconst X dX12_play_20 ?_
        refine S_istore_n X dX12_play_21 rfl (nle rfl) ?_
        have lp22_3 : ∀ (N : Nat) (pp : Int) (mo : Int) (Mw : Int → Int) (L : Nat → Option AV), 0 ≤ pp ∧ pp ≤ pl → mo = mxI ((tS pl ec mk (c5 Q 3) (c5 Q 4) B E) b) pp → reg Mw (tS pl ec mk (c5 Q 3) (c5 Q 4) B E) pl b pp → L 0 = some (rv h0) → L 1 = some (iv b) → L 2 = some (iv mo) → L 3 = some (iv pp) → pl + 1 - pp < (N : Int) → S_ p l e (rmD 3 0 0) s m args below meth c (MQ below (QcV D G A Po) args s 0 0 A) D G A 5 0 0 22 L [] [(h0, ob 11 f), (hQ, ar 30 Q), (hB, ar 6 B), (hE, ar 6 E), (hA, ar 1206 A2_4), (hM, ar 180 Mw), (hW, ar 180 Wv)] := by
          intro N
          induction N with
          | zero =>
            intro pp mo Mw L22 hp hmo hM22 hL22_0 hL22_1 hL22_2 hL22_3 hN22
            exfalso; omega
          | succ N ih22 =>
            intro pp mo Mw L22 hp hmo hM22 hL22_0 hL22_1 hL22_2 hL22_3 hN22
            refine S_iload_n X dX12_play_22 rfl hL22_3 ?_
            refine S_aload_n X dX12_play_23 rfl hL22_0 ?_
            refine S_get X fgX12_253_11 0 rfl hf0 dX12_play_24 ?_
            refine S_icmp_ge (tgt := 107) X dX12_play_27 (by decide) (by omega) (by omega) (fun c_9 => ?_) (fun c_9 => ?_)
            ·
              have hmo2 : mo = mxI ((tS pl ec mk (c5 Q 3) (c5 Q 4) B E) b) pl := by rw [hmo]; congr 1; omega
              refine S_iconst X dX12_play_107 ?_
              refine S_istore_n X dX12_play_108 rfl (nle rfl) ?_
              have lp109_6 : ∀ (N : Nat) (q : Int) (Wx : Int → Int) (L : Nat → Option AV), 0 ≤ q ∧ q ≤ pl → reg Wx (wS pl ec mk (c5 Q 3) (c5 Q 4) B E) pl b q → L 0 = some (rv h0) → L 1 = some (iv b) → L 2 = some (iv mo) → L 3 = some (iv q) → pl + 1 - q < (N : Int) → S_ p l e (rmD 3 0 0) s m args below meth c (MQ below (QcV D G A Po) args s 0 0 A) D G A 5 0 0 109 L [] [(h0, ob 11 f), (hQ, ar 30 Q), (hB, ar 6 B), (hE, ar 6 E), (hA, ar 1206 A2_4), (hM, ar 180 Mw), (hW, ar 180 Wx)] := by
                intro N
                induction N with
                | zero =>
                  intro q Wx L109 hq hW109 hL109_0 hL109_1 hL109_2 hL109_3 hN109
                  exfalso; omega
                | succ N ih109 =>
                  intro q Wx L109 hq hW109 hL109_0 hL109_1 hL109_2 hL109_3 hN109
                  refine S_iload_n X dX12_play_109 rfl hL109_3 ?_
                  refine S_aload_n X dX12_play_110 rfl hL109_0 ?_
                  refine S_get X fgX12_253_11 0 rfl hf0 dX12_play_111 ?_
                  refine S_icmp_ge (tgt := 160) X dX12_play_114 (by decide) (by omega) (by omega) (fun c_10 => ?_) (fun c_10 => ?_)
                  ·
                    refine S_iinc X dX12_play_160 (nle rfl) hL109_1 ?_
                    refine S_goto (tgt := 10) X dX12_play_163 (by decide) ?_
                    exact ih10 (b + 1) Mw Wx _ (by omega) (hM22.next (by omega)) (hW109.next (by omega)) hL109_0 rfl (by omega)
                  ·
                    refine S_aload_n X dX12_play_117 rfl hL109_0 ?_
                    refine S_get X fgX12_71_11 0 rfl hf9 dX12_play_118 ?_
                    refine S_bipush X dX12_play_121 rfl ?_
                    refine S_iload_n X dX12_play_123 rfl hL109_1 ?_
                    refine S_imul X dX12_play_124 ?_
                    refine S_iload_n X dX12_play_125 rfl hL109_3 ?_
                    refine S_iadd X dX12_play_126 ?_
                    refine S_aload_n X dX12_play_127 rfl hL109_0 ?_
                    refine S_get X fgX12_265_11 0 rfl hf3 dX12_play_128 ?_
                    refine S_iload_n X dX12_play_131 rfl hL109_1 ?_
                    refine S_calli X (kX12_has l mk b ) (is := []) rfl (run_S X lkX12_226 (is := []) (avs := [iv mk, iv b]) (rest := [iv ((6 * b) + q), rv hW]) rfl rfl (nle rfl) ⟨nle rfl, nle rfl⟩ ⟨nle rfl, nle rfl⟩ dX12_play_132 (by decide) rfl) (fun z_13 u_11 hp_12 => ?_)
                    rcases hp_12 with ⟨hz_14, hu_15, hq_16⟩ | ⟨hz_17, hu_18, hq_19⟩
                    ·
                      subst hz_14
                      subst hu_15
                      refine ⟨rfl, ?_⟩
                      refine S_w (ws' := [(h0, ob 11 f), (hQ, ar 30 Q), (hB, ar 6 B), (hE, ar 6 E), (hA, ar 1206 A2_4), (hM, ar 180 Mw), (hW, ar 180 Wx)]) rfl ?_
                      have hv9 := zMk_0 (mk := mk) (b := b) (by have := zAnd1 (zShr mk b); omega)
                      refine S_if_eq (tgt := 142) X dX12_play_135 (by decide) (by decide) (fun _ => ?_) (fun h9 => absurd h9 (by decide))
                      refine S_aload_n X dX12_play_142 rfl hL109_0 ?_
                      refine S_get X fgX12_68_11 0 rfl hf8 dX12_play_143 ?_
                      refine S_bipush X dX12_play_146 rfl ?_
                      refine S_iload_n X dX12_play_148 rfl hL109_1 ?_
                      refine S_imul X dX12_play_149 ?_
                      refine S_iload_n X dX12_play_150 rfl hL109_3 ?_
                      refine S_iadd X dX12_play_151 ?_
                      refine S_iald X 5 rfl (by omega) (by omega) (nle rfl) dX12_play_152 ?_
                      refine S_iast X 6 rfl (by omega) (by omega) (nle rfl) dX12_play_153 ?_
                      refine S_w (ws' := [(h0, ob 11 f), (hQ, ar 30 Q), (hB, ar 6 B), (hE, ar 6 E), (hA, ar 1206 A2_4), (hM, ar 180 Mw), (hW, ar 180 (uZ Wx ((6 * b) + q) (Mw ((6 * b) + q))))]) rfl ?_
                      refine S_iinc X dX12_play_154 (nle rfl) hL109_3 ?_
                      refine S_goto (tgt := 109) X dX12_play_157 (by decide) ?_
                      exact ih109 (q + 1) (uZ Wx ((6 * b) + q) (Mw ((6 * b) + q))) _ (by omega) (hW109.put (by omega) (by omega) (by omega) (by omega) rfl (by rw [wS, wF_0 hv9]; exact hM22.at rfl (by omega) (by omega) (by omega) (by omega))) hL109_0 hL109_1 hL109_2 rfl (by omega)
                    ·
                      subst hz_17
                      subst hu_18
                      refine ⟨rfl, ?_⟩
                      refine S_w (ws' := [(h0, ob 11 f), (hQ, ar 30 Q), (hB, ar 6 B), (hE, ar 6 E), (hA, ar 1206 A2_4), (hM, ar 180 Mw), (hW, ar 180 Wx)]) rfl ?_
                      have hv9 := zMk_1 (mk := mk) (b := b) (by have := zAnd1 (zShr mk b); omega)
                      refine S_if_eq (tgt := 142) X dX12_play_135 (by decide) (by decide) (fun h9 => absurd h9 (by decide)) (fun _ => ?_)
                      refine S_iload_n X dX12_play_138 rfl hL109_2 ?_
                      refine S_goto (tgt := 153) X dX12_play_139 (by decide) ?_
                      refine S_iast X 6 rfl (by omega) (by omega) (nle rfl) dX12_play_153 ?_
                      refine S_w (ws' := [(h0, ob 11 f), (hQ, ar 30 Q), (hB, ar 6 B), (hE, ar 6 E), (hA, ar 1206 A2_4), (hM, ar 180 Mw), (hW, ar 180 (uZ Wx ((6 * b) + q) mo))]) rfl ?_
                      refine S_iinc X dX12_play_154 (nle rfl) hL109_3 ?_
                      refine S_goto (tgt := 109) X dX12_play_157 (by decide) ?_
                      exact ih109 (q + 1) (uZ Wx ((6 * b) + q) mo) _ (by omega) (hW109.put (by omega) (by omega) (by omega) (by omega) rfl (by rw [wS, wF_1 hv9, hmo2]; rfl)) hL109_0 hL109_1 hL109_2 rfl (by omega)
              exact lp109_6 (Int.toNat (pl + 1 - 0) + 1) 0 Wv _ (by omega) (hW10) hL22_0 hL22_1 hL22_2 rfl (by omega)
            ·
              refine S_iload_n X dX12_play_30 rfl hL22_1 ?_
              refine S_if_ne (tgt := 38) X dX12_play_31 (by decide) (by omega) (fun c_22 => ?_) (fun c_22 => ?_)
              ·
                refine S_aload_n X dX12_play_38 rfl hL22_0 ?_
                refine S_get X fgX12_71_11 0 rfl hf9 dX12_play_39 ?_
                refine S_bipush X dX12_play_42 rfl ?_
                refine S_iload_n X dX12_play_44 rfl hL22_1 ?_
                refine S_iconst X dX12_play_45 ?_
                refine S_isub X dX12_play_46 ?_
                refine S_imul X dX12_play_47 ?_
                refine S_iload_n X dX12_play_48 rfl hL22_3 ?_
                refine S_iadd X dX12_play_49 ?_
                refine S_iald X 6 rfl (by omega) (by omega) (nle rfl) dX12_play_50 ?_
                have hW9 := hW10.at (z := 6 * (b - 1) + pp) (x := b - 1) (y := pp) rfl (by omega) (by omega) (by omega) (by omega)
                have hWr := hok.wait (mk := mk) (b - 1) pp (by omega) (by omega) (by omega)
                have hA9 := hAL.at (z := 6 * b + pp) (x := b) (y := pp) rfl (by omega) (by omega) (by omega) (by omega)
                have hAr := hok.beat b pp (by omega) (by omega) (by omega)
                have hEr := (hok.2.2.2.2.2.2 pp (by omega) (by omega)).2.2.2
                have hmr := mxI_le (g := (tS pl ec mk (c5 Q 3) (c5 Q 4) B E) b) (K := 7470) (by omega) pp (by omega) (fun y y0 y1 => by have := (hok.time (mk := mk) b y (by omega) y0 (by omega)).2; omega)
                have hmr0 := (mxI_ge (g := (tS pl ec mk (c5 Q 3) (c5 Q 4) B E) b) pp (by omega)).1
                refine S_istore X dX12_play_51 (nle rfl) ?_
                refine S_aload_n X dX12_play_53 rfl hL22_0 ?_
                refine S_get X fgX12_68_11 0 rfl hf8 dX12_play_54 ?_
                refine S_bipush X dX12_play_57 rfl ?_
                refine S_iload_n X dX12_play_59 rfl hL22_1 ?_
                refine S_imul X dX12_play_60 ?_
                refine S_iload_n X dX12_play_61 rfl hL22_3 ?_
                refine S_iadd X dX12_play_62 ?_
                refine S_iload X dX12_play_63 rfl ?_
                refine S_aload_n X dX12_play_65 rfl hL22_0 ?_
                refine S_get X fgX12_65_11 0 rfl hf7 dX12_play_66 ?_
                refine S_bipush X dX12_play_69 rfl ?_
                refine S_iload_n X dX12_play_71 rfl hL22_1 ?_
                refine S_imul X dX12_play_72 ?_
                refine S_iload_n X dX12_play_73 rfl hL22_3 ?_
                refine S_iadd X dX12_play_74 ?_
                refine S_iald X 4 rfl (by omega) (by omega) (nle rfl) dX12_play_75 ?_
                refine S_iadd X dX12_play_76 ?_
                refine S_aload_n X dX12_play_77 rfl hL22_0 ?_
                refine S_get X fgX12_49_11 0 rfl hf6 dX12_play_78 ?_
                refine S_iload_n X dX12_play_81 rfl hL22_3 ?_
                refine S_iald X 3 rfl (by omega) (by omega) (nle rfl) dX12_play_82 ?_
                refine S_iadd X dX12_play_83 ?_
                refine S_iast X 5 rfl (by omega) (by omega) (nle rfl) dX12_play_84 ?_
                refine S_w (ws' := [(h0, ob 11 f), (hQ, ar 30 Q), (hB, ar 6 B), (hE, ar 6 E), (hA, ar 1206 A2_4), (hM, ar 180 (uZ Mw ((6 * b) + pp) (((Wv ((6 * (b - 1)) + pp)) + (A2_4 ((6 * b) + pp))) + (E pp)))), (hW, ar 180 Wv)]) rfl ?_
                refine S_iload_n X dX12_play_85 rfl hL22_2 ?_
                refine S_aload_n X dX12_play_86 rfl hL22_0 ?_
                refine S_get X fgX12_68_11 0 rfl hf8 dX12_play_87 ?_
                refine S_bipush X dX12_play_90 rfl ?_
                refine S_iload_n X dX12_play_92 rfl hL22_1 ?_
                refine S_imul X dX12_play_93 ?_
                refine S_iload_n X dX12_play_94 rfl hL22_3 ?_
                refine S_iadd X dX12_play_95 ?_
                refine S_iald X 5 rfl (by omega) (by omega) (nle rfl) dX12_play_96 ?_
                rw [uZ_at]
                refine S_mmax X lkX12_295 rfl rfl (by omega) (by omega) (nle rfl) (nle rfl) (nle rfl) (nle rfl) dX12_play_97 ?_
                refine S_istore_n X dX12_play_100 rfl (nle rfl) ?_
                refine S_iinc X dX12_play_101 (nle rfl) hL22_3 ?_
                refine S_goto (tgt := 22) X dX12_play_104 (by decide) ?_
                exact ih22 (pp + 1) (max mo (((Wv ((6 * (b - 1)) + pp)) + (A2_4 ((6 * b) + pp))) + (E pp))) (uZ Mw ((6 * b) + pp) (((Wv ((6 * (b - 1)) + pp)) + (A2_4 ((6 * b) + pp))) + (E pp))) _ (by omega) (by rw [mxI_S hp.1, hmo]; congr 1; rw [hA9, hW9]; exact (tF_P (by omega)).symm) (hM22.put (by omega) (by omega) (by omega) (by omega) rfl (by rw [hA9, hW9]; exact (tF_P (by omega)).symm)) hL22_0 hL22_1 rfl rfl (by omega)
              ·
                refine S_iconst X dX12_play_34 ?_
                refine S_goto (tgt := 51) X dX12_play_35 (by decide) ?_
                have hA9 := hAL.at (z := 6 * b + pp) (x := b) (y := pp) rfl (by omega) (by omega) (by omega) (by omega)
                have hAr := hok.beat b pp (by omega) (by omega) (by omega)
                have hEr := (hok.2.2.2.2.2.2 pp (by omega) (by omega)).2.2.2
                have hmr := mxI_le (g := (tS pl ec mk (c5 Q 3) (c5 Q 4) B E) b) (K := 7470) (by omega) pp (by omega) (fun y y0 y1 => by have := (hok.time (mk := mk) b y (by omega) y0 (by omega)).2; omega)
                have hmr0 := (mxI_ge (g := (tS pl ec mk (c5 Q 3) (c5 Q 4) B E) b) pp (by omega)).1
                refine S_istore X dX12_play_51 (nle rfl) ?_
                refine S_aload_n X dX12_play_53 rfl hL22_0 ?_
                refine S_get X fgX12_68_11 0 rfl hf8 dX12_play_54 ?_
                refine S_bipush X dX12_play_57 rfl ?_
                refine S_iload_n X dX12_play_59 rfl hL22_1 ?_
                refine S_imul X dX12_play_60 ?_
                refine S_iload_n X dX12_play_61 rfl hL22_3 ?_
                refine S_iadd X dX12_play_62 ?_
                refine S_iload X dX12_play_63 rfl ?_
                refine S_aload_n X dX12_play_65 rfl hL22_0 ?_
                refine S_get X fgX12_65_11 0 rfl hf7 dX12_play_66 ?_
                refine S_bipush X dX12_play_69 rfl ?_
                refine S_iload_n X dX12_play_71 rfl hL22_1 ?_
                refine S_imul X dX12_play_72 ?_
                refine S_iload_n X dX12_play_73 rfl hL22_3 ?_
                refine S_iadd X dX12_play_74 ?_
                refine S_iald X 4 rfl (by omega) (by omega) (nle rfl) dX12_play_75 ?_
                refine S_iadd X dX12_play_76 ?_
                refine S_aload_n X dX12_play_77 rfl hL22_0 ?_
                refine S_get X fgX12_49_11 0 rfl hf6 dX12_play_78 ?_
                refine S_iload_n X dX12_play_81 rfl hL22_3 ?_
                refine S_iald X 3 rfl (by omega) (by omega) (nle rfl) dX12_play_82 ?_
                refine S_iadd X dX12_play_83 ?_
                refine S_iast X 5 rfl (by omega) (by omega) (nle rfl) dX12_play_84 ?_
                refine S_w (ws' := [(h0, ob 11 f), (hQ, ar 30 Q), (hB, ar 6 B), (hE, ar 6 E), (hA, ar 1206 A2_4), (hM, ar 180 (uZ Mw ((6 * b) + pp) ((0 + (A2_4 ((6 * b) + pp))) + (E pp)))), (hW, ar 180 Wv)]) rfl ?_
                refine S_iload_n X dX12_play_85 rfl hL22_2 ?_
                refine S_aload_n X dX12_play_86 rfl hL22_0 ?_
                refine S_get X fgX12_68_11 0 rfl hf8 dX12_play_87 ?_
                refine S_bipush X dX12_play_90 rfl ?_
                refine S_iload_n X dX12_play_92 rfl hL22_1 ?_
                refine S_imul X dX12_play_93 ?_
                refine S_iload_n X dX12_play_94 rfl hL22_3 ?_
                refine S_iadd X dX12_play_95 ?_
                refine S_iald X 5 rfl (by omega) (by omega) (nle rfl) dX12_play_96 ?_
                rw [uZ_at]
                refine S_mmax X lkX12_295 rfl rfl (by omega) (by omega) (nle rfl) (nle rfl) (nle rfl) (nle rfl) dX12_play_97 ?_
                refine S_istore_n X dX12_play_100 rfl (nle rfl) ?_
                refine S_iinc X dX12_play_101 (nle rfl) hL22_3 ?_
                refine S_goto (tgt := 22) X dX12_play_104 (by decide) ?_
                exact ih22 (pp + 1) (max mo ((0 + (A2_4 ((6 * b) + pp))) + (E pp))) (uZ Mw ((6 * b) + pp) ((0 + (A2_4 ((6 * b) + pp))) + (E pp))) _ (by omega) (by rw [mxI_S hp.1, hmo]; congr 1; rw [hA9]; rw [show b = 0 from c_22]; exact tF_0.symm) (hM22.put (by omega) (by omega) (by omega) (by omega) rfl (by rw [hA9]; rw [show b = 0 from c_22]; exact tF_0.symm)) hL22_0 hL22_1 rfl rfl (by omega)
        exact lp22_3 (Int.toNat (pl + 1 - 0) + 1) 0 0 Mv _ (by omega) (rfl) (hM10) hL10_0 hL10_1 rfl rfl (by omega)
  exact lp10_0 (Int.toNat (n + 1 - 0) + 1) 0 Mt Wt _ (by omega) (reg.zero) (reg.zero) rfl rfl (by omega)
set_option maxHeartbeats 4000000 in
set_option maxRecDepth 100000 in
theorem kX12_spreadAt (l : Launch) (h0 : Nat) (f : Nat → AV) (pl : Int) (n : Int) (ec : Int) (mk : Int) (hM : Nat) (Q : Int → Int) (B : Int → Int) (E : Int → Int) (Mt : Int → Int) (b : Int) (hf0 : f 21 = iv pl) (hf1 : f 34 = rv hM) (hok : okS pl n ec (c5 Q 3) (c5 Q 4) B E) (hMr : reg Mt (tS pl ec mk (c5 Q 3) (c5 Q 4) B E) pl n 0) (hb : 0 ≤ b ∧ b < n) : AMi l yX12_spreadAt cX12_spreadAt 5 .int 1 0 0 [rv h0, iv b] [(h0, ob 11 f), (hM, ar 180 Mt)] (fun z u => z = sS pl ec mk (c5 Q 3) (c5 Q 4) B E b ∧ u = [(h0, ob 11 f), (hM, ar 180 Mt)]) := by
  refine AMi.of2 rfl (nle rfl) ?_
  intro D G A p e s m args below meth c Po hPo X
  have hpl := hok.2.1
  have hpl1 := hok.1
  have hn1 := hok.2.2.1
  have hn2 := hok.2.2.2.1
  have hec := hok.2.2.2.2
  have h00 := hMr.at (z := 6 * b) (x := b) (y := 0) (by omega) (by omega) (by omega) (by omega) (by omega)
  have h01 := hok.time (mk := mk) b 0 (by omega) (by omega) (by omega)
  have e0 := mxI_1 (g := (tS pl ec mk (c5 Q 3) (c5 Q 4) B E) b)
  have e1 := mnI_1 (g := (tS pl ec mk (c5 Q 3) (c5 Q 4) B E) b)
  refine S_aload_n X dX12_spreadAt_0 rfl rfl ?_
  refine S_get X fgX12_68_11 0 rfl hf1 dX12_spreadAt_1 ?_
  refine S_bipush X dX12_spreadAt_4 rfl ?_
  refine S_iload_n X dX12_spreadAt_6 rfl rfl ?_
  refine S_imul X dX12_spreadAt_7 ?_
  refine S_iald X 1 rfl (by omega) (by omega) (nle rfl) dX12_spreadAt_8 ?_
  refine S_istore_n X dX12_spreadAt_9 rfl (nle rfl) ?_
  refine S_iload_n X dX12_spreadAt_10 rfl rfl ?_
  refine S_istore_n X dX12_spreadAt_11 rfl (nle rfl) ?_
  refine S_iconst X dX12_spreadAt_12 ?_
  refine S_istore X dX12_spreadAt_13 (nle rfl) ?_
  have lp15_0 : ∀ (N : Nat) (pp : Int) (lo : Int) (hi : Int) (L : Nat → Option AV), 1 ≤ pp ∧ pp ≤ pl → lo = mnI ((tS pl ec mk (c5 Q 3) (c5 Q 4) B E) b) pp → hi = mxI ((tS pl ec mk (c5 Q 3) (c5 Q 4) B E) b) pp → L 0 = some (rv h0) → L 1 = some (iv b) → L 2 = some (iv lo) → L 3 = some (iv hi) → L 4 = some (iv pp) → pl + 1 - pp < (N : Int) → S_ p l e (rmD 1 0 0) s m args below meth c (MQ below (QcI D G A Po) args s 0 0 A) D G A 5 0 0 15 L [] [(h0, ob 11 f), (hM, ar 180 Mt)] := by
    intro N
    induction N with
    | zero =>
      intro pp lo hi L15 hp hlo hhi hL15_0 hL15_1 hL15_2 hL15_3 hL15_4 hN15
      exfalso; omega
    | succ N ih15 =>
      intro pp lo hi L15 hp hlo hhi hL15_0 hL15_1 hL15_2 hL15_3 hL15_4 hN15
      refine S_iload X dX12_spreadAt_15 hL15_4 ?_
      refine S_aload_n X dX12_spreadAt_17 rfl hL15_0 ?_
      refine S_get X fgX12_253_11 0 rfl hf0 dX12_spreadAt_18 ?_
      refine S_icmp_ge (tgt := 64) X dX12_spreadAt_21 (by decide) (by omega) (by omega) (fun c_1 => ?_) (fun c_1 => ?_)
      ·
        refine S_iload_n X dX12_spreadAt_64 rfl hL15_3 ?_
        refine S_iload_n X dX12_spreadAt_65 rfl hL15_2 ?_
        refine S_isub X dX12_spreadAt_66 ?_
        exact S_iret X (nle rfl) (nle rfl) dX12_spreadAt_67 (hPo _ _ (⟨by unfold sS; rw [hlo, hhi, show pp = pl by omega], rfl⟩))
      ·
        have h02 := hMr.at (z := 6 * b + pp) (x := b) (y := pp) rfl (by omega) (by omega) (by omega) (by omega)
        have h03 := hok.time (mk := mk) b pp (by omega) (by omega) (by omega)
        have h04 := mxI_le (g := (tS pl ec mk (c5 Q 3) (c5 Q 4) B E) b) (K := 7470) (by omega) pp (by omega) (fun y y0 y1 => by have := (hok.time (mk := mk) b y (by omega) y0 (by omega)).2; omega)
        have h05 := (mxI_ge (g := (tS pl ec mk (c5 Q 3) (c5 Q 4) B E) b) pp (by omega)).1
        have h06 := mnI_le (g := (tS pl ec mk (c5 Q 3) (c5 Q 4) B E) b) pp (by omega)
        have h07 := mnI_ge (g := (tS pl ec mk (c5 Q 3) (c5 Q 4) B E) b) (K := 1) (by omega) pp (by omega) (fun y y0 y1 => (hok.time (mk := mk) b y (by omega) y0 (by omega)).1)
        refine S_iload_n X dX12_spreadAt_24 rfl hL15_2 ?_
        refine S_aload_n X dX12_spreadAt_25 rfl hL15_0 ?_
        refine S_get X fgX12_68_11 0 rfl hf1 dX12_spreadAt_26 ?_
        refine S_bipush X dX12_spreadAt_29 rfl ?_
        refine S_iload_n X dX12_spreadAt_31 rfl hL15_1 ?_
        refine S_imul X dX12_spreadAt_32 ?_
        refine S_iload X dX12_spreadAt_33 hL15_4 ?_
        refine S_iadd X dX12_spreadAt_35 ?_
        refine S_iald X 1 rfl (by omega) (by omega) (nle rfl) dX12_spreadAt_36 ?_
        refine S_mmin X lkX12_293 rfl rfl (by omega) (by omega) (nle rfl) (nle rfl) (nle rfl) (nle rfl) dX12_spreadAt_37 ?_
        refine S_istore_n X dX12_spreadAt_40 rfl (nle rfl) ?_
        refine S_iload_n X dX12_spreadAt_41 rfl hL15_3 ?_
        refine S_aload_n X dX12_spreadAt_42 rfl hL15_0 ?_
        refine S_get X fgX12_68_11 0 rfl hf1 dX12_spreadAt_43 ?_
        refine S_bipush X dX12_spreadAt_46 rfl ?_
        refine S_iload_n X dX12_spreadAt_48 rfl hL15_1 ?_
        refine S_imul X dX12_spreadAt_49 ?_
        refine S_iload X dX12_spreadAt_50 hL15_4 ?_
        refine S_iadd X dX12_spreadAt_52 ?_
        refine S_iald X 1 rfl (by omega) (by omega) (nle rfl) dX12_spreadAt_53 ?_
        refine S_mmax X lkX12_295 rfl rfl (by omega) (by omega) (nle rfl) (nle rfl) (nle rfl) (nle rfl) dX12_spreadAt_54 ?_
        refine S_istore_n X dX12_spreadAt_57 rfl (nle rfl) ?_
        refine S_iinc X dX12_spreadAt_58 (nle rfl) hL15_4 ?_
        refine S_goto (tgt := 15) X dX12_spreadAt_61 (by decide) ?_
        exact ih15 (pp + 1) (min lo (Mt ((6 * b) + pp))) (max hi (Mt ((6 * b) + pp))) _ (by omega) (by rw [mnI_S (by omega), ← h02, ← hlo]) (by rw [mxI_S (by omega), ← h02, ← hhi]) hL15_0 hL15_1 rfl rfl rfl (by omega)
  exact lp15_0 (Int.toNat (pl + 1 - 1) + 1) 1 (Mt (6 * b)) (Mt (6 * b)) _ (by omega) (by omega) (by omega) rfl rfl rfl rfl rfl (by omega)
set_option maxHeartbeats 4000000 in
set_option maxRecDepth 100000 in
theorem kX12_worstBar (l : Launch) (h0 : Nat) (f : Nat → AV) (pl : Int) (n : Int) (ec : Int) (mk : Int) (hQ : Nat) (hB : Nat) (hE : Nat) (hA : Nat) (hM : Nat) (hW : Nat) (Q : Int → Int) (B : Int → Int) (E : Int → Int) (Ab : Int → Int) (Mt : Int → Int) (Wt : Int → Int) (hf0 : f 21 = iv pl) (hf1 : f 28 = iv n) (hf2 : f 29 = iv ec) (hf3 : f 26 = iv mk) (hf4 : f 20 = rv hQ) (hf5 : f 23 = rv hB) (hf6 : f 24 = rv hE) (hf7 : f 33 = rv hA) (hf8 : f 34 = rv hM) (hf9 : f 35 = rv hW) (hok : okS pl n ec (c5 Q 3) (c5 Q 4) B E) : AMi l yX12_worstBar cX12_worstBar 3 .int 4 0 0 [rv h0] [(h0, ob 11 f), (hQ, ar 30 Q), (hB, ar 6 B), (hE, ar 6 E), (hA, ar 1206 Ab), (hM, ar 180 Mt), (hW, ar 180 Wt)] (fun z u => ∃ A2 : Int → Int, ∃ M2 : Int → Int, ∃ W2 : Int → Int, z = amI (sS pl ec mk (c5 Q 3) (c5 Q 4) B E) n ∧ u = [(h0, ob 11 f), (hQ, ar 30 Q), (hB, ar 6 B), (hE, ar 6 E), (hA, ar 1206 A2), (hM, ar 180 M2), (hW, ar 180 W2)] ∧ reg A2 (bF ec (c5 Q 3) (c5 Q 4) B) pl n 0 ∧ reg M2 (tS pl ec mk (c5 Q 3) (c5 Q 4) B E) pl n 0 ∧ reg W2 (wS pl ec mk (c5 Q 3) (c5 Q 4) B E) pl n 0) := by
  refine AMi.of2 rfl (nle rfl) ?_
  intro D G A p e s m args below meth c Po hPo X
  have hpl := hok.2.1
  have hpl1 := hok.1
  have hn1 := hok.2.2.1
  have hn2 := hok.2.2.2.1
  have hec := hok.2.2.2.2
  refine S_aload_n X dX12_worstBar_0 rfl rfl ?_
  refine S_callv X (kX12_play l h0 f pl n ec mk hQ hB hE hA hM hW Q B E Ab Mt Wt hf0 hf1 hf2 hf3 hf4 hf5 hf6 hf7 hf8 hf9 (by omega)) (is := [0, 1, 2, 3, 4, 5, 6]) rfl (run_V X lkX12_312 0 rfl rfl (is := [0, 1, 2, 3, 4, 5, 6]) (avs := []) (rest := []) rfl rfl (nle rfl) ⟨nle rfl, nle rfl⟩ ⟨nle rfl, nle rfl⟩ dX12_worstBar_1 (by decide) rfl) (fun u_1 hp_2 => ?_)
  obtain ⟨A2_4, M2_5, W2_6, hu_8, hA2_9, hM2_10, hW2_11⟩ := hp_2
  subst hu_8
  refine ⟨rfl, ?_⟩
  refine S_w (ws' := [(h0, ob 11 f), (hQ, ar 30 Q), (hB, ar 6 B), (hE, ar 6 E), (hA, ar 1206 A2_4), (hM, ar 180 M2_5), (hW, ar 180 W2_6)]) rfl ?_
  have hAL := hA2_9
  have hML := hM2_10
  have hWL := hW2_11
  refine S_iconst X dX12_worstBar_4 ?_
  refine S_istore_n X dX12_worstBar_5 rfl (nle rfl) ?_
  refine S_iconst X dX12_worstBar_6 ?_
  refine S_istore_n X dX12_worstBar_7 rfl (nle rfl) ?_
  have lp8_0 : ∀ (N : Nat) (b : Int) (k : Int) (L : Nat → Option AV), 1 ≤ b ∧ b ≤ n → k = amI (sS pl ec mk (c5 Q 3) (c5 Q 4) B E) b → L 0 = some (rv h0) → L 1 = some (iv k) → L 2 = some (iv b) → n + 1 - b < (N : Int) → S_ p l e (rmD 4 0 0) s m args below meth c (MQ below (QcI D G A Po) args s 0 0 A) D G A 3 0 0 8 L [] [(h0, ob 11 f), (hQ, ar 30 Q), (hB, ar 6 B), (hE, ar 6 E), (hA, ar 1206 A2_4), (hM, ar 180 M2_5), (hW, ar 180 W2_6)] := by
    intro N
    induction N with
    | zero =>
      intro b k L8 hb hk hL8_0 hL8_1 hL8_2 hN8
      exfalso; omega
    | succ N ih8 =>
      intro b k L8 hb hk hL8_0 hL8_1 hL8_2 hN8
      refine S_iload_n X dX12_worstBar_8 rfl hL8_2 ?_
      refine S_aload_n X dX12_worstBar_9 rfl hL8_0 ?_
      refine S_get X fgX12_56_11 0 rfl hf1 dX12_worstBar_10 ?_
      refine S_icmp_ge (tgt := 41) X dX12_worstBar_13 (by decide) (by omega) (by omega) (fun c_12 => ?_) (fun c_12 => ?_)
      ·
        refine S_iload_n X dX12_worstBar_41 rfl hL8_1 ?_
        exact S_iret X (nle rfl) (nle rfl) dX12_worstBar_42 (hPo _ _ (⟨_, _, _, by rw [hk, show b = n by omega], rfl, hAL, hML, hWL⟩))
      ·
        have hk2 := amI_lt (g := (sS pl ec mk (c5 Q 3) (c5 Q 4) B E)) (p := b) (by omega)
        have hs1 := hok.spread (mk := mk) b (by omega) (by omega)
        have hs2 := hok.spread (mk := mk) k (by omega) (by omega)
        refine S_aload_n X dX12_worstBar_16 rfl hL8_0 ?_
        refine S_iload_n X dX12_worstBar_17 rfl hL8_2 ?_
        refine S_calli X (kX12_spreadAt l h0 f pl n ec mk hM Q B E M2_5 b hf0 hf8 (by omega) (by omega) (by omega)) (is := [0, 5]) rfl (run_V X lkX12_315 0 rfl rfl (is := [0, 5]) (avs := [iv b]) (rest := []) rfl rfl (nle rfl) ⟨nle rfl, nle rfl⟩ ⟨nle rfl, nle rfl⟩ dX12_worstBar_18 (by decide) rfl) (fun z_15 u_13 hp_14 => ?_)
        obtain ⟨hz_16, hu_17⟩ := hp_14
        subst hz_16
        subst hu_17
        refine ⟨rfl, ?_⟩
        refine S_w (ws' := [(h0, ob 11 f), (hQ, ar 30 Q), (hB, ar 6 B), (hE, ar 6 E), (hA, ar 1206 A2_4), (hM, ar 180 M2_5), (hW, ar 180 W2_6)]) rfl ?_
        refine S_aload_n X dX12_worstBar_21 rfl hL8_0 ?_
        refine S_iload_n X dX12_worstBar_22 rfl hL8_1 ?_
        refine S_calli X (kX12_spreadAt l h0 f pl n ec mk hM Q B E M2_5 k hf0 hf8 (by omega) (by omega) (by omega)) (is := [0, 5]) rfl (run_V X lkX12_315 0 rfl rfl (is := [0, 5]) (avs := [iv k]) (rest := [iv (sS pl ec mk (c5 Q 3) (c5 Q 4) B E b)]) rfl rfl (nle rfl) ⟨nle rfl, nle rfl⟩ ⟨nle rfl, nle rfl⟩ dX12_worstBar_23 (by decide) rfl) (fun z_20 u_18 hp_19 => ?_)
        obtain ⟨hz_21, hu_22⟩ := hp_19
        subst hz_21
        subst hu_22
        refine ⟨rfl, ?_⟩
        refine S_w (ws' := [(h0, ob 11 f), (hQ, ar 30 Q), (hB, ar 6 B), (hE, ar 6 E), (hA, ar 1206 A2_4), (hM, ar 180 M2_5), (hW, ar 180 W2_6)]) rfl ?_
        refine S_icmp_le (tgt := 33) X dX12_worstBar_26 (by decide) (by omega) (by omega) (fun c_23 => ?_) (fun c_23 => ?_)
        ·
          refine S_iload_n X dX12_worstBar_33 rfl hL8_1 ?_
          refine S_istore_n X dX12_worstBar_34 rfl (nle rfl) ?_
          refine S_iinc X dX12_worstBar_35 (nle rfl) hL8_2 ?_
          refine S_goto (tgt := 8) X dX12_worstBar_38 (by decide) ?_
          exact ih8 (b + 1) k _ (by omega) (by rw [amI_S (by omega), ← hk, if_neg (by omega)]) hL8_0 rfl rfl (by omega)
        ·
          refine S_iload_n X dX12_worstBar_29 rfl hL8_2 ?_
          refine S_goto (tgt := 34) X dX12_worstBar_30 (by decide) ?_
          refine S_istore_n X dX12_worstBar_34 rfl (nle rfl) ?_
          refine S_iinc X dX12_worstBar_35 (nle rfl) hL8_2 ?_
          refine S_goto (tgt := 8) X dX12_worstBar_38 (by decide) ?_
          exact ih8 (b + 1) b _ (by omega) (by rw [amI_S (by omega), ← hk, if_pos (by omega)]) hL8_0 rfl rfl (by omega)
  exact lp8_0 (Int.toNat (n + 1 - 1) + 1) 1 0 _ (by omega) (amI_1.symm) rfl rfl rfl (by omega)
set_option maxHeartbeats 4000000 in
set_option maxRecDepth 100000 in
theorem kX12_worstNow (l : Launch) (h0 : Nat) (f : Nat → AV) (pl : Int) (n : Int) (ec : Int) (mk : Int) (hQ : Nat) (hB : Nat) (hE : Nat) (hA : Nat) (hM : Nat) (hW : Nat) (Q : Int → Int) (B : Int → Int) (E : Int → Int) (Ab : Int → Int) (Mt : Int → Int) (Wt : Int → Int) (hf0 : f 21 = iv pl) (hf1 : f 28 = iv n) (hf2 : f 29 = iv ec) (hf3 : f 26 = iv mk) (hf4 : f 20 = rv hQ) (hf5 : f 23 = rv hB) (hf6 : f 24 = rv hE) (hf7 : f 33 = rv hA) (hf8 : f 34 = rv hM) (hf9 : f 35 = rv hW) (hok : okS pl n ec (c5 Q 3) (c5 Q 4) B E) : AMi l yX12_worstNow cX12_worstNow 1 .int 5 0 0 [rv h0] [(h0, ob 11 f), (hQ, ar 30 Q), (hB, ar 6 B), (hE, ar 6 E), (hA, ar 1206 Ab), (hM, ar 180 Mt), (hW, ar 180 Wt)] (fun z u => ∃ A2 : Int → Int, ∃ M2 : Int → Int, ∃ W2 : Int → Int, z = WO pl n ec mk (c5 Q 3) (c5 Q 4) B E ∧ u = [(h0, ob 11 f), (hQ, ar 30 Q), (hB, ar 6 B), (hE, ar 6 E), (hA, ar 1206 A2), (hM, ar 180 M2), (hW, ar 180 W2)]) := by
  refine AMi.of2 rfl (nle rfl) ?_
  intro D G A p e s m args below meth c Po hPo X
  have hpl := hok.2.1
  have hpl1 := hok.1
  have hn1 := hok.2.2.1
  have hn2 := hok.2.2.2.1
  have hec := hok.2.2.2.2
  have hk2 := amI_lt (g := (sS pl ec mk (c5 Q 3) (c5 Q 4) B E)) (p := n) (by omega)
  refine S_aload_n X dX12_worstNow_0 rfl rfl ?_
  refine S_aload_n X dX12_worstNow_1 rfl rfl ?_
  refine S_calli X (kX12_worstBar l h0 f pl n ec mk hQ hB hE hA hM hW Q B E Ab Mt Wt hf0 hf1 hf2 hf3 hf4 hf5 hf6 hf7 hf8 hf9 (by omega)) (is := [0, 1, 2, 3, 4, 5, 6]) rfl (run_V X lkX12_318 0 rfl rfl (is := [0, 1, 2, 3, 4, 5, 6]) (avs := []) (rest := [rv h0]) rfl rfl (nle rfl) ⟨nle rfl, nle rfl⟩ ⟨nle rfl, nle rfl⟩ dX12_worstNow_2 (by decide) rfl) (fun z_3 u_1 hp_2 => ?_)
  obtain ⟨A2_4, M2_5, W2_6, hz_7, hu_8, hA2_9, hM2_10, hW2_11⟩ := hp_2
  subst hz_7
  subst hu_8
  refine ⟨rfl, ?_⟩
  refine S_w (ws' := [(h0, ob 11 f), (hQ, ar 30 Q), (hB, ar 6 B), (hE, ar 6 E), (hA, ar 1206 A2_4), (hM, ar 180 M2_5), (hW, ar 180 W2_6)]) rfl ?_
  refine S_calli X (kX12_spreadAt l h0 f pl n ec mk hM Q B E M2_5 (amI (sS pl ec mk (c5 Q 3) (c5 Q 4) B E) n) hf0 hf8 (by omega) (by omega) (by omega)) (is := [0, 5]) rfl (run_V X lkX12_315 0 rfl rfl (is := [0, 5]) (avs := [iv (amI (sS pl ec mk (c5 Q 3) (c5 Q 4) B E) n)]) (rest := []) rfl rfl (nle rfl) ⟨nle rfl, nle rfl⟩ ⟨nle rfl, nle rfl⟩ dX12_worstNow_5 (by decide) rfl) (fun z_14 u_12 hp_13 => ?_)
  obtain ⟨hz_15, hu_16⟩ := hp_13
  subst hz_15
  subst hu_16
  refine ⟨rfl, ?_⟩
  refine S_w (ws' := [(h0, ob 11 f), (hQ, ar 30 Q), (hB, ar 6 B), (hE, ar 6 E), (hA, ar 1206 A2_4), (hM, ar 180 M2_5), (hW, ar 180 W2_6)]) rfl ?_
  exact S_iret X (nle rfl) (nle rfl) dX12_worstNow_8 (hPo _ _ (⟨_, _, _, WO_am hok, rfl⟩))
set_option maxHeartbeats 4000000 in
set_option maxRecDepth 100000 in
theorem kX12_lastAt (l : Launch) (h0 : Nat) (f : Nat → AV) (pl : Int) (n : Int) (ec : Int) (mk : Int) (hM : Nat) (Q : Int → Int) (B : Int → Int) (E : Int → Int) (Mt : Int → Int) (b : Int) (hf0 : f 21 = iv pl) (hf1 : f 34 = rv hM) (hok : okS pl n ec (c5 Q 3) (c5 Q 4) B E) (hMr : reg Mt (tS pl ec mk (c5 Q 3) (c5 Q 4) B E) pl n 0) (hb : 0 ≤ b ∧ b < n) : AMi l yX12_lastAt cX12_lastAt 4 .int 0 0 0 [rv h0, iv b] [(h0, ob 11 f), (hM, ar 180 Mt)] (fun z u => z = amI ((tS pl ec mk (c5 Q 3) (c5 Q 4) B E) b) pl ∧ u = [(h0, ob 11 f), (hM, ar 180 Mt)]) := by
  refine AMi.of2 rfl (nle rfl) ?_
  intro D G A p e s m args below meth c Po hPo X
  have hpl := hok.2.1
  have hpl1 := hok.1
  have hn1 := hok.2.2.1
  have hn2 := hok.2.2.2.1
  have hec := hok.2.2.2.2
  refine S_iconst X dX12_lastAt_0 ?_
  refine S_istore_n X dX12_lastAt_1 rfl (nle rfl) ?_
  refine S_iconst X dX12_lastAt_2 ?_
  refine S_istore_n X dX12_lastAt_3 rfl (nle rfl) ?_
  have lp4_0 : ∀ (N : Nat) (pp : Int) (k : Int) (L : Nat → Option AV), 1 ≤ pp ∧ pp ≤ pl → k = amI ((tS pl ec mk (c5 Q 3) (c5 Q 4) B E) b) pp → L 0 = some (rv h0) → L 1 = some (iv b) → L 2 = some (iv k) → L 3 = some (iv pp) → pl + 1 - pp < (N : Int) → S_ p l e (rmD 0 0 0) s m args below meth c (MQ below (QcI D G A Po) args s 0 0 A) D G A 4 0 0 4 L [] [(h0, ob 11 f), (hM, ar 180 Mt)] := by
    intro N
    induction N with
    | zero =>
      intro pp k L4 hp hk hL4_0 hL4_1 hL4_2 hL4_3 hN4
      exfalso; omega
    | succ N ih4 =>
      intro pp k L4 hp hk hL4_0 hL4_1 hL4_2 hL4_3 hN4
      refine S_iload_n X dX12_lastAt_4 rfl hL4_3 ?_
      refine S_aload_n X dX12_lastAt_5 rfl hL4_0 ?_
      refine S_get X fgX12_253_11 0 rfl hf0 dX12_lastAt_6 ?_
      refine S_icmp_ge (tgt := 49) X dX12_lastAt_9 (by decide) (by omega) (by omega) (fun c_1 => ?_) (fun c_1 => ?_)
      ·
        refine S_iload_n X dX12_lastAt_49 rfl hL4_2 ?_
        exact S_iret X (nle rfl) (nle rfl) dX12_lastAt_50 (hPo _ _ (⟨by rw [hk, show pp = pl by omega], rfl⟩))
      ·
        have hk2 := amI_lt (g := (tS pl ec mk (c5 Q 3) (c5 Q 4) B E) b) (p := pp) (by omega)
        have hm1 := hMr.at (z := 6 * b + pp) (x := b) (y := pp) rfl (by omega) (by omega) (by omega) (by omega)
        have hm2 := hMr.at (z := 6 * b + k) (x := b) (y := k) rfl (by omega) (by omega) (by omega) (by omega)
        have ht1 := hok.time (mk := mk) b pp (by omega) (by omega) (by omega)
        have ht2 := hok.time (mk := mk) b k (by omega) (by omega) (by omega)
        refine S_aload_n X dX12_lastAt_12 rfl hL4_0 ?_
        refine S_get X fgX12_68_11 0 rfl hf1 dX12_lastAt_13 ?_
        refine S_bipush X dX12_lastAt_16 rfl ?_
        refine S_iload_n X dX12_lastAt_18 rfl hL4_1 ?_
        refine S_imul X dX12_lastAt_19 ?_
        refine S_iload_n X dX12_lastAt_20 rfl hL4_3 ?_
        refine S_iadd X dX12_lastAt_21 ?_
        refine S_iald X 1 rfl (by omega) (by omega) (nle rfl) dX12_lastAt_22 ?_
        refine S_aload_n X dX12_lastAt_23 rfl hL4_0 ?_
        refine S_get X fgX12_68_11 0 rfl hf1 dX12_lastAt_24 ?_
        refine S_bipush X dX12_lastAt_27 rfl ?_
        refine S_iload_n X dX12_lastAt_29 rfl hL4_1 ?_
        refine S_imul X dX12_lastAt_30 ?_
        refine S_iload_n X dX12_lastAt_31 rfl hL4_2 ?_
        refine S_iadd X dX12_lastAt_32 ?_
        refine S_iald X 1 rfl (by omega) (by omega) (nle rfl) dX12_lastAt_33 ?_
        refine S_icmp_le (tgt := 41) X dX12_lastAt_34 (by decide) (by omega) (by omega) (fun c_2 => ?_) (fun c_2 => ?_)
        ·
          refine S_iload_n X dX12_lastAt_41 rfl hL4_2 ?_
          refine S_istore_n X dX12_lastAt_42 rfl (nle rfl) ?_
          refine S_iinc X dX12_lastAt_43 (nle rfl) hL4_3 ?_
          refine S_goto (tgt := 4) X dX12_lastAt_46 (by decide) ?_
          exact ih4 (pp + 1) k _ (by omega) (by rw [amI_S (by omega), ← hk, if_neg (by omega)]) hL4_0 hL4_1 rfl rfl (by omega)
        ·
          refine S_iload_n X dX12_lastAt_37 rfl hL4_3 ?_
          refine S_goto (tgt := 42) X dX12_lastAt_38 (by decide) ?_
          refine S_istore_n X dX12_lastAt_42 rfl (nle rfl) ?_
          refine S_iinc X dX12_lastAt_43 (nle rfl) hL4_3 ?_
          refine S_goto (tgt := 4) X dX12_lastAt_46 (by decide) ?_
          exact ih4 (pp + 1) pp _ (by omega) (by rw [amI_S (by omega), ← hk, if_pos (by omega)]) hL4_0 hL4_1 rfl rfl (by omega)
  exact lp4_0 (Int.toNat (pl + 1 - 1) + 1) 1 0 _ (by omega) (amI_1.symm) rfl rfl rfl rfl (by omega)
