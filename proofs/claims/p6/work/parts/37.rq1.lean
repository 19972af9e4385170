theorem sm01 {f : Int → Int} (h : ∀ y, f y = 0 ∨ f y = 1) : ∀ p, 0 ≤ p → 0 ≤ smI f p ∧ smI f p ≤ p := by
  refine upI ⟨Int.le_refl _, Int.le_refl _⟩ (fun p hp ih => ?_)
  rw [smI_S hp]
  have := h p
  omega
theorem sm_le {f : Int → Int} {K : Int} : ∀ p, 0 ≤ p → (∀ y, 0 ≤ y → y < p → 0 ≤ f y ∧ f y ≤ K) → 0 ≤ smI f p ∧ smI f p ≤ K * p := by
  refine upI (fun _ => by rw [smI_0]; omega) (fun p hp ih h => ?_)
  rw [smI_S hp]
  have h1 := ih (fun y h0 h1 => h y h0 (by omega))
  have h2 := h p hp (by omega)
  have e : K * (p + 1) = K * p + K := by rw [Int.mul_add, Int.mul_one]
  omega
theorem rk01 {g : Int → Int} {p : Int} : ∀ y, (fun o => if g o < g p ∨ g p = g o ∧ o < p then (1 : Int) else 0) y = 0 ∨ (fun o => if g o < g p ∨ g p = g o ∧ o < p then (1 : Int) else 0) y = 1 := by
  intro y
  dsimp only
  split
  · exact Or.inr rfl
  · exact Or.inl rfl
theorem ov01 {g : Int → Int → Int} {i j : Int} : ∀ y, (fun b => if 1 ≤ b ∧ cmI (g b i) (g b j) ≠ 0 ∧ cmI (g b i) (g b j) ≠ cmI (g (b - 1) i) (g (b - 1) j) then (1 : Int) else 0) y = 0 ∨ (fun b => if 1 ≤ b ∧ cmI (g b i) (g b j) ≠ 0 ∧ cmI (g b i) (g b j) ≠ cmI (g (b - 1) i) (g (b - 1) j) then (1 : Int) else 0) y = 1 := by
  intro y
  dsimp only
  split
  · exact Or.inr rfl
  · exact Or.inl rfl
theorem smI_1 {f : Int → Int} : smI f 1 = 0 + f 0 := rfl
theorem fiI_1 {P : Int → Bool} (h : P 0 = false) : fiI P 1 = -1 := by
  have e : fiI P 1 = if fiI P 0 = -1 ∧ P 0 = true then 0 else fiI P 0 := fiI_S (Int.le_refl 0)
  rw [e, h, fiI_0, if_neg (fun h => by cases h.2)]
theorem cmI_in (x y : Int) : -1 ≤ cmI x y ∧ cmI x y ≤ 1 := by unfold cmI; (repeat' split) <;> omega
theorem ld_in {pl n ec mk p : Int} {Fo Ho B0 Lt : Int → Int} (h : okS pl n ec Fo Ho B0 Lt) (hp : 0 ≤ p ∧ p < pl) : ∀ f, 0 ≤ f → f ≤ pl → (-1 ≤ (ldI pl n ec mk Fo Ho B0 Lt p f).1 ∧ (ldI pl n ec mk Fo Ho B0 Lt p f).1 < pl) ∧ 0 ≤ (ldI pl n ec mk Fo Ho B0 Lt p f).2 ∧ (ldI pl n ec mk Fo Ho B0 Lt p f).2 ≤ 7470 := by
  refine upI (fun h0 => ?_) (fun f hf ih h0 => ?_)
  · rw [ldI_0]
    have := (h.fo (p := p) (v := -1) (by omega)).worst (mk := mk)
    exact ⟨⟨by dsimp only; omega, by dsimp only; omega⟩, this⟩
  · rw [ldI_S hf]
    split
    · have := (h.fo (p := p) (v := f) (by omega)).worst (mk := mk)
      exact ⟨⟨by dsimp only; omega, by dsimp only; omega⟩, this⟩
    · exact ih (by omega)
def ehI (pl n mk : Int) (Fo Ho B0 Lt : Int → Int) (e : Int) : Int × Int := ehN pl n mk Fo Ho B0 Lt e.toNat
theorem ehI_0 {pl n mk : Int} {Fo Ho B0 Lt : Int → Int} : ehI pl n mk Fo Ho B0 Lt 0 = (0, WO pl n 0 mk Fo Ho B0 Lt) := rfl
theorem ehI_S {pl n mk e : Int} {Fo Ho B0 Lt : Int → Int} (he : 0 ≤ e) : ehI pl n mk Fo Ho B0 Lt (e + 1) = if WO pl n (e + 1) mk Fo Ho B0 Lt < (ehI pl n mk Fo Ho B0 Lt e).2 then (e + 1, WO pl n (e + 1) mk Fo Ho B0 Lt) else ehI pl n mk Fo Ho B0 Lt e := by
  unfold ehI
  rw [toNat_S he, ehN, toNat_c he]
theorem fiB_in {pl n ec mk rl p : Int} {Fo Ho B0 Lt P1 B1 T1 : Int → Int} : ∀ f : Nat, inR (fiB pl n ec mk Fo Ho B0 Lt rl P1 B1 T1 p f) := by
  intro f
  induction f with
  | zero => rw [fiB]; split <;> (constructor <;> decide)
  | succ f ih => rw [fiB]; split
                 · exact zOr_r _ _
                 · exact ih
theorem agB_1 {pl n ec mk rl p f : Int} {Fo Ho B0 Lt P1 B1 T1 : Int → Int} (h : agR pl n ec mk Fo Ho B0 Lt rl P1 B1 T1 p f) : agB pl n ec mk Fo Ho B0 Lt rl P1 B1 T1 p f = true := by
  unfold agB
  exact @decide_eq_true _ (Classical.propDecidable _) h
theorem agB_0 {pl n ec mk rl p f : Int} {Fo Ho B0 Lt P1 B1 T1 : Int → Int} (h : ¬ agR pl n ec mk Fo Ho B0 Lt rl P1 B1 T1 p f) : agB pl n ec mk Fo Ho B0 Lt rl P1 B1 T1 p f = false := by
  unfold agB
  exact @decide_eq_false _ (Classical.propDecidable _) h
theorem mid_step {g : Int → Int} {q pl be le be2 le2 cnt : Int} (hq : 0 ≤ q) (h : q = 0 ∧ be = -1 ∧ le = 0 ∨ 1 ≤ q ∧ be = amI (fun p => -apI g pl p) q ∧ le = apI g pl be ∧ 0 ≤ le ∧ le ≤ 44820 ∧ 0 ≤ be) (hc : cnt = apI g pl q) (hcr : 0 ≤ cnt ∧ cnt ≤ 44820)
    (h2 : be2 = q ∧ le2 = cnt ∧ (be = -1 ∨ cnt < le) ∨ be2 = be ∧ le2 = le ∧ ¬ (be = -1 ∨ cnt < le)) : q + 1 = 0 ∧ be2 = -1 ∧ le2 = 0 ∨ 1 ≤ q + 1 ∧ be2 = amI (fun p => -apI g pl p) (q + 1) ∧ le2 = apI g pl be2 ∧ 0 ≤ le2 ∧ le2 ≤ 44820 ∧ 0 ≤ be2 := by
  refine Or.inr ⟨by omega, ?_⟩
  rcases h with ⟨a1, a2, a3⟩ | ⟨a1, a2, a3, a4, a5, a6⟩
  · rcases h2 with ⟨b1, b2, b3⟩ | ⟨b1, b2, b3⟩
    · refine ⟨?_, by rw [b2, b1, hc], by omega, by omega, by omega⟩
      rw [b1, a1]
      exact amI_1.symm
    · exact absurd (Or.inl a2) b3
  · rw [amI_S hq, ← a2, ← a3, ← hc]
    rcases h2 with ⟨b1, b2, b3⟩ | ⟨b1, b2, b3⟩
    · rw [if_pos (by omega), b2, b1]
      exact ⟨rfl, hc, by omega, by omega, by omega⟩
    · rw [if_neg (by omega), b1, b2]
      exact ⟨rfl, a3, by omega, by omega, by omega⟩
set_option maxHeartbeats 4000000 in
set_option maxRecDepth 100000 in
theorem kX12_time (l : Launch) (h0 : Nat) (f : Nat → AV) (pl : Int) (n : Int) (ec : Int) (mk : Int) (hQ : Nat) (hB : Nat) (hE : Nat) (hA : Nat) (hM : Nat) (hW : Nat) (Q : Int → Int) (B : Int → Int) (E : Int → Int) (Ab : Int → Int) (Mt : Int → Int) (Wt : Int → Int) (pp : Int) (b : Int) (v : Int) (hf0 : f 21 = iv pl) (hf1 : f 28 = iv n) (hf2 : f 29 = iv ec) (hf3 : f 26 = iv mk) (hf4 : f 20 = rv hQ) (hf5 : f 23 = rv hB) (hf6 : f 24 = rv hE) (hf7 : f 33 = rv hA) (hf8 : f 34 = rv hM) (hf9 : f 35 = rv hW) (hz : okZ pl n ec (c5 Q 3) (c5 Q 4) B E) (hx_pp : inR pp) (hx_b : inR b) (hx_v : inR v) : AMi l yX12_time cX12_time 4 .int 4 0 0 [rv h0, iv pp, iv b, iv v] [(h0, ob 11 f), (hQ, ar 30 Q), (hB, ar 6 B), (hE, ar 6 E), (hA, ar 1206 Ab), (hM, ar 180 Mt), (hW, ar 180 Wt)] (fun z u => ∃ A2 : Int → Int, ∃ M2 : Int → Int, ∃ W2 : Int → Int, z = aTime pl n ec mk (c5 Q 3) (c5 Q 4) B E pp b v ∧ u = [(h0, ob 11 f), (hQ, ar 30 Q), (hB, ar 6 B), (hE, ar 6 E), (hA, ar 1206 A2), (hM, ar 180 M2), (hW, ar 180 W2)]) := by
  refine AMi.of2 rfl (nle rfl) ?_
  intro D G A p e s m args below meth c Po hPo X
  have hz6 := hz.2.1
  have hz0 := hz.1
  have hzn := hz.2.2.1
  have hzm := hz.2.2.2.1
  have hze := hz.2.2.2.2
  refine S_aload_n X dX12_time_0 rfl rfl ?_
  refine S_iload_n X dX12_time_1 rfl rfl ?_
  refine S_calli X (kX12_isPlayer l h0 f pl pp hf0 (by omega) (by omega)) (is := [0]) rfl (run_V X lkX12_281 0 rfl rfl (is := [0]) (avs := [iv pp]) (rest := []) rfl rfl (nle rfl) ⟨nle rfl, nle rfl⟩ ⟨nle rfl, nle rfl⟩ dX12_time_2 (by decide) rfl) (fun z_3 u_1 hp_2 => ?_)
  rcases hp_2 with ⟨hz_4, hu_5, hq_6⟩ | ⟨hz_7, hu_8, hq_9⟩
  ·
    subst hz_4
    subst hu_5
    refine ⟨rfl, ?_⟩
    refine S_w (ws' := [(h0, ob 11 f), (hQ, ar 30 Q), (hB, ar 6 B), (hE, ar 6 E), (hA, ar 1206 Ab), (hM, ar 180 Mt), (hW, ar 180 Wt)]) rfl ?_
    refine S_if_eq (tgt := 25) X dX12_time_5 (by decide) (by decide) (fun _ => ?_) (fun h9 => absurd h9 (by decide))
    refine S_iconst X dX12_time_25 ?_
    exact S_iret X (nle rfl) (nle rfl) dX12_time_26 (hPo _ _ (⟨_, _, _, by unfold aTime; rw [if_neg (by omega)], rfl⟩))
  ·
    subst hz_7
    subst hu_8
    refine ⟨rfl, ?_⟩
    refine S_w (ws' := [(h0, ob 11 f), (hQ, ar 30 Q), (hB, ar 6 B), (hE, ar 6 E), (hA, ar 1206 Ab), (hM, ar 180 Mt), (hW, ar 180 Wt)]) rfl ?_
    refine S_if_eq (tgt := 25) X dX12_time_5 (by decide) (by decide) (fun h9 => absurd h9 (by decide)) (fun _ => ?_)
    refine S_aload_n X dX12_time_8 rfl rfl ?_
    refine S_iload_n X dX12_time_9 rfl rfl ?_
    refine S_calli X (kX12_isBar l h0 f pl n b hf0 hf1 (by omega) (by omega) (by omega)) (is := [0]) rfl (run_V X lkX12_309 0 rfl rfl (is := [0]) (avs := [iv b]) (rest := []) rfl rfl (nle rfl) ⟨nle rfl, nle rfl⟩ ⟨nle rfl, nle rfl⟩ dX12_time_10 (by decide) rfl) (fun z_14 u_12 hp_13 => ?_)
    rcases hp_13 with ⟨hz_15, hu_16, hq_17⟩ | ⟨hz_18, hu_19, hq_20⟩
    ·
      subst hz_15
      subst hu_16
      refine ⟨rfl, ?_⟩
      refine S_w (ws' := [(h0, ob 11 f), (hQ, ar 30 Q), (hB, ar 6 B), (hE, ar 6 E), (hA, ar 1206 Ab), (hM, ar 180 Mt), (hW, ar 180 Wt)]) rfl ?_
      refine S_if_eq (tgt := 25) X dX12_time_13 (by decide) (by decide) (fun _ => ?_) (fun h9 => absurd h9 (by decide))
      refine S_iconst X dX12_time_25 ?_
      exact S_iret X (nle rfl) (nle rfl) dX12_time_26 (hPo _ _ (⟨_, _, _, by unfold aTime; rw [if_neg (by omega)], rfl⟩))
    ·
      subst hz_18
      subst hu_19
      refine ⟨rfl, ?_⟩
      refine S_w (ws' := [(h0, ob 11 f), (hQ, ar 30 Q), (hB, ar 6 B), (hE, ar 6 E), (hA, ar 1206 Ab), (hM, ar 180 Mt), (hW, ar 180 Wt)]) rfl ?_
      refine S_if_eq (tgt := 25) X dX12_time_13 (by decide) (by decide) (fun h9 => absurd h9 (by decide)) (fun _ => ?_)
      refine S_iload_n X dX12_time_16 rfl rfl ?_
      refine S_iconst X dX12_time_17 ?_
      refine S_iconst X dX12_time_18 ?_
      refine S_calli X (kX12_in l v 0 2 (by omega) (by omega) (by omega)) (is := []) rfl (run_S X lkX12_216 (is := []) (avs := [iv v, iv 0, iv 2]) (rest := []) rfl rfl (nle rfl) ⟨nle rfl, nle rfl⟩ ⟨nle rfl, nle rfl⟩ dX12_time_19 (by decide) rfl) (fun z_25 u_23 hp_24 => ?_)
      rcases hp_24 with ⟨hz_26, hu_27, hq_28⟩ | ⟨hz_29, hu_30, hq_31⟩
      ·
        subst hz_26
        subst hu_27
        refine ⟨rfl, ?_⟩
        refine S_w (ws' := [(h0, ob 11 f), (hQ, ar 30 Q), (hB, ar 6 B), (hE, ar 6 E), (hA, ar 1206 Ab), (hM, ar 180 Mt), (hW, ar 180 Wt)]) rfl ?_
        refine S_if_ne (tgt := 27) X dX12_time_22 (by decide) (by decide) (fun h9 => absurd h9 (by decide)) (fun _ => ?_)
        refine S_iconst X dX12_time_25 ?_
        exact S_iret X (nle rfl) (nle rfl) dX12_time_26 (hPo _ _ (⟨_, _, _, by unfold aTime; rw [if_neg (by omega)], rfl⟩))
      ·
        subst hz_29
        subst hu_30
        refine ⟨rfl, ?_⟩
        refine S_w (ws' := [(h0, ob 11 f), (hQ, ar 30 Q), (hB, ar 6 B), (hE, ar 6 E), (hA, ar 1206 Ab), (hM, ar 180 Mt), (hW, ar 180 Wt)]) rfl ?_
        refine S_if_ne (tgt := 27) X dX12_time_22 (by decide) (by decide) (fun _ => ?_) (fun h9 => absurd h9 (by decide))
        have hok := hz.s (by omega)
        have hpl := hok.2.1
        have hpl1 := hok.1
        have hn1 := hok.2.2.1
        have hn2 := hok.2.2.2.1
        have hec := hok.2.2.2.2
        refine S_aload_n X dX12_time_27 rfl rfl ?_
        refine S_callv X (kX12_play l h0 f pl n ec mk hQ hB hE hA hM hW Q B E Ab Mt Wt hf0 hf1 hf2 hf3 hf4 hf5 hf6 hf7 hf8 hf9 (by omega)) (is := [0, 1, 2, 3, 4, 5, 6]) rfl (run_V X lkX12_312 0 rfl rfl (is := [0, 1, 2, 3, 4, 5, 6]) (avs := []) (rest := []) rfl rfl (nle rfl) ⟨nle rfl, nle rfl⟩ ⟨nle rfl, nle rfl⟩ dX12_time_28 (by decide) rfl) (fun u_34 hp_35 => ?_)
        obtain ⟨A2_37, M2_38, W2_39, hu_41, hA2_42, hM2_43, hW2_44⟩ := hp_35
        subst hu_41
        refine ⟨rfl, ?_⟩
        refine S_w (ws' := [(h0, ob 11 f), (hQ, ar 30 Q), (hB, ar 6 B), (hE, ar 6 E), (hA, ar 1206 A2_37), (hM, ar 180 M2_38), (hW, ar 180 W2_39)]) rfl ?_
        have hAL := hA2_42
        have hML := hM2_43
        have hWL := hW2_44
        refine S_iload_n X dX12_time_31 rfl rfl ?_
        refine S_if_ne (tgt := 49) X dX12_time_32 (by decide) (by omega) (fun c_45 => ?_) (fun c_45 => ?_)
        ·
          refine S_iload_n X dX12_time_49 rfl rfl ?_
          refine S_iconst X dX12_time_50 ?_
          refine S_icmp_ne (tgt := 68) X dX12_time_51 (by decide) (by omega) (by decide) (fun c_46 => ?_) (fun c_46 => ?_)
          ·
            refine S_aload_n X dX12_time_68 rfl rfl ?_
            refine S_get X fgX12_65_11 0 rfl hf7 dX12_time_69 ?_
            refine S_bipush X dX12_time_72 rfl ?_
            refine S_iload_n X dX12_time_74 rfl rfl ?_
            refine S_imul X dX12_time_75 ?_
            refine S_iload_n X dX12_time_76 rfl rfl ?_
            refine S_iadd X dX12_time_77 ?_
            refine S_iald X 4 rfl (by omega) (by omega) (nle rfl) dX12_time_78 ?_
            exact S_iret X (nle rfl) (nle rfl) dX12_time_79 (hPo _ _ (⟨_, _, _, by unfold aTime; rw [if_pos (by omega)]; first | (rw [if_pos (by omega)]; exact hML.at rfl (by omega) (by omega) (by omega) (by omega)) | (rw [if_neg (by omega), if_pos (by omega)]; exact hWL.at rfl (by omega) (by omega) (by omega) (by omega)) | (rw [if_neg (by omega), if_neg (by omega)]; exact hAL.at rfl (by omega) (by omega) (by omega) (by omega)), rfl⟩))
          ·
            refine S_aload_n X dX12_time_54 rfl rfl ?_
            refine S_get X fgX12_71_11 0 rfl hf9 dX12_time_55 ?_
            refine S_bipush X dX12_time_58 rfl ?_
            refine S_iload_n X dX12_time_60 rfl rfl ?_
            refine S_imul X dX12_time_61 ?_
            refine S_iload_n X dX12_time_62 rfl rfl ?_
            refine S_iadd X dX12_time_63 ?_
            refine S_iald X 6 rfl (by omega) (by omega) (nle rfl) dX12_time_64 ?_
            refine S_goto (tgt := 79) X dX12_time_65 (by decide) ?_
            exact S_iret X (nle rfl) (nle rfl) dX12_time_79 (hPo _ _ (⟨_, _, _, by unfold aTime; rw [if_pos (by omega)]; first | (rw [if_pos (by omega)]; exact hML.at rfl (by omega) (by omega) (by omega) (by omega)) | (rw [if_neg (by omega), if_pos (by omega)]; exact hWL.at rfl (by omega) (by omega) (by omega) (by omega)) | (rw [if_neg (by omega), if_neg (by omega)]; exact hAL.at rfl (by omega) (by omega) (by omega) (by omega)), rfl⟩))
        ·
          refine S_aload_n X dX12_time_35 rfl rfl ?_
          refine S_get X fgX12_68_11 0 rfl hf8 dX12_time_36 ?_
          refine S_bipush X dX12_time_39 rfl ?_
          refine S_iload_n X dX12_time_41 rfl rfl ?_
          refine S_imul X dX12_time_42 ?_
          refine S_iload_n X dX12_time_43 rfl rfl ?_
          refine S_iadd X dX12_time_44 ?_
          refine S_iald X 5 rfl (by omega) (by omega) (nle rfl) dX12_time_45 ?_
          refine S_goto (tgt := 79) X dX12_time_46 (by decide) ?_
          exact S_iret X (nle rfl) (nle rfl) dX12_time_79 (hPo _ _ (⟨_, _, _, by unfold aTime; rw [if_pos (by omega)]; first | (rw [if_pos (by omega)]; exact hML.at rfl (by omega) (by omega) (by omega) (by omega)) | (rw [if_neg (by omega), if_pos (by omega)]; exact hWL.at rfl (by omega) (by omega) (by omega) (by omega)) | (rw [if_neg (by omega), if_neg (by omega)]; exact hAL.at rfl (by omega) (by omega) (by omega) (by omega)), rfl⟩))
set_option maxHeartbeats 4000000 in
set_option maxRecDepth 100000 in
theorem kX12_spread (l : Launch) (h0 : Nat) (f : Nat → AV) (pl : Int) (n : Int) (ec : Int) (mk : Int) (hQ : Nat) (hB : Nat) (hE : Nat) (hA : Nat) (hM : Nat) (hW : Nat) (Q : Int → Int) (B : Int → Int) (E : Int → Int) (Ab : Int → Int) (Mt : Int → Int) (Wt : Int → Int) (b : Int) (hf0 : f 21 = iv pl) (hf1 : f 28 = iv n) (hf2 : f 29 = iv ec) (hf3 : f 26 = iv mk) (hf4 : f 20 = rv hQ) (hf5 : f 23 = rv hB) (hf6 : f 24 = rv hE) (hf7 : f 33 = rv hA) (hf8 : f 34 = rv hM) (hf9 : f 35 = rv hW) (hz : okZ pl n ec (c5 Q 3) (c5 Q 4) B E) (hx_b : inR b) : AMi l yX12_spread cX12_spread 2 .int 4 0 0 [rv h0, iv b] [(h0, ob 11 f), (hQ, ar 30 Q), (hB, ar 6 B), (hE, ar 6 E), (hA, ar 1206 Ab), (hM, ar 180 Mt), (hW, ar 180 Wt)] (fun z u => ∃ A2 : Int → Int, ∃ M2 : Int → Int, ∃ W2 : Int → Int, z = aSpread pl n ec mk (c5 Q 3) (c5 Q 4) B E b ∧ u = [(h0, ob 11 f), (hQ, ar 30 Q), (hB, ar 6 B), (hE, ar 6 E), (hA, ar 1206 A2), (hM, ar 180 M2), (hW, ar 180 W2)]) := by
  refine AMi.of2 rfl (nle rfl) ?_
  intro D G A p e s m args below meth c Po hPo X
  have hz6 := hz.2.1
  have hz0 := hz.1
  have hzn := hz.2.2.1
  have hzm := hz.2.2.2.1
  have hze := hz.2.2.2.2
  refine S_aload_n X dX12_spread_0 rfl rfl ?_
  refine S_iload_n X dX12_spread_1 rfl rfl ?_
  refine S_calli X (kX12_isBar l h0 f pl n b hf0 hf1 (by omega) (by omega) (by omega)) (is := [0]) rfl (run_V X lkX12_309 0 rfl rfl (is := [0]) (avs := [iv b]) (rest := []) rfl rfl (nle rfl) ⟨nle rfl, nle rfl⟩ ⟨nle rfl, nle rfl⟩ dX12_spread_2 (by decide) rfl) (fun z_3 u_1 hp_2 => ?_)
  rcases hp_2 with ⟨hz_4, hu_5, hq_6⟩ | ⟨hz_7, hu_8, hq_9⟩
  ·
    subst hz_4
    subst hu_5
    refine ⟨rfl, ?_⟩
    refine S_w (ws' := [(h0, ob 11 f), (hQ, ar 30 Q), (hB, ar 6 B), (hE, ar 6 E), (hA, ar 1206 Ab), (hM, ar 180 Mt), (hW, ar 180 Wt)]) rfl ?_
    refine S_if_ne (tgt := 10) X dX12_spread_5 (by decide) (by decide) (fun h9 => absurd h9 (by decide)) (fun _ => ?_)
    refine S_iconst X dX12_spread_8 ?_
    exact S_iret X (nle rfl) (nle rfl) dX12_spread_9 (hPo _ _ (⟨_, _, _, by unfold aSpread; rw [if_neg (by omega)], rfl⟩))
  ·
    subst hz_7
    subst hu_8
    refine ⟨rfl, ?_⟩
    refine S_w (ws' := [(h0, ob 11 f), (hQ, ar 30 Q), (hB, ar 6 B), (hE, ar 6 E), (hA, ar 1206 Ab), (hM, ar 180 Mt), (hW, ar 180 Wt)]) rfl ?_
    refine S_if_ne (tgt := 10) X dX12_spread_5 (by decide) (by decide) (fun _ => ?_) (fun h9 => absurd h9 (by decide))
    have hok := hz.s (by omega)
    have hpl := hok.2.1
    have hpl1 := hok.1
    have hn1 := hok.2.2.1
    have hn2 := hok.2.2.2.1
    have hec := hok.2.2.2.2
    refine S_aload_n X dX12_spread_10 rfl rfl ?_
    refine S_callv X (kX12_play l h0 f pl n ec mk hQ hB hE hA hM hW Q B E Ab Mt Wt hf0 hf1 hf2 hf3 hf4 hf5 hf6 hf7 hf8 hf9 (by omega)) (is := [0, 1, 2, 3, 4, 5, 6]) rfl (run_V X lkX12_312 0 rfl rfl (is := [0, 1, 2, 3, 4, 5, 6]) (avs := []) (rest := []) rfl rfl (nle rfl) ⟨nle rfl, nle rfl⟩ ⟨nle rfl, nle rfl⟩ dX12_spread_11 (by decide) rfl) (fun u_12 hp_13 => ?_)
    obtain ⟨A2_15, M2_16, W2_17, hu_19, hA2_20, hM2_21, hW2_22⟩ := hp_13
    subst hu_19
    refine ⟨rfl, ?_⟩
    refine S_w (ws' := [(h0, ob 11 f), (hQ, ar 30 Q), (hB, ar 6 B), (hE, ar 6 E), (hA, ar 1206 A2_15), (hM, ar 180 M2_16), (hW, ar 180 W2_17)]) rfl ?_
    have hAL := hA2_20
    have hML := hM2_21
    have hWL := hW2_22
    refine S_aload_n X dX12_spread_14 rfl rfl ?_
    refine S_iload_n X dX12_spread_15 rfl rfl ?_
    refine S_calli X (kX12_spreadAt l h0 f pl n ec mk hM Q B E M2_16 b hf0 hf8 (by omega) hML (by omega)) (is := [0, 5]) rfl (run_V X lkX12_315 0 rfl rfl (is := [0, 5]) (avs := [iv b]) (rest := []) rfl rfl (nle rfl) ⟨nle rfl, nle rfl⟩ ⟨nle rfl, nle rfl⟩ dX12_spread_16 (by decide) rfl) (fun z_25 u_23 hp_24 => ?_)
    obtain ⟨hz_26, hu_27⟩ := hp_24
    subst hz_26
    subst hu_27
    refine ⟨rfl, ?_⟩
    refine S_w (ws' := [(h0, ob 11 f), (hQ, ar 30 Q), (hB, ar 6 B), (hE, ar 6 E), (hA, ar 1206 A2_15), (hM, ar 180 M2_16), (hW, ar 180 W2_17)]) rfl ?_
    exact S_iret X (nle rfl) (nle rfl) dX12_spread_19 (hPo _ _ (⟨_, _, _, by unfold aSpread; rw [if_pos (by omega)]; try rfl, rfl⟩))
set_option maxHeartbeats 4000000 in
set_option maxRecDepth 100000 in
theorem kX12_worst (l : Launch) (h0 : Nat) (f : Nat → AV) (pl : Int) (n : Int) (ec : Int) (mk : Int) (hQ : Nat) (hB : Nat) (hE : Nat) (hA : Nat) (hM : Nat) (hW : Nat) (Q : Int → Int) (B : Int → Int) (E : Int → Int) (Ab : Int → Int) (Mt : Int → Int) (Wt : Int → Int) (v : Int) (hf0 : f 21 = iv pl) (hf1 : f 28 = iv n) (hf2 : f 29 = iv ec) (hf3 : f 26 = iv mk) (hf4 : f 20 = rv hQ) (hf5 : f 23 = rv hB) (hf6 : f 24 = rv hE) (hf7 : f 33 = rv hA) (hf8 : f 34 = rv hM) (hf9 : f 35 = rv hW) (hz : okZ pl n ec (c5 Q 3) (c5 Q 4) B E) (hx_v : inR v) : AMi l yX12_worst cX12_worst 2 .int 6 0 0 [rv h0, iv v] [(h0, ob 11 f), (hQ, ar 30 Q), (hB, ar 6 B), (hE, ar 6 E), (hA, ar 1206 Ab), (hM, ar 180 Mt), (hW, ar 180 Wt)] (fun z u => ∃ A2 : Int → Int, ∃ M2 : Int → Int, ∃ W2 : Int → Int, z = aWorst pl n ec mk (c5 Q 3) (c5 Q 4) B E v ∧ u = [(h0, ob 11 f), (hQ, ar 30 Q), (hB, ar 6 B), (hE, ar 6 E), (hA, ar 1206 A2), (hM, ar 180 M2), (hW, ar 180 W2)]) := by
  refine AMi.of2 rfl (nle rfl) ?_
  intro D G A p e s m args below meth c Po hPo X
  have hz6 := hz.2.1
  have hz0 := hz.1
  have hzn := hz.2.2.1
  have hzm := hz.2.2.2.1
  have hze := hz.2.2.2.2
  refine S_aload_n X dX12_worst_0 rfl rfl ?_
  refine S_get X fgX12_253_11 0 rfl hf0 dX12_worst_1 ?_
  refine S_if_eq (tgt := 16) X dX12_worst_4 (by decide) (by omega) (fun c_1 => ?_) (fun c_1 => ?_)
  ·
    refine S_iconst X dX12_worst_16 ?_
    refine S_goto (tgt := 35) X dX12_worst_17 (by decide) ?_
    exact S_iret X (nle rfl) (nle rfl) dX12_worst_35 (hPo _ _ (⟨_, _, _, by unfold aWorst; rw [if_neg (by omega)], rfl⟩))
  ·
    refine S_iload_n X dX12_worst_7 rfl rfl ?_
    refine S_iconst X dX12_worst_8 ?_
    refine S_iconst X dX12_worst_9 ?_
    refine S_calli X (kX12_in l v 0 1 (by omega) (by omega) (by omega)) (is := []) rfl (run_S X lkX12_216 (is := []) (avs := [iv v, iv 0, iv 1]) (rest := []) rfl rfl (nle rfl) ⟨nle rfl, nle rfl⟩ ⟨nle rfl, nle rfl⟩ dX12_worst_10 (by decide) rfl) (fun z_4 u_2 hp_3 => ?_)
    rcases hp_3 with ⟨hz_5, hu_6, hq_7⟩ | ⟨hz_8, hu_9, hq_10⟩
    ·
      subst hz_5
      subst hu_6
      refine ⟨rfl, ?_⟩
      refine S_w (ws' := [(h0, ob 11 f), (hQ, ar 30 Q), (hB, ar 6 B), (hE, ar 6 E), (hA, ar 1206 Ab), (hM, ar 180 Mt), (hW, ar 180 Wt)]) rfl ?_
      refine S_if_ne (tgt := 20) X dX12_worst_13 (by decide) (by decide) (fun h9 => absurd h9 (by decide)) (fun _ => ?_)
      refine S_iconst X dX12_worst_16 ?_
      refine S_goto (tgt := 35) X dX12_worst_17 (by decide) ?_
      exact S_iret X (nle rfl) (nle rfl) dX12_worst_35 (hPo _ _ (⟨_, _, _, by unfold aWorst; rw [if_neg (by omega)], rfl⟩))
    ·
      subst hz_8
      subst hu_9
      refine ⟨rfl, ?_⟩
      refine S_w (ws' := [(h0, ob 11 f), (hQ, ar 30 Q), (hB, ar 6 B), (hE, ar 6 E), (hA, ar 1206 Ab), (hM, ar 180 Mt), (hW, ar 180 Wt)]) rfl ?_
      refine S_if_ne (tgt := 20) X dX12_worst_13 (by decide) (by decide) (fun _ => ?_) (fun h9 => absurd h9 (by decide))
      have hok := hz.s (by omega)
      have hpl := hok.2.1
      have hpl1 := hok.1
      have hn1 := hok.2.2.1
      have hn2 := hok.2.2.2.1
      have hec := hok.2.2.2.2
      refine S_iload_n X dX12_worst_20 rfl rfl ?_
      refine S_if_ne (tgt := 31) X dX12_worst_21 (by decide) (by omega) (fun c_13 => ?_) (fun c_13 => ?_)
      ·
        refine S_aload_n X dX12_worst_31 rfl rfl ?_
        refine S_calli X (kX12_worstBar l h0 f pl n ec mk hQ hB hE hA hM hW Q B E Ab Mt Wt hf0 hf1 hf2 hf3 hf4 hf5 hf6 hf7 hf8 hf9 (by omega)) (is := [0, 1, 2, 3, 4, 5, 6]) rfl (run_V X lkX12_318 0 rfl rfl (is := [0, 1, 2, 3, 4, 5, 6]) (avs := []) (rest := []) rfl rfl (nle rfl) ⟨nle rfl, nle rfl⟩ ⟨nle rfl, nle rfl⟩ dX12_worst_32 (by decide) rfl) (fun z_16 u_14 hp_15 => ?_)
        obtain ⟨A2_17, M2_18, W2_19, hz_20, hu_21, hA2_22, hM2_23, hW2_24⟩ := hp_15
        subst hz_20
        subst hu_21
        refine ⟨rfl, ?_⟩
        refine S_w (ws' := [(h0, ob 11 f), (hQ, ar 30 Q), (hB, ar 6 B), (hE, ar 6 E), (hA, ar 1206 A2_17), (hM, ar 180 M2_18), (hW, ar 180 W2_19)]) rfl ?_
        exact S_iret X (nle rfl) (nle rfl) dX12_worst_35 (hPo _ _ (⟨_, _, _, by unfold aWorst; rw [if_pos (by omega)]; rw [if_neg (by omega)], rfl⟩))
      ·
        refine S_aload_n X dX12_worst_24 rfl rfl ?_
        refine S_calli X (kX12_worstNow l h0 f pl n ec mk hQ hB hE hA hM hW Q B E Ab Mt Wt hf0 hf1 hf2 hf3 hf4 hf5 hf6 hf7 hf8 hf9 (by omega)) (is := [0, 1, 2, 3, 4, 5, 6]) rfl (run_V X lkX12_321 0 rfl rfl (is := [0, 1, 2, 3, 4, 5, 6]) (avs := []) (rest := []) rfl rfl (nle rfl) ⟨nle rfl, nle rfl⟩ ⟨nle rfl, nle rfl⟩ dX12_worst_25 (by decide) rfl) (fun z_27 u_25 hp_26 => ?_)
        obtain ⟨A2_28, M2_29, W2_30, hz_31, hu_32⟩ := hp_26
        subst hz_31
        subst hu_32
        refine ⟨rfl, ?_⟩
        refine S_w (ws' := [(h0, ob 11 f), (hQ, ar 30 Q), (hB, ar 6 B), (hE, ar 6 E), (hA, ar 1206 A2_28), (hM, ar 180 M2_29), (hW, ar 180 W2_30)]) rfl ?_
        refine S_goto (tgt := 35) X dX12_worst_28 (by decide) ?_
        exact S_iret X (nle rfl) (nle rfl) dX12_worst_35 (hPo _ _ (⟨_, _, _, by unfold aWorst; rw [if_pos (by omega)]; rw [if_pos (by omega)], rfl⟩))
set_option maxHeartbeats 4000000 in
set_option maxRecDepth 100000 in
theorem kX12_parts (l : Launch) (h0 : Nat) (f : Nat → AV) (pl : Int) (n : Int) (ec : Int) (mk : Int) (hQ : Nat) (hB : Nat) (hE : Nat) (hA : Nat) (hM : Nat) (hW : Nat) (Q : Int → Int) (B : Int → Int) (E : Int → Int) (Ab : Int → Int) (Mt : Int → Int) (Wt : Int → Int) (lim : Int) (hf0 : f 21 = iv pl) (hf1 : f 28 = iv n) (hf2 : f 29 = iv ec) (hf3 : f 26 = iv mk) (hf4 : f 20 = rv hQ) (hf5 : f 23 = rv hB) (hf6 : f 24 = rv hE) (hf7 : f 33 = rv hA) (hf8 : f 34 = rv hM) (hf9 : f 35 = rv hW) (hf10 : f 30 = iv lim) (hz : okZ pl n ec (c5 Q 3) (c5 Q 4) B E) (hlim : 0 ≤ lim ∧ lim ≤ 999) : AMi l yX12_parts cX12_parts 2 .int 4 0 0 [rv h0] [(h0, ob 11 f), (hQ, ar 30 Q), (hB, ar 6 B), (hE, ar 6 E), (hA, ar 1206 Ab), (hM, ar 180 Mt), (hW, ar 180 Wt)] (fun z u => ∃ A2 : Int → Int, ∃ M2 : Int → Int, ∃ W2 : Int → Int, z = aParts pl n ec mk (c5 Q 3) (c5 Q 4) B E lim ∧ u = [(h0, ob 11 f), (hQ, ar 30 Q), (hB, ar 6 B), (hE, ar 6 E), (hA, ar 1206 A2), (hM, ar 180 M2), (hW, ar 180 W2)]) := by
  refine AMi.of2 rfl (nle rfl) ?_
  intro D G A p e s m args below meth c Po hPo X
  have hz6 := hz.2.1
  have hz0 := hz.1
  have hzn := hz.2.2.1
  have hzm := hz.2.2.2.1
  have hze := hz.2.2.2.2
  refine S_aload_n X dX12_parts_0 rfl rfl ?_
  refine S_get X fgX12_253_11 0 rfl hf0 dX12_parts_1 ?_
  refine S_if_ne (tgt := 9) X dX12_parts_4 (by decide) (by omega) (fun c_1 => ?_) (fun c_1 => ?_)
  ·
    have hok := hz.s (by omega)
    have hpl := hok.2.1
    have hpl1 := hok.1
    have hn1 := hok.2.2.1
    have hn2 := hok.2.2.2.1
    have hec := hok.2.2.2.2
    refine S_aload_n X dX12_parts_9 rfl rfl ?_
    refine S_callv X (kX12_play l h0 f pl n ec mk hQ hB hE hA hM hW Q B E Ab Mt Wt hf0 hf1 hf2 hf3 hf4 hf5 hf6 hf7 hf8 hf9 (by omega)) (is := [0, 1, 2, 3, 4, 5, 6]) rfl (run_V X lkX12_312 0 rfl rfl (is := [0, 1, 2, 3, 4, 5, 6]) (avs := []) (rest := []) rfl rfl (nle rfl) ⟨nle rfl, nle rfl⟩ ⟨nle rfl, nle rfl⟩ dX12_parts_10 (by decide) rfl) (fun u_2 hp_3 => ?_)
    obtain ⟨A2_5, M2_6, W2_7, hu_9, hA2_10, hM2_11, hW2_12⟩ := hp_3
    subst hu_9
    refine ⟨rfl, ?_⟩
    refine S_w (ws' := [(h0, ob 11 f), (hQ, ar 30 Q), (hB, ar 6 B), (hE, ar 6 E), (hA, ar 1206 A2_5), (hM, ar 180 M2_6), (hW, ar 180 W2_7)]) rfl ?_
    have hAL := hA2_10
    have hML := hM2_11
    have hWL := hW2_12
    refine S_iconst X dX12_parts_13 ?_
    refine S_istore_n X dX12_parts_14 rfl (nle rfl) ?_
    have lp15_1 : ∀ (N : Nat) (b : Int) (L : Nat → Option AV), 0 ≤ b ∧ b ≤ n → fsI (sS pl ec mk (c5 Q 3) (c5 Q 4) B E) lim b = -1 → L 0 = some (rv h0) → L 1 = some (iv b) → n + 1 - b < (N : Int) → S_ p l e (rmD 4 0 0) s m args below meth c (MQ below (QcI D G A Po) args s 0 0 A) D G A 2 0 0 15 L [] [(h0, ob 11 f), (hQ, ar 30 Q), (hB, ar 6 B), (hE, ar 6 E), (hA, ar 1206 A2_5), (hM, ar 180 M2_6), (hW, ar 180 W2_7)] := by
      intro N
      induction N with
      | zero =>
        intro b L15 hb hfs hL15_0 hL15_1 hN15
        exfalso; omega
      | succ N ih15 =>
        intro b L15 hb hfs hL15_0 hL15_1 hN15
        refine S_iload_n X dX12_parts_15 rfl hL15_1 ?_
        refine S_aload_n X dX12_parts_16 rfl hL15_0 ?_
        refine S_get X fgX12_56_11 0 rfl hf1 dX12_parts_17 ?_
        refine S_icmp_ge (tgt := 43) X dX12_parts_20 (by decide) (by omega) (by omega) (fun c_13 => ?_) (fun c_13 => ?_)
        ·
          refine S_iconst X dX12_parts_43 ?_
          exact S_iret X (nle rfl) (nle rfl) dX12_parts_44 (hPo _ _ (⟨_, _, _, by unfold aParts; rw [if_pos (by omega)]; rw [show n = b by omega]; exact hfs.symm, rfl⟩))
        ·
          refine S_aload_n X dX12_parts_23 rfl hL15_0 ?_
          refine S_iload_n X dX12_parts_24 rfl hL15_1 ?_
          refine S_calli X (kX12_spreadAt l h0 f pl n ec mk hM Q B E M2_6 b hf0 hf8 (by omega) hML (by omega)) (is := [0, 5]) rfl (run_V X lkX12_315 0 rfl rfl (is := [0, 5]) (avs := [iv b]) (rest := []) rfl rfl (nle rfl) ⟨nle rfl, nle rfl⟩ ⟨nle rfl, nle rfl⟩ dX12_parts_25 (by decide) rfl) (fun z_16 u_14 hp_15 => ?_)
          obtain ⟨hz_17, hu_18⟩ := hp_15
          subst hz_17
          subst hu_18
          refine ⟨rfl, ?_⟩
          refine S_w (ws' := [(h0, ob 11 f), (hQ, ar 30 Q), (hB, ar 6 B), (hE, ar 6 E), (hA, ar 1206 A2_5), (hM, ar 180 M2_6), (hW, ar 180 W2_7)]) rfl ?_
          have hsr := hok.spread (mk := mk) b (by omega) (by omega)
          refine S_aload_n X dX12_parts_28 rfl hL15_0 ?_
          refine S_get X fgX12_59_11 0 rfl hf10 dX12_parts_29 ?_
          refine S_icmp_le (tgt := 37) X dX12_parts_32 (by decide) (by omega) (by omega) (fun c_19 => ?_) (fun c_19 => ?_)
          ·
            refine S_iinc X dX12_parts_37 (nle rfl) hL15_1 ?_
            refine S_goto (tgt := 15) X dX12_parts_40 (by decide) ?_
            exact ih15 (b + 1) _ (by omega) (fsI_skip (by omega) hfs (by omega)) hL15_0 rfl (by omega)
          ·
            refine S_iload_n X dX12_parts_35 rfl hL15_1 ?_
            exact S_iret X (nle rfl) (nle rfl) dX12_parts_36 (hPo _ _ (⟨_, _, _, by unfold aParts; rw [if_pos (by omega)]; exact (fsI_hit (by omega) hfs (by omega) n (by omega) (by omega)).symm, rfl⟩))
    exact lp15_1 (Int.toNat (n + 1 - 0) + 1) 0 _ (by omega) (fsI_0) rfl rfl (by omega)
  ·
    refine S_iconst X dX12_parts_7 ?_
    exact S_iret X (nle rfl) (nle rfl) dX12_parts_8 (hPo _ _ (⟨_, _, _, by unfold aParts; rw [if_neg (by omega)], rfl⟩))
set_option maxHeartbeats 4000000 in
set_option maxRecDepth 100000 in
theorem kX12_last (l : Launch) (h0 : Nat) (f : Nat → AV) (pl : Int) (n : Int) (ec : Int) (mk : Int) (hQ : Nat) (hB : Nat) (hE : Nat) (hA : Nat) (hM : Nat) (hW : Nat) (Q : Int → Int) (B : Int → Int) (E : Int → Int) (Ab : Int → Int) (Mt : Int → Int) (Wt : Int → Int) (b : Int) (hf0 : f 21 = iv pl) (hf1 : f 28 = iv n) (hf2 : f 29 = iv ec) (hf3 : f 26 = iv mk) (hf4 : f 20 = rv hQ) (hf5 : f 23 = rv hB) (hf6 : f 24 = rv hE) (hf7 : f 33 = rv hA) (hf8 : f 34 = rv hM) (hf9 : f 35 = rv hW) (hz : okZ pl n ec (c5 Q 3) (c5 Q 4) B E) (hx_b : inR b) : AMi l yX12_last cX12_last 2 .int 4 0 0 [rv h0, iv b] [(h0, ob 11 f), (hQ, ar 30 Q), (hB, ar 6 B), (hE, ar 6 E), (hA, ar 1206 Ab), (hM, ar 180 Mt), (hW, ar 180 Wt)] (fun z u => ∃ A2 : Int → Int, ∃ M2 : Int → Int, ∃ W2 : Int → Int, z = aLast pl n ec mk (c5 Q 3) (c5 Q 4) B E b ∧ u = [(h0, ob 11 f), (hQ, ar 30 Q), (hB, ar 6 B), (hE, ar 6 E), (hA, ar 1206 A2), (hM, ar 180 M2), (hW, ar 180 W2)]) := by
  refine AMi.of2 rfl (nle rfl) ?_
  intro D G A p e s m args below meth c Po hPo X
  have hz6 := hz.2.1
  have hz0 := hz.1
  have hzn := hz.2.2.1
  have hzm := hz.2.2.2.1
  have hze := hz.2.2.2.2
  refine S_aload_n X dX12_last_0 rfl rfl ?_
  refine S_iload_n X dX12_last_1 rfl rfl ?_
  refine S_calli X (kX12_isBar l h0 f pl n b hf0 hf1 (by omega) (by omega) (by omega)) (is := [0]) rfl (run_V X lkX12_309 0 rfl rfl (is := [0]) (avs := [iv b]) (rest := []) rfl rfl (nle rfl) ⟨nle rfl, nle rfl⟩ ⟨nle rfl, nle rfl⟩ dX12_last_2 (by decide) rfl) (fun z_3 u_1 hp_2 => ?_)
  rcases hp_2 with ⟨hz_4, hu_5, hq_6⟩ | ⟨hz_7, hu_8, hq_9⟩
  ·
    subst hz_4
    subst hu_5
    refine ⟨rfl, ?_⟩
    refine S_w (ws' := [(h0, ob 11 f), (hQ, ar 30 Q), (hB, ar 6 B), (hE, ar 6 E), (hA, ar 1206 Ab), (hM, ar 180 Mt), (hW, ar 180 Wt)]) rfl ?_
    refine S_if_ne (tgt := 10) X dX12_last_5 (by decide) (by decide) (fun h9 => absurd h9 (by decide)) (fun _ => ?_)
    refine S_iconst X dX12_last_8 ?_
    exact S_iret X (nle rfl) (nle rfl) dX12_last_9 (hPo _ _ (⟨_, _, _, by unfold aLast; rw [if_neg (by omega)], rfl⟩))
  ·
    subst hz_7
    subst hu_8
    refine ⟨rfl, ?_⟩
    refine S_w (ws' := [(h0, ob 11 f), (hQ, ar 30 Q), (hB, ar 6 B), (hE, ar 6 E), (hA, ar 1206 Ab), (hM, ar 180 Mt), (hW, ar 180 Wt)]) rfl ?_
    refine S_if_ne (tgt := 10) X dX12_last_5 (by decide) (by decide) (fun _ => ?_) (fun h9 => absurd h9 (by decide))
    have hok := hz.s (by omega)
    have hpl := hok.2.1
    have hpl1 := hok.1
    have hn1 := hok.2.2.1
    have hn2 := hok.2.2.2.1
    have hec := hok.2.2.2.2
    refine S_aload_n X dX12_last_10 rfl rfl ?_
    refine S_callv X (kX12_play l h0 f pl n ec mk hQ hB hE hA hM hW Q B E Ab Mt Wt hf0 hf1 hf2 hf3 hf4 hf5 hf6 hf7 hf8 hf9 (by omega)) (is := [0, 1, 2, 3, 4, 5, 6]) rfl (run_V X lkX12_312 0 rfl rfl (is := [0, 1, 2, 3, 4, 5, 6]) (avs := []) (rest := []) rfl rfl (nle rfl) ⟨nle rfl, nle rfl⟩ ⟨nle rfl, nle rfl⟩ dX12_last_11 (by decide) rfl) (fun u_12 hp_13 => ?_)
    obtain ⟨A2_15, M2_16, W2_17, hu_19, hA2_20, hM2_21, hW2_22⟩ := hp_13
    subst hu_19
    refine ⟨rfl, ?_⟩
    refine S_w (ws' := [(h0, ob 11 f), (hQ, ar 30 Q), (hB, ar 6 B), (hE, ar 6 E), (hA, ar 1206 A2_15), (hM, ar 180 M2_16), (hW, ar 180 W2_17)]) rfl ?_
    have hAL := hA2_20
    have hML := hM2_21
    have hWL := hW2_22
    refine S_aload_n X dX12_last_14 rfl rfl ?_
    refine S_iload_n X dX12_last_15 rfl rfl ?_
    refine S_calli X (kX12_lastAt l h0 f pl n ec mk hM Q B E M2_16 b hf0 hf8 (by omega) hML (by omega)) (is := [0, 5]) rfl (run_V X lkX12_324 0 rfl rfl (is := [0, 5]) (avs := [iv b]) (rest := []) rfl rfl (nle rfl) ⟨nle rfl, nle rfl⟩ ⟨nle rfl, nle rfl⟩ dX12_last_16 (by decide) rfl) (fun z_25 u_23 hp_24 => ?_)
    obtain ⟨hz_26, hu_27⟩ := hp_24
    subst hz_26
    subst hu_27
    refine ⟨rfl, ?_⟩
    refine S_w (ws' := [(h0, ob 11 f), (hQ, ar 30 Q), (hB, ar 6 B), (hE, ar 6 E), (hA, ar 1206 A2_15), (hM, ar 180 M2_16), (hW, ar 180 W2_17)]) rfl ?_
    exact S_iret X (nle rfl) (nle rfl) dX12_last_19 (hPo _ _ (⟨_, _, _, by unfold aLast; rw [if_pos (by omega)]; try rfl, rfl⟩))
set_option maxHeartbeats 4000000 in
set_option maxRecDepth 100000 in
theorem kX12_areLike (l : Launch) (h0 : Nat) (f : Nat → AV) (pl : Int) (n : Int) (ec : Int) (hA : Nat) (Q : Int → Int) (B : Int → Int) (E : Int → Int) (Ab : Int → Int) (i : Int) (j : Int) (hf0 : f 21 = iv pl) (hf1 : f 33 = rv hA) (hok : okS pl n ec (c5 Q 3) (c5 Q 4) B E) (hr : reg Ab (bF ec (c5 Q 3) (c5 Q 4) B) pl 201 0) (hi : 0 ≤ i ∧ i ≤ 200) (hj : 0 ≤ j ∧ j ≤ 200) : AMi l yX12_areLike cX12_areLike 5 .boolean 1 0 0 [rv h0, iv i, iv j] [(h0, ob 11 f), (hA, ar 1206 Ab)] (fun z u => (z = 0 ∧ u = [(h0, ob 11 f), (hA, ar 1206 Ab)] ∧ ¬ lkR pl ec (c5 Q 3) (c5 Q 4) B i j) ∨ (z = 1 ∧ u = [(h0, ob 11 f), (hA, ar 1206 Ab)] ∧ lkR pl ec (c5 Q 3) (c5 Q 4) B i j)) := by
  refine AMi.of2 rfl (nle rfl) ?_
  intro D G A p e s m args below meth c Po hPo X
  have hpl := hok.2.1
  have hpl1 := hok.1
  have hn1 := hok.2.2.1
  have hn2 := hok.2.2.2.1
  have hec := hok.2.2.2.2
  refine S_iconst X dX12_areLike_0 ?_
  refine S_istore_n X dX12_areLike_1 rfl (nle rfl) ?_
  have lp2_0 : ∀ (N : Nat) (k : Int) (L : Nat → Option AV), 0 ≤ k ∧ k ≤ 4 → (∀ x, 0 ≤ x → x < k → ∀ y, 0 ≤ y → y < pl → bF ec (c5 Q 3) (c5 Q 4) B (max 0 (i - x)) y = bF ec (c5 Q 3) (c5 Q 4) B (max 0 (j - x)) y) → L 0 = some (rv h0) → L 1 = some (iv i) → L 2 = some (iv j) → L 3 = some (iv k) → 5 - k < (N : Int) → S_ p l e (rmD 1 0 0) s m args below meth c (MQ below (QcI D G A Po) args s 0 0 A) D G A 5 0 0 2 L [] [(h0, ob 11 f), (hA, ar 1206 Ab)] := by
    intro N
    induction N with
    | zero =>
      intro k L2 hk hlk hL2_0 hL2_1 hL2_2 hL2_3 hN2
      exfalso; omega
    | succ N ih2 =>
      intro k L2 hk hlk hL2_0 hL2_1 hL2_2 hL2_3 hN2
      refine S_iload_n X dX12_areLike_2 rfl hL2_3 ?_
      refine S_iconst X dX12_areLike_3 ?_
      refine S_icmp_ge (tgt := 72) X dX12_areLike_4 (by decide) (by omega) (by decide) (fun c_1 => ?_) (fun c_1 => ?_)
      ·
        refine S_iconst X dX12_areLike_72 ?_
        exact S_zret X (Or.inr rfl) (nle rfl) (nle rfl) dX12_areLike_73 (hPo _ _ (Or.inr ⟨rfl, rfl, fun x h0 h1 y h2 h3 => hlk x h0 (by omega) y h2 h3⟩))
      ·
        refine S_iconst X dX12_areLike_7 ?_
        refine S_istore X dX12_areLike_8 (nle rfl) ?_
        have lp10_3 : ∀ (N : Nat) (q : Int) (L : Nat → Option AV), 0 ≤ q ∧ q ≤ pl → (∀ y, 0 ≤ y → y < q → bF ec (c5 Q 3) (c5 Q 4) B (max 0 (i - k)) y = bF ec (c5 Q 3) (c5 Q 4) B (max 0 (j - k)) y) → L 0 = some (rv h0) → L 1 = some (iv i) → L 2 = some (iv j) → L 3 = some (iv k) → L 4 = some (iv q) → pl + 1 - q < (N : Int) → S_ p l e (rmD 1 0 0) s m args below meth c (MQ below (QcI D G A Po) args s 0 0 A) D G A 5 0 0 10 L [] [(h0, ob 11 f), (hA, ar 1206 Ab)] := by
          intro N
          induction N with
          | zero =>
            intro q L10 hq hlq hL10_0 hL10_1 hL10_2 hL10_3 hL10_4 hN10
            exfalso; omega
          | succ N ih10 =>
            intro q L10 hq hlq hL10_0 hL10_1 hL10_2 hL10_3 hL10_4 hN10
            refine S_iload X dX12_areLike_10 hL10_4 ?_
            refine S_aload_n X dX12_areLike_12 rfl hL10_0 ?_
            refine S_get X fgX12_253_11 0 rfl hf0 dX12_areLike_13 ?_
            refine S_icmp_ge (tgt := 66) X dX12_areLike_16 (by decide) (by omega) (by omega) (fun c_2 => ?_) (fun c_2 => ?_)
            ·
              refine S_iinc X dX12_areLike_66 (nle rfl) hL10_3 ?_
              refine S_goto (tgt := 2) X dX12_areLike_69 (by decide) ?_
              exact ih2 (k + 1) _ (by omega) (fun x h0 h1 y h2 h3 => (by omega : x < k ∨ x = k).elim (fun q9 => hlk x h0 q9 y h2 h3) (fun q9 => by rw [q9]; exact hlq y h2 (by omega))) hL10_0 hL10_1 hL10_2 rfl (by omega)
            ·
              have h1 := hr.at (z := 6 * max 0 (i - k) + q) (x := max 0 (i - k)) (y := q) rfl (by omega) (by omega) (by omega) (by omega)
              have h2 := hr.at (z := 6 * max 0 (j - k) + q) (x := max 0 (j - k)) (y := q) rfl (by omega) (by omega) (by omega) (by omega)
              have h3 := hok.beat (max 0 (i - k)) q (by omega) (by omega) (by omega)
              have h4 := hok.beat (max 0 (j - k)) q (by omega) (by omega) (by omega)
              refine S_aload_n X dX12_areLike_19 rfl hL10_0 ?_
              refine S_get X fgX12_65_11 0 rfl hf1 dX12_areLike_20 ?_
              refine S_bipush X dX12_areLike_23 rfl ?_
              refine S_iconst X dX12_areLike_25 ?_
              refine S_iload_n X dX12_areLike_26 rfl hL10_1 ?_
              refine S_iload_n X dX12_areLike_27 rfl hL10_3 ?_
              refine S_isub X dX12_areLike_28 ?_
              refine S_mmax X lkX12_295 rfl rfl (by decide) (by omega) (nle rfl) (nle rfl) (nle rfl) (nle rfl) dX12_areLike_29 ?_
              refine S_imul X dX12_areLike_32 ?_
              refine S_iload X dX12_areLike_33 hL10_4 ?_
              refine S_iadd X dX12_areLike_35 ?_
              refine S_iald X 1 rfl (by omega) (by omega) (nle rfl) dX12_areLike_36 ?_
              refine S_aload_n X dX12_areLike_37 rfl hL10_0 ?_
              refine S_get X fgX12_65_11 0 rfl hf1 dX12_areLike_38 ?_
              refine S_bipush X dX12_areLike_41 rfl ?_
              refine S_iconst X dX12_areLike_43 ?_
              refine S_iload_n X dX12_areLike_44 rfl hL10_2 ?_
              refine S_iload_n X dX12_areLike_45 rfl hL10_3 ?_
              refine S_isub X dX12_areLike_46 ?_
              refine S_mmax X lkX12_295 rfl rfl (by decide) (by omega) (nle rfl) (nle rfl) (nle rfl) (nle rfl) dX12_areLike_47 ?_
              refine S_imul X dX12_areLike_50 ?_
              refine S_iload X dX12_areLike_51 hL10_4 ?_
              refine S_iadd X dX12_areLike_53 ?_
              refine S_iald X 1 rfl (by omega) (by omega) (nle rfl) dX12_areLike_54 ?_
              refine S_icmp_eq (tgt := 60) X dX12_areLike_55 (by decide) (by omega) (by omega) (fun c_3 => ?_) (fun c_3 => ?_)
              ·
                refine S_iinc X dX12_areLike_60 (nle rfl) hL10_4 ?_
                refine S_goto (tgt := 10) X dX12_areLike_63 (by decide) ?_
                exact ih10 (q + 1) _ (by omega) (fun y h0 h1 => (by omega : y < q ∨ y = q).elim (fun q9 => hlq y h0 q9) (fun q9 => by rw [q9]; omega)) hL10_0 hL10_1 hL10_2 hL10_3 rfl (by omega)
              ·
                refine S_iconst X dX12_areLike_58 ?_
                exact S_zret X (Or.inl rfl) (nle rfl) (nle rfl) dX12_areLike_59 (hPo _ _ (Or.inl ⟨rfl, rfl, fun h9 => by have := h9 k (by omega) (by omega) q (by omega) (by omega); omega⟩))
        exact lp10_3 (Int.toNat (pl + 1 - 0) + 1) 0 _ (by omega) (fun y h0 h1 => by omega) hL2_0 hL2_1 hL2_2 hL2_3 rfl (by omega)
  exact lp2_0 (Int.toNat (5 - 0) + 1) 0 _ (by omega) (fun x h0 h1 => by omega) rfl rfl rfl rfl (by omega)
set_option maxHeartbeats 4000000 in
set_option maxRecDepth 100000 in
theorem kX12_settle (l : Launch) (h0 : Nat) (f : Nat → AV) (pl : Int) (n : Int) (ec : Int) (hQ : Nat) (hB : Nat) (hA : Nat) (Q : Int → Int) (B : Int → Int) (E : Int → Int) (Ab : Int → Int) (v : Int) (hf0 : f 21 = iv pl) (hf1 : f 29 = iv ec) (hf2 : f 20 = rv hQ) (hf3 : f 23 = rv hB) (hf4 : f 33 = rv hA) (hz : okZ pl n ec (c5 Q 3) (c5 Q 4) B E) (hv : inR v) : AMi l yX12_settle cX12_settle 4 .int 3 0 0 [rv h0, iv v] [(h0, ob 11 f), (hQ, ar 30 Q), (hB, ar 6 B), (hA, ar 1206 Ab)] (fun z u => ∃ z9 : Int, ∃ A2 : Int → Int, z = z9 ∧ u = [(h0, ob 11 f), (hQ, ar 30 Q), (hB, ar 6 B), (hA, ar 1206 A2)] ∧ rSettle pl ec (c5 Q 3) (c5 Q 4) B v z9) := by
  refine AMi.of2 rfl (nle rfl) ?_
  intro D G A p e s m args below meth c Po hPo X
  have hz6 := hz.2.1
  have hz0 := hz.1
  refine S_aload_n X dX12_settle_0 rfl rfl ?_
  refine S_get X fgX12_253_11 0 rfl hf0 dX12_settle_1 ?_
  refine S_if_eq (tgt := 16) X dX12_settle_4 (by decide) (by omega) (fun c_1 => ?_) (fun c_1 => ?_)
  ·
    refine S_iconst X dX12_settle_16 ?_
    exact S_iret X (nle rfl) (nle rfl) dX12_settle_17 (hPo _ _ (⟨_, _, rfl, rfl, Or.inl ⟨by omega, rfl⟩⟩))
  ·
    refine S_iload_n X dX12_settle_7 rfl rfl ?_
    refine S_iconst X dX12_settle_8 ?_
    refine S_iconst X dX12_settle_9 ?_
    refine S_calli X (kX12_in l v 0 1 (by omega) (by omega) (by omega)) (is := []) rfl (run_S X lkX12_216 (is := []) (avs := [iv v, iv 0, iv 1]) (rest := []) rfl rfl (nle rfl) ⟨nle rfl, nle rfl⟩ ⟨nle rfl, nle rfl⟩ dX12_settle_10 (by decide) rfl) (fun z_4 u_2 hp_3 => ?_)
    rcases hp_3 with ⟨hz_5, hu_6, hq_7⟩ | ⟨hz_8, hu_9, hq_10⟩
    ·
      subst hz_5
      subst hu_6
      refine ⟨rfl, ?_⟩
      refine S_w (ws' := [(h0, ob 11 f), (hQ, ar 30 Q), (hB, ar 6 B), (hA, ar 1206 Ab)]) rfl ?_
      refine S_if_ne (tgt := 18) X dX12_settle_13 (by decide) (by decide) (fun h9 => absurd h9 (by decide)) (fun _ => ?_)
      refine S_iconst X dX12_settle_16 ?_
      exact S_iret X (nle rfl) (nle rfl) dX12_settle_17 (hPo _ _ (⟨_, _, rfl, rfl, Or.inl ⟨by omega, rfl⟩⟩))
    ·
      subst hz_8
      subst hu_9
      refine ⟨rfl, ?_⟩
      refine S_w (ws' := [(h0, ob 11 f), (hQ, ar 30 Q), (hB, ar 6 B), (hA, ar 1206 Ab)]) rfl ?_
      refine S_if_ne (tgt := 18) X dX12_settle_13 (by decide) (by decide) (fun _ => ?_) (fun h9 => absurd h9 (by decide))
      have hok := hz.s (by omega)
      have hpl := hok.2.1
      have hpl1 := hok.1
      have hn1 := hok.2.2.1
      have hn2 := hok.2.2.2.1
      have hec := hok.2.2.2.2
      refine S_aload_n X dX12_settle_18 rfl rfl ?_
      refine S_sipush X dX12_settle_19 rfl ?_
      refine S_callv X (kX12_layBeats l h0 f pl n ec hQ hB hA Q B E Ab 201 hf0 hf1 hf2 hf3 hf4 (by omega) (by omega)) (is := [0, 1, 2, 3]) rfl (run_V X lkX12_306 0 rfl rfl (is := [0, 1, 2, 3]) (avs := [iv 201]) (rest := []) rfl rfl (nle rfl) ⟨nle rfl, nle rfl⟩ ⟨nle rfl, nle rfl⟩ dX12_settle_22 (by decide) rfl) (fun u_13 hp_14 => ?_)
      obtain ⟨A2_16, hu_18, hreg_19⟩ := hp_14
      subst hu_18
      refine ⟨rfl, ?_⟩
      refine S_w (ws' := [(h0, ob 11 f), (hQ, ar 30 Q), (hB, ar 6 B), (hA, ar 1206 A2_16)]) rfl ?_
      have hAL := hreg_19
      refine S_iconst X dX12_settle_25 ?_
      refine S_istore_n X dX12_settle_26 rfl (nle rfl) ?_
      have lp27_2 : ∀ (N : Nat) (j : Int) (L : Nat → Option AV), 1 ≤ j ∧ j ≤ 201 → (∀ x, 1 ≤ x → x < j → ∀ y, 0 ≤ y → y < x → ¬ lkR pl ec (c5 Q 3) (c5 Q 4) B y x) → L 0 = some (rv h0) → L 1 = some (iv v) → L 2 = some (iv j) → 202 - j < (N : Int) → S_ p l e (rmD 3 0 0) s m args below meth c (MQ below (QcI D G A Po) args s 0 0 A) D G A 4 0 0 27 L [] [(h0, ob 11 f), (hQ, ar 30 Q), (hB, ar 6 B), (hA, ar 1206 A2_16)] := by
        intro N
        induction N with
        | zero =>
          intro j L27 hj hnj hL27_0 hL27_1 hL27_2 hN27
          exfalso; omega
        | succ N ih27 =>
          intro j L27 hj hnj hL27_0 hL27_1 hL27_2 hN27
          refine S_iload_n X dX12_settle_27 rfl hL27_2 ?_
          refine S_sipush X dX12_settle_28 rfl ?_
          refine S_icmp_ge (tgt := 74) X dX12_settle_31 (by decide) (by omega) (by decide) (fun c_20 => ?_) (fun c_20 => ?_)
          ·
            refine S_iconst X dX12_settle_74 ?_
            exact S_iret X (nle rfl) (nle rfl) dX12_settle_75 (hPo _ _ (⟨_, _, rfl, rfl, Or.inr ⟨by omega, by omega, Or.inl ⟨fun x h0 h1 y h2 h3 => hnj x h0 (by omega) y h2 h3, rfl⟩⟩⟩))
          ·
            refine S_iconst X dX12_settle_34 ?_
            refine S_istore_n X dX12_settle_35 rfl (nle rfl) ?_
            have lp36_5 : ∀ (N : Nat) (i : Int) (L : Nat → Option AV), 0 ≤ i ∧ i ≤ j → (∀ y, 0 ≤ y → y < i → ¬ lkR pl ec (c5 Q 3) (c5 Q 4) B y j) → L 0 = some (rv h0) → L 1 = some (iv v) → L 2 = some (iv j) → L 3 = some (iv i) → j + 1 - i < (N : Int) → S_ p l e (rmD 3 0 0) s m args below meth c (MQ below (QcI D G A Po) args s 0 0 A) D G A 4 0 0 36 L [] [(h0, ob 11 f), (hQ, ar 30 Q), (hB, ar 6 B), (hA, ar 1206 A2_16)] := by
              intro N
              induction N with
              | zero =>
                intro i L36 hi hni hL36_0 hL36_1 hL36_2 hL36_3 hN36
                exfalso; omega
              | succ N ih36 =>
                intro i L36 hi hni hL36_0 hL36_1 hL36_2 hL36_3 hN36
                refine S_iload_n X dX12_settle_36 rfl hL36_3 ?_
                refine S_iload_n X dX12_settle_37 rfl hL36_2 ?_
                refine S_icmp_ge (tgt := 68) X dX12_settle_38 (by decide) (by omega) (by omega) (fun c_21 => ?_) (fun c_21 => ?_)
                ·
                  refine S_iinc X dX12_settle_68 (nle rfl) hL36_2 ?_
                  refine S_goto (tgt := 27) X dX12_settle_71 (by decide) ?_
                  exact ih27 (j + 1) _ (by omega) (fun x h0 h1 y h2 h3 => (by omega : x < j ∨ x = j).elim (fun q9 => hnj x h0 q9 y h2 h3) (fun q9 => by rw [q9]; exact hni y h2 (by omega))) hL36_0 hL36_1 rfl (by omega)
                ·
                  refine S_aload_n X dX12_settle_41 rfl hL36_0 ?_
                  refine S_iload_n X dX12_settle_42 rfl hL36_3 ?_
                  refine S_iload_n X dX12_settle_43 rfl hL36_2 ?_
                  refine S_calli X (kX12_areLike l h0 f pl n ec hA Q B E A2_16 i j hf0 hf4 (by omega) hAL (by omega) (by omega)) (is := [0, 3]) rfl (run_V X lkX12_327 0 rfl rfl (is := [0, 3]) (avs := [iv i, iv j]) (rest := []) rfl rfl (nle rfl) ⟨nle rfl, nle rfl⟩ ⟨nle rfl, nle rfl⟩ dX12_settle_44 (by decide) rfl) (fun z_24 u_22 hp_23 => ?_)
                  rcases hp_23 with ⟨hz_25, hu_26, hq_27⟩ | ⟨hz_28, hu_29, hq_30⟩
                  ·
                    subst hz_25
                    subst hu_26
                    refine ⟨rfl, ?_⟩
                    refine S_w (ws' := [(h0, ob 11 f), (hQ, ar 30 Q), (hB, ar 6 B), (hA, ar 1206 A2_16)]) rfl ?_
                    have hlk9 := hq_27
                    refine S_if_eq (tgt := 62) X dX12_settle_47 (by decide) (by decide) (fun _ => ?_) (fun h9 => absurd h9 (by decide))
                    refine S_iinc X dX12_settle_62 (nle rfl) hL36_3 ?_
                    refine S_goto (tgt := 36) X dX12_settle_65 (by decide) ?_
                    exact ih36 (i + 1) _ (by omega) (fun y h0 h1 => (by omega : y < i ∨ y = i).elim (fun q9 => hni y h0 q9) (fun q9 => by rw [q9]; exact hlk9)) hL36_0 hL36_1 hL36_2 rfl (by omega)
                  ·
                    subst hz_28
                    subst hu_29
                    refine ⟨rfl, ?_⟩
                    refine S_w (ws' := [(h0, ob 11 f), (hQ, ar 30 Q), (hB, ar 6 B), (hA, ar 1206 A2_16)]) rfl ?_
                    have hlk9 := hq_30
                    refine S_if_eq (tgt := 62) X dX12_settle_47 (by decide) (by decide) (fun h9 => absurd h9 (by decide)) (fun _ => ?_)
                    refine S_iload_n X dX12_settle_50 rfl hL36_1 ?_
                    refine S_if_ne (tgt := 58) X dX12_settle_51 (by decide) (by omega) (fun c_33 => ?_) (fun c_33 => ?_)
                    ·
                      refine S_iload_n X dX12_settle_58 rfl hL36_2 ?_
                      refine S_iload_n X dX12_settle_59 rfl hL36_3 ?_
                      refine S_isub X dX12_settle_60 ?_
                      exact S_iret X (nle rfl) (nle rfl) dX12_settle_61 (hPo _ _ (⟨_, _, rfl, rfl, Or.inr ⟨by omega, by omega, Or.inr ⟨j, i, by omega, by omega, by omega, by omega, hlk9, hnj, hni, by rw [if_neg (by omega)]⟩⟩⟩))
                    ·
                      refine S_iload_n X dX12_settle_54 rfl hL36_3 ?_
                      refine S_goto (tgt := 61) X dX12_settle_55 (by decide) ?_
                      exact S_iret X (nle rfl) (nle rfl) dX12_settle_61 (hPo _ _ (⟨_, _, rfl, rfl, Or.inr ⟨by omega, by omega, Or.inr ⟨j, i, by omega, by omega, by omega, by omega, hlk9, hnj, hni, by rw [if_pos (by omega)]⟩⟩⟩))
            exact lp36_5 (Int.toNat (j + 1 - 0) + 1) 0 _ (by omega) (fun y h0 h1 => by omega) hL27_0 hL27_1 hL27_2 rfl (by omega)
      exact lp27_2 (Int.toNat (202 - 1) + 1) 1 _ (by omega) (fun x h0 h1 => by omega) rfl rfl rfl (by omega)
set_option maxHeartbeats 4000000 in
set_option maxRecDepth 100000 in
theorem kX12_place (l : Launch) (h0 : Nat) (f : Nat → AV) (pl : Int) (n : Int) (ec : Int) (mk : Int) (hQ : Nat) (hB : Nat) (hE : Nat) (hA : Nat) (hM : Nat) (hW : Nat) (Q : Int → Int) (B : Int → Int) (E : Int → Int) (Ab : Int → Int) (Mt : Int → Int) (Wt : Int → Int) (b : Int) (i : Int) (hf0 : f 21 = iv pl) (hf1 : f 28 = iv n) (hf2 : f 29 = iv ec) (hf3 : f 26 = iv mk) (hf4 : f 20 = rv hQ) (hf5 : f 23 = rv hB) (hf6 : f 24 = rv hE) (hf7 : f 33 = rv hA) (hf8 : f 34 = rv hM) (hf9 : f 35 = rv hW) (hz : okZ pl n ec (c5 Q 3) (c5 Q 4) B E) (hx_b : inR b) (hx_i : inR i) : AMi l yX12_place cX12_place 7 .int 4 0 0 [rv h0, iv b, iv i] [(h0, ob 11 f), (hQ, ar 30 Q), (hB, ar 6 B), (hE, ar 6 E), (hA, ar 1206 Ab), (hM, ar 180 Mt), (hW, ar 180 Wt)] (fun z u => ∃ A2 : Int → Int, ∃ M2 : Int → Int, ∃ W2 : Int → Int, z = aPlace pl n ec mk (c5 Q 3) (c5 Q 4) B E b i ∧ u = [(h0, ob 11 f), (hQ, ar 30 Q), (hB, ar 6 B), (hE, ar 6 E), (hA, ar 1206 A2), (hM, ar 180 M2), (hW, ar 180 W2)]) := by
  refine AMi.of2 rfl (nle rfl) ?_
  intro D G A p e s m args below meth c Po hPo X
  have hz6 := hz.2.1
  have hz0 := hz.1
  have hzn := hz.2.2.1
  have hzm := hz.2.2.2.1
  have hze := hz.2.2.2.2
  refine S_aload_n X dX12_place_0 rfl rfl ?_
  refine S_iload_n X dX12_place_1 rfl rfl ?_
  refine S_calli X (kX12_isBar l h0 f pl n b hf0 hf1 (by omega) (by omega) (by omega)) (is := [0]) rfl (run_V X lkX12_309 0 rfl rfl (is := [0]) (avs := [iv b]) (rest := []) rfl rfl (nle rfl) ⟨nle rfl, nle rfl⟩ ⟨nle rfl, nle rfl⟩ dX12_place_2 (by decide) rfl) (fun z_3 u_1 hp_2 => ?_)
  rcases hp_2 with ⟨hz_4, hu_5, hq_6⟩ | ⟨hz_7, hu_8, hq_9⟩
  ·
    subst hz_4
    subst hu_5
    refine ⟨rfl, ?_⟩
    refine S_w (ws' := [(h0, ob 11 f), (hQ, ar 30 Q), (hB, ar 6 B), (hE, ar 6 E), (hA, ar 1206 Ab), (hM, ar 180 Mt), (hW, ar 180 Wt)]) rfl ?_
    refine S_if_ne (tgt := 10) X dX12_place_5 (by decide) (by decide) (fun h9 => absurd h9 (by decide)) (fun _ => ?_)
    refine S_iconst X dX12_place_8 ?_
    exact S_iret X (nle rfl) (nle rfl) dX12_place_9 (hPo _ _ (⟨_, _, _, by unfold aPlace; rw [if_neg (by omega)], rfl⟩))
  ·
    subst hz_7
    subst hu_8
    refine ⟨rfl, ?_⟩
    refine S_w (ws' := [(h0, ob 11 f), (hQ, ar 30 Q), (hB, ar 6 B), (hE, ar 6 E), (hA, ar 1206 Ab), (hM, ar 180 Mt), (hW, ar 180 Wt)]) rfl ?_
    refine S_if_ne (tgt := 10) X dX12_place_5 (by decide) (by decide) (fun _ => ?_) (fun h9 => absurd h9 (by decide))
    have hok := hz.s (by omega)
    have hpl := hok.2.1
    have hpl1 := hok.1
    have hn1 := hok.2.2.1
    have hn2 := hok.2.2.2.1
    have hec := hok.2.2.2.2
    refine S_aload_n X dX12_place_10 rfl rfl ?_
    refine S_callv X (kX12_play l h0 f pl n ec mk hQ hB hE hA hM hW Q B E Ab Mt Wt hf0 hf1 hf2 hf3 hf4 hf5 hf6 hf7 hf8 hf9 (by omega)) (is := [0, 1, 2, 3, 4, 5, 6]) rfl (run_V X lkX12_312 0 rfl rfl (is := [0, 1, 2, 3, 4, 5, 6]) (avs := []) (rest := []) rfl rfl (nle rfl) ⟨nle rfl, nle rfl⟩ ⟨nle rfl, nle rfl⟩ dX12_place_11 (by decide) rfl) (fun u_12 hp_13 => ?_)
    obtain ⟨A2_15, M2_16, W2_17, hu_19, hA2_20, hM2_21, hW2_22⟩ := hp_13
    subst hu_19
    refine ⟨rfl, ?_⟩
    refine S_w (ws' := [(h0, ob 11 f), (hQ, ar 30 Q), (hB, ar 6 B), (hE, ar 6 E), (hA, ar 1206 A2_15), (hM, ar 180 M2_16), (hW, ar 180 W2_17)]) rfl ?_
    have hAL := hA2_20
    have hML := hM2_21
    have hWL := hW2_22
    refine S_iconst X dX12_place_14 ?_
    refine S_istore_n X dX12_place_15 rfl (nle rfl) ?_
    have lp16_1 : ∀ (N : Nat) (q : Int) (L : Nat → Option AV), 0 ≤ q ∧ q ≤ pl → fiI (fun p => decide (rkI ((tS pl ec mk (c5 Q 3) (c5 Q 4) B E) b) pl p = i)) q = -1 → L 0 = some (rv h0) → L 1 = some (iv b) → L 2 = some (iv i) → L 3 = some (iv q) → pl + 1 - q < (N : Int) → S_ p l e (rmD 4 0 0) s m args below meth c (MQ below (QcI D G A Po) args s 0 0 A) D G A 7 0 0 16 L [] [(h0, ob 11 f), (hQ, ar 30 Q), (hB, ar 6 B), (hE, ar 6 E), (hA, ar 1206 A2_15), (hM, ar 180 M2_16), (hW, ar 180 W2_17)] := by
      intro N
      induction N with
      | zero =>
        intro q L16 hq hfi hL16_0 hL16_1 hL16_2 hL16_3 hN16
        exfalso; omega
      | succ N ih16 =>
        intro q L16 hq hfi hL16_0 hL16_1 hL16_2 hL16_3 hN16
        refine S_iload_n X dX12_place_16 rfl hL16_3 ?_
        refine S_aload_n X dX12_place_17 rfl hL16_0 ?_
        refine S_get X fgX12_253_11 0 rfl hf0 dX12_place_18 ?_
        refine S_icmp_ge (tgt := 111) X dX12_place_21 (by decide) (by omega) (by omega) (fun c_23 => ?_) (fun c_23 => ?_)
        ·
          refine S_iconst X dX12_place_111 ?_
          exact S_iret X (nle rfl) (nle rfl) dX12_place_112 (hPo _ _ (⟨_, _, _, by unfold aPlace; rw [if_pos (by omega)]; have h9 := hfi; rw [show q = pl by omega] at h9; exact h9.symm, rfl⟩))
        ·
          refine S_iconst X dX12_place_24 ?_
          refine S_istore X dX12_place_25 (nle rfl) ?_
          refine S_iconst X dX12_place_27 ?_
          refine S_istore X dX12_place_28 (nle rfl) ?_
          have lp30_4 : ∀ (N : Nat) (o : Int) (cnt : Int) (L : Nat → Option AV), 0 ≤ o ∧ o ≤ pl → cnt = smI (fun o => if ((tS pl ec mk (c5 Q 3) (c5 Q 4) B E) b) o < ((tS pl ec mk (c5 Q 3) (c5 Q 4) B E) b) q ∨ ((tS pl ec mk (c5 Q 3) (c5 Q 4) B E) b) q = ((tS pl ec mk (c5 Q 3) (c5 Q 4) B E) b) o ∧ o < q then 1 else 0) o → L 0 = some (rv h0) → L 1 = some (iv b) → L 2 = some (iv i) → L 3 = some (iv q) → L 4 = some (iv cnt) → L 5 = some (iv o) → pl + 1 - o < (N : Int) → S_ p l e (rmD 4 0 0) s m args below meth c (MQ below (QcI D G A Po) args s 0 0 A) D G A 7 0 0 30 L [] [(h0, ob 11 f), (hQ, ar 30 Q), (hB, ar 6 B), (hE, ar 6 E), (hA, ar 1206 A2_15), (hM, ar 180 M2_16), (hW, ar 180 W2_17)] := by
            intro N
            induction N with
            | zero =>
              intro o cnt L30 ho hcnt hL30_0 hL30_1 hL30_2 hL30_3 hL30_4 hL30_5 hN30
              exfalso; omega
            | succ N ih30 =>
              intro o cnt L30 ho hcnt hL30_0 hL30_1 hL30_2 hL30_3 hL30_4 hL30_5 hN30
              refine S_iload X dX12_place_30 hL30_5 ?_
              refine S_aload_n X dX12_place_32 rfl hL30_0 ?_
              refine S_get X fgX12_253_11 0 rfl hf0 dX12_place_33 ?_
              refine S_icmp_ge (tgt := 97) X dX12_place_36 (by decide) (by omega) (by omega) (fun c_24 => ?_) (fun c_24 => ?_)
              ·
                have hc9 := sm01 (rk01 (g := ((tS pl ec mk (c5 Q 3) (c5 Q 4) B E) b)) (p := q)) o (by omega)
                have hrk : cnt = rkI ((tS pl ec mk (c5 Q 3) (c5 Q 4) B E) b) pl q := by rw [hcnt]; unfold rkI; rw [show o = pl by omega]
                refine S_iload X dX12_place_97 hL30_4 ?_
                refine S_iload_n X dX12_place_99 rfl hL30_2 ?_
                refine S_icmp_ne (tgt := 105) X dX12_place_100 (by decide) (by omega) (by omega) (fun c_25 => ?_) (fun c_25 => ?_)
                ·
                  refine S_iinc X dX12_place_105 (nle rfl) hL30_3 ?_
                  refine S_goto (tgt := 16) X dX12_place_108 (by decide) ?_
                  exact ih16 (q + 1) _ (by omega) (fiI_skip (by omega) hfi (decide_eq_false (by omega))) hL30_0 hL30_1 hL30_2 rfl (by omega)
                ·
                  refine S_iload_n X dX12_place_103 rfl hL30_3 ?_
                  exact S_iret X (nle rfl) (nle rfl) dX12_place_104 (hPo _ _ (⟨_, _, _, by unfold aPlace; rw [if_pos (by omega)]; exact (fiI_hit (by omega) hfi (decide_eq_true (by omega)) pl (by omega) (by omega)).symm, rfl⟩))
              ·
                have h1 := hML.at (z := 6 * b + q) (x := b) (y := q) rfl (by omega) (by omega) (by omega) (by omega)
                have h2 := hML.at (z := 6 * b + o) (x := b) (y := o) rfl (by omega) (by omega) (by omega) (by omega)
                have h3 := hok.time (mk := mk) b q (by omega) (by omega) (by omega)
                have h4 := hok.time (mk := mk) b o (by omega) (by omega) (by omega)
                refine S_aload_n X dX12_place_39 rfl hL30_0 ?_
                refine S_get X fgX12_68_11 0 rfl hf8 dX12_place_40 ?_
                refine S_bipush X dX12_place_43 rfl ?_
                refine S_iload_n X dX12_place_45 rfl hL30_1 ?_
                refine S_imul X dX12_place_46 ?_
                refine S_iload_n X dX12_place_47 rfl hL30_3 ?_
                refine S_iadd X dX12_place_48 ?_
                refine S_iald X 5 rfl (by omega) (by omega) (nle rfl) dX12_place_49 ?_
                refine S_aload_n X dX12_place_50 rfl hL30_0 ?_
                refine S_get X fgX12_68_11 0 rfl hf8 dX12_place_51 ?_
                refine S_bipush X dX12_place_54 rfl ?_
                refine S_iload_n X dX12_place_56 rfl hL30_1 ?_
                refine S_imul X dX12_place_57 ?_
                refine S_iload X dX12_place_58 hL30_5 ?_
                refine S_iadd X dX12_place_60 ?_
                refine S_iald X 5 rfl (by omega) (by omega) (nle rfl) dX12_place_61 ?_
                refine S_isub X dX12_place_62 ?_
                refine S_istore X dX12_place_63 (nle rfl) ?_
                refine S_iload X dX12_place_65 hL30_4 ?_
                refine S_iload X dX12_place_67 rfl ?_
                refine S_if_gt (tgt := 83) X dX12_place_69 (by decide) (by omega) (fun c_26 => ?_) (fun c_26 => ?_)
                ·
                  refine S_iconst X dX12_place_83 ?_
                  refine S_goto (tgt := 88) X dX12_place_84 (by decide) ?_
                  refine S_iadd X dX12_place_88 ?_
                  refine S_istore X dX12_place_89 (nle rfl) ?_
                  refine S_iinc X dX12_place_91 (nle rfl) hL30_5 ?_
                  refine S_goto (tgt := 30) X dX12_place_94 (by decide) ?_
                  exact ih30 (o + 1) (cnt + 1) _ (by omega) (by rw [smI_S (by omega), ← hcnt, if_pos (by omega)]) hL30_0 hL30_1 hL30_2 hL30_3 rfl rfl (by omega)
                ·
                  refine S_iload X dX12_place_72 rfl ?_
                  refine S_if_ne (tgt := 87) X dX12_place_74 (by decide) (by omega) (fun c_27 => ?_) (fun c_27 => ?_)
                  ·
                    refine S_iconst X dX12_place_87 ?_
                    refine S_iadd X dX12_place_88 ?_
                    refine S_istore X dX12_place_89 (nle rfl) ?_
                    refine S_iinc X dX12_place_91 (nle rfl) hL30_5 ?_
                    refine S_goto (tgt := 30) X dX12_place_94 (by decide) ?_
                    exact ih30 (o + 1) (cnt + 0) _ (by omega) (by rw [smI_S (by omega), ← hcnt, if_neg (by omega)]) hL30_0 hL30_1 hL30_2 hL30_3 rfl rfl (by omega)
                  ·
                    refine S_iload X dX12_place_77 hL30_5 ?_
                    refine S_iload_n X dX12_place_79 rfl hL30_3 ?_
                    refine S_icmp_ge (tgt := 87) X dX12_place_80 (by decide) (by omega) (by omega) (fun c_28 => ?_) (fun c_28 => ?_)
                    ·
                      refine S_iconst X dX12_place_87 ?_
                      refine S_iadd X dX12_place_88 ?_
                      refine S_istore X dX12_place_89 (nle rfl) ?_
                      refine S_iinc X dX12_place_91 (nle rfl) hL30_5 ?_
                      refine S_goto (tgt := 30) X dX12_place_94 (by decide) ?_
                      exact ih30 (o + 1) (cnt + 0) _ (by omega) (by rw [smI_S (by omega), ← hcnt, if_neg (by omega)]) hL30_0 hL30_1 hL30_2 hL30_3 rfl rfl (by omega)
                    ·
                      refine S_iconst X dX12_place_83 ?_
                      refine S_goto (tgt := 88) X dX12_place_84 (by decide) ?_
                      refine S_iadd X dX12_place_88 ?_
                      refine S_istore X dX12_place_89 (nle rfl) ?_
                      refine S_iinc X dX12_place_91 (nle rfl) hL30_5 ?_
                      refine S_goto (tgt := 30) X dX12_place_94 (by decide) ?_
                      exact ih30 (o + 1) (cnt + 1) _ (by omega) (by rw [smI_S (by omega), ← hcnt, if_pos (by omega)]) hL30_0 hL30_1 hL30_2 hL30_3 rfl rfl (by omega)
          exact lp30_4 (Int.toNat (pl + 1 - 0) + 1) 0 0 _ (by omega) (rfl) hL16_0 hL16_1 hL16_2 hL16_3 rfl rfl (by omega)
    exact lp16_1 (Int.toNat (pl + 1 - 0) + 1) 0 _ (by omega) (fiI_0) rfl rfl rfl rfl (by omega)
set_option maxHeartbeats 4000000 in
set_option maxRecDepth 100000 in
theorem kX12_aheadAt (l : Launch) (h0 : Nat) (f : Nat → AV) (pl : Int) (n : Int) (ec : Int) (mk : Int) (hM : Nat) (Q : Int → Int) (B : Int → Int) (E : Int → Int) (Mt : Int → Int) (b : Int) (i : Int) (j : Int) (hf0 : f 34 = rv hM) (hok : okS pl n ec (c5 Q 3) (c5 Q 4) B E) (hMr : reg Mt (tS pl ec mk (c5 Q 3) (c5 Q 4) B E) pl n 0) (hb : 0 ≤ b ∧ b < n) (hi : 0 ≤ i ∧ i < pl) (hj : 0 ≤ j ∧ j < pl) : AMi l yX12_aheadAt cX12_aheadAt 4 .int 1 0 0 [rv h0, iv b, iv i, iv j] [(h0, ob 11 f), (hM, ar 180 Mt)] (fun z u => z = cmI ((tS pl ec mk (c5 Q 3) (c5 Q 4) B E) b i) ((tS pl ec mk (c5 Q 3) (c5 Q 4) B E) b j) ∧ u = [(h0, ob 11 f), (hM, ar 180 Mt)]) := by
  refine AMi.of2 rfl (nle rfl) ?_
  intro D G A p e s m args below meth c Po hPo X
  have hpl := hok.2.1
  have hpl1 := hok.1
  have hn1 := hok.2.2.1
  have hn2 := hok.2.2.2.1
  have hec := hok.2.2.2.2
  have h1 := hMr.at (z := 6 * b + i) (x := b) (y := i) rfl (by omega) (by omega) (by omega) (by omega)
  have h2 := hMr.at (z := 6 * b + j) (x := b) (y := j) rfl (by omega) (by omega) (by omega) (by omega)
  have h3 := hok.time (mk := mk) b i (by omega) (by omega) (by omega)
  have h4 := hok.time (mk := mk) b j (by omega) (by omega) (by omega)
  refine S_aload_n X dX12_aheadAt_0 rfl rfl ?_
  refine S_get X fgX12_68_11 0 rfl hf0 dX12_aheadAt_1 ?_
  refine S_bipush X dX12_aheadAt_4 rfl ?_
  refine S_iload_n X dX12_aheadAt_6 rfl rfl ?_
  refine S_imul X dX12_aheadAt_7 ?_
  refine S_iload_n X dX12_aheadAt_8 rfl rfl ?_
  refine S_iadd X dX12_aheadAt_9 ?_
  refine S_iald X 1 rfl (by omega) (by omega) (nle rfl) dX12_aheadAt_10 ?_
  refine S_aload_n X dX12_aheadAt_11 rfl rfl ?_
  refine S_get X fgX12_68_11 0 rfl hf0 dX12_aheadAt_12 ?_
  refine S_bipush X dX12_aheadAt_15 rfl ?_
  refine S_iload_n X dX12_aheadAt_17 rfl rfl ?_
  refine S_imul X dX12_aheadAt_18 ?_
  refine S_iload_n X dX12_aheadAt_19 rfl rfl ?_
  refine S_iadd X dX12_aheadAt_20 ?_
  refine S_iald X 1 rfl (by omega) (by omega) (nle rfl) dX12_aheadAt_21 ?_
  refine S_calli X (kJ6_compare_7cf53 l (Mt ((6 * b) + i)) (Mt ((6 * b) + j)) (by omega) (by omega)) (is := []) rfl (run_S X lkX12_361 (is := []) (avs := [iv (Mt ((6 * b) + i)), iv (Mt ((6 * b) + j))]) (rest := []) rfl rfl (nle rfl) ⟨nle rfl, nle rfl⟩ ⟨nle rfl, nle rfl⟩ dX12_aheadAt_22 (by decide) rfl) (fun z_3 u_1 hp_2 => ?_)
  obtain ⟨hz_4, hu_5⟩ := hp_2
  subst hz_4
  subst hu_5
  refine ⟨rfl, ?_⟩
  refine S_w (ws' := [(h0, ob 11 f), (hM, ar 180 Mt)]) rfl ?_
  exact S_iret X (nle rfl) (nle rfl) dX12_aheadAt_25 (hPo _ _ (⟨by unfold cmI; rw [h1, h2], rfl⟩))
set_option maxHeartbeats 4000000 in
set_option maxRecDepth 100000 in
theorem kX12_overtakes (l : Launch) (h0 : Nat) (f : Nat → AV) (pl : Int) (n : Int) (ec : Int) (mk : Int) (hQ : Nat) (hB : Nat) (hE : Nat) (hA : Nat) (hM : Nat) (hW : Nat) (Q : Int → Int) (B : Int → Int) (E : Int → Int) (Ab : Int → Int) (Mt : Int → Int) (Wt : Int → Int) (i : Int) (j : Int) (hf0 : f 21 = iv pl) (hf1 : f 28 = iv n) (hf2 : f 29 = iv ec) (hf3 : f 26 = iv mk) (hf4 : f 20 = rv hQ) (hf5 : f 23 = rv hB) (hf6 : f 24 = rv hE) (hf7 : f 33 = rv hA) (hf8 : f 34 = rv hM) (hf9 : f 35 = rv hW) (hz : okZ pl n ec (c5 Q 3) (c5 Q 4) B E) (hx_i : inR i) (hx_j : inR j) : AMi l yX12_overtakes cX12_overtakes 6 .int 4 0 0 [rv h0, iv i, iv j] [(h0, ob 11 f), (hQ, ar 30 Q), (hB, ar 6 B), (hE, ar 6 E), (hA, ar 1206 Ab), (hM, ar 180 Mt), (hW, ar 180 Wt)] (fun z u => ∃ A2 : Int → Int, ∃ M2 : Int → Int, ∃ W2 : Int → Int, z = aOver pl n ec mk (c5 Q 3) (c5 Q 4) B E i j ∧ u = [(h0, ob 11 f), (hQ, ar 30 Q), (hB, ar 6 B), (hE, ar 6 E), (hA, ar 1206 A2), (hM, ar 180 M2), (hW, ar 180 W2)]) := by
  refine AMi.of2 rfl (nle rfl) ?_
  intro D G A p e s m args below meth c Po hPo X
  have hz6 := hz.2.1
  have hz0 := hz.1
  have hzn := hz.2.2.1
  have hzm := hz.2.2.2.1
  have hze := hz.2.2.2.2
  refine S_aload_n X dX12_overtakes_0 rfl rfl ?_
  refine S_iload_n X dX12_overtakes_1 rfl rfl ?_
  refine S_calli X (kX12_isPlayer l h0 f pl i hf0 (by omega) (by omega)) (is := [0]) rfl (run_V X lkX12_281 0 rfl rfl (is := [0]) (avs := [iv i]) (rest := []) rfl rfl (nle rfl) ⟨nle rfl, nle rfl⟩ ⟨nle rfl, nle rfl⟩ dX12_overtakes_2 (by decide) rfl) (fun z_3 u_1 hp_2 => ?_)
  rcases hp_2 with ⟨hz_4, hu_5, hq_6⟩ | ⟨hz_7, hu_8, hq_9⟩
  ·
    subst hz_4
    subst hu_5
    refine ⟨rfl, ?_⟩
    refine S_w (ws' := [(h0, ob 11 f), (hQ, ar 30 Q), (hB, ar 6 B), (hE, ar 6 E), (hA, ar 1206 Ab), (hM, ar 180 Mt), (hW, ar 180 Wt)]) rfl ?_
    refine S_if_eq (tgt := 21) X dX12_overtakes_5 (by decide) (by decide) (fun _ => ?_) (fun h9 => absurd h9 (by decide))
    refine S_iconst X dX12_overtakes_21 ?_
    exact S_iret X (nle rfl) (nle rfl) dX12_overtakes_22 (hPo _ _ (⟨_, _, _, by unfold aOver; rw [if_neg (by omega)], rfl⟩))
  ·
    subst hz_7
    subst hu_8
    refine ⟨rfl, ?_⟩
    refine S_w (ws' := [(h0, ob 11 f), (hQ, ar 30 Q), (hB, ar 6 B), (hE, ar 6 E), (hA, ar 1206 Ab), (hM, ar 180 Mt), (hW, ar 180 Wt)]) rfl ?_
    refine S_if_eq (tgt := 21) X dX12_overtakes_5 (by decide) (by decide) (fun h9 => absurd h9 (by decide)) (fun _ => ?_)
    refine S_aload_n X dX12_overtakes_8 rfl rfl ?_
    refine S_iload_n X dX12_overtakes_9 rfl rfl ?_
    refine S_calli X (kX12_isPlayer l h0 f pl j hf0 (by omega) (by omega)) (is := [0]) rfl (run_V X lkX12_281 0 rfl rfl (is := [0]) (avs := [iv j]) (rest := []) rfl rfl (nle rfl) ⟨nle rfl, nle rfl⟩ ⟨nle rfl, nle rfl⟩ dX12_overtakes_10 (by decide) rfl) (fun z_14 u_12 hp_13 => ?_)
    rcases hp_13 with ⟨hz_15, hu_16, hq_17⟩ | ⟨hz_18, hu_19, hq_20⟩
    ·
      subst hz_15
      subst hu_16
      refine ⟨rfl, ?_⟩
      refine S_w (ws' := [(h0, ob 11 f), (hQ, ar 30 Q), (hB, ar 6 B), (hE, ar 6 E), (hA, ar 1206 Ab), (hM, ar 180 Mt), (hW, ar 180 Wt)]) rfl ?_
      refine S_if_eq (tgt := 21) X dX12_overtakes_13 (by decide) (by decide) (fun _ => ?_) (fun h9 => absurd h9 (by decide))
      refine S_iconst X dX12_overtakes_21 ?_
      exact S_iret X (nle rfl) (nle rfl) dX12_overtakes_22 (hPo _ _ (⟨_, _, _, by unfold aOver; rw [if_neg (by omega)], rfl⟩))
    ·
      subst hz_18
      subst hu_19
      refine ⟨rfl, ?_⟩
      refine S_w (ws' := [(h0, ob 11 f), (hQ, ar 30 Q), (hB, ar 6 B), (hE, ar 6 E), (hA, ar 1206 Ab), (hM, ar 180 Mt), (hW, ar 180 Wt)]) rfl ?_
      refine S_if_eq (tgt := 21) X dX12_overtakes_13 (by decide) (by decide) (fun h9 => absurd h9 (by decide)) (fun _ => ?_)
      refine S_iload_n X dX12_overtakes_16 rfl rfl ?_
      refine S_iload_n X dX12_overtakes_17 rfl rfl ?_
      refine S_icmp_ne (tgt := 23) X dX12_overtakes_18 (by decide) (by omega) (by omega) (fun c_23 => ?_) (fun c_23 => ?_)
      ·
        have hok := hz.s (by omega)
        have hpl := hok.2.1
        have hpl1 := hok.1
        have hn1 := hok.2.2.1
        have hn2 := hok.2.2.2.1
        have hec := hok.2.2.2.2
        refine S_aload_n X dX12_overtakes_23 rfl rfl ?_
        refine S_callv X (kX12_play l h0 f pl n ec mk hQ hB hE hA hM hW Q B E Ab Mt Wt hf0 hf1 hf2 hf3 hf4 hf5 hf6 hf7 hf8 hf9 (by omega)) (is := [0, 1, 2, 3, 4, 5, 6]) rfl (run_V X lkX12_312 0 rfl rfl (is := [0, 1, 2, 3, 4, 5, 6]) (avs := []) (rest := []) rfl rfl (nle rfl) ⟨nle rfl, nle rfl⟩ ⟨nle rfl, nle rfl⟩ dX12_overtakes_24 (by decide) rfl) (fun u_24 hp_25 => ?_)
        obtain ⟨A2_27, M2_28, W2_29, hu_31, hA2_32, hM2_33, hW2_34⟩ := hp_25
        subst hu_31
        refine ⟨rfl, ?_⟩
        refine S_w (ws' := [(h0, ob 11 f), (hQ, ar 30 Q), (hB, ar 6 B), (hE, ar 6 E), (hA, ar 1206 A2_27), (hM, ar 180 M2_28), (hW, ar 180 W2_29)]) rfl ?_
        have hAL := hA2_32
        have hML := hM2_33
        have hWL := hW2_34
        refine S_iconst X dX12_overtakes_27 ?_
        refine S_istore_n X dX12_overtakes_28 rfl (nle rfl) ?_
        refine S_iconst X dX12_overtakes_29 ?_
        refine S_istore X dX12_overtakes_30 (nle rfl) ?_
        have lp32_3 : ∀ (N : Nat) (b : Int) (cnt : Int) (L : Nat → Option AV), 1 ≤ b ∧ b ≤ n → cnt = smI (fun b => if 1 ≤ b ∧ cmI ((tS pl ec mk (c5 Q 3) (c5 Q 4) B E) b i) ((tS pl ec mk (c5 Q 3) (c5 Q 4) B E) b j) ≠ 0 ∧ cmI ((tS pl ec mk (c5 Q 3) (c5 Q 4) B E) b i) ((tS pl ec mk (c5 Q 3) (c5 Q 4) B E) b j) ≠ cmI ((tS pl ec mk (c5 Q 3) (c5 Q 4) B E) (b - 1) i) ((tS pl ec mk (c5 Q 3) (c5 Q 4) B E) (b - 1) j) then 1 else 0) b → L 0 = some (rv h0) → L 1 = some (iv i) → L 2 = some (iv j) → L 3 = some (iv cnt) → L 4 = some (iv b) → n + 1 - b < (N : Int) → S_ p l e (rmD 4 0 0) s m args below meth c (MQ below (QcI D G A Po) args s 0 0 A) D G A 6 0 0 32 L [] [(h0, ob 11 f), (hQ, ar 30 Q), (hB, ar 6 B), (hE, ar 6 E), (hA, ar 1206 A2_27), (hM, ar 180 M2_28), (hW, ar 180 W2_29)] := by
          intro N
          induction N with
          | zero =>
            intro b cnt L32 hb hcnt hL32_0 hL32_1 hL32_2 hL32_3 hL32_4 hN32
            exfalso; omega
          | succ N ih32 =>
            intro b cnt L32 hb hcnt hL32_0 hL32_1 hL32_2 hL32_3 hL32_4 hN32
            refine S_iload X dX12_overtakes_32 hL32_4 ?_
            refine S_aload_n X dX12_overtakes_34 rfl hL32_0 ?_
            refine S_get X fgX12_56_11 0 rfl hf1 dX12_overtakes_35 ?_
            refine S_icmp_ge (tgt := 85) X dX12_overtakes_38 (by decide) (by omega) (by omega) (fun c_35 => ?_) (fun c_35 => ?_)
            ·
              refine S_iload_n X dX12_overtakes_85 rfl hL32_3 ?_
              exact S_iret X (nle rfl) (nle rfl) dX12_overtakes_86 (hPo _ _ (⟨_, _, _, by unfold aOver; rw [if_pos (by omega)]; unfold ovI; rw [hcnt, show b = n by omega], rfl⟩))
            ·
              refine S_aload_n X dX12_overtakes_41 rfl hL32_0 ?_
              refine S_iload X dX12_overtakes_42 hL32_4 ?_
              refine S_iload_n X dX12_overtakes_44 rfl hL32_1 ?_
              refine S_iload_n X dX12_overtakes_45 rfl hL32_2 ?_
              refine S_calli X (kX12_aheadAt l h0 f pl n ec mk hM Q B E M2_28 b i j hf8 (by omega) hML (by omega) (by omega) (by omega)) (is := [0, 5]) rfl (run_V X lkX12_365 0 rfl rfl (is := [0, 5]) (avs := [iv b, iv i, iv j]) (rest := []) rfl rfl (nle rfl) ⟨nle rfl, nle rfl⟩ ⟨nle rfl, nle rfl⟩ dX12_overtakes_46 (by decide) rfl) (fun z_38 u_36 hp_37 => ?_)
              obtain ⟨hz_39, hu_40⟩ := hp_37
              subst hz_39
              subst hu_40
              refine ⟨rfl, ?_⟩
              refine S_w (ws' := [(h0, ob 11 f), (hQ, ar 30 Q), (hB, ar 6 B), (hE, ar 6 E), (hA, ar 1206 A2_27), (hM, ar 180 M2_28), (hW, ar 180 W2_29)]) rfl ?_
              have hc1 := cmI_in ((tS pl ec mk (c5 Q 3) (c5 Q 4) B E) b i) ((tS pl ec mk (c5 Q 3) (c5 Q 4) B E) b j)
              refine S_istore X dX12_overtakes_49 (nle rfl) ?_
              refine S_iload_n X dX12_overtakes_51 rfl hL32_3 ?_
              refine S_iload X dX12_overtakes_52 rfl ?_
              refine S_if_eq (tgt := 76) X dX12_overtakes_54 (by decide) (by omega) (fun c_41 => ?_) (fun c_41 => ?_)
              ·
                refine S_iconst X dX12_overtakes_76 ?_
                refine S_iadd X dX12_overtakes_77 ?_
                refine S_istore_n X dX12_overtakes_78 rfl (nle rfl) ?_
                refine S_iinc X dX12_overtakes_79 (nle rfl) hL32_4 ?_
                refine S_goto (tgt := 32) X dX12_overtakes_82 (by decide) ?_
                exact ih32 (b + 1) (cnt + 0) _ (by omega) (by rw [smI_S (by omega), ← hcnt, if_neg (by omega)]) hL32_0 hL32_1 hL32_2 rfl rfl (by omega)
              ·
                refine S_iload X dX12_overtakes_57 rfl ?_
                refine S_aload_n X dX12_overtakes_59 rfl hL32_0 ?_
                refine S_iload X dX12_overtakes_60 hL32_4 ?_
                refine S_iconst X dX12_overtakes_62 ?_
                refine S_isub X dX12_overtakes_63 ?_
                refine S_iload_n X dX12_overtakes_64 rfl hL32_1 ?_
                refine S_iload_n X dX12_overtakes_65 rfl hL32_2 ?_
                refine S_calli X (kX12_aheadAt l h0 f pl n ec mk hM Q B E M2_28 (b - 1) i j hf8 (by omega) hML (by omega) (by omega) (by omega)) (is := [0, 5]) rfl (run_V X lkX12_365 0 rfl rfl (is := [0, 5]) (avs := [iv (b - 1), iv i, iv j]) (rest := [iv (cmI ((tS pl ec mk (c5 Q 3) (c5 Q 4) B E) b i) ((tS pl ec mk (c5 Q 3) (c5 Q 4) B E) b j)), iv cnt]) rfl rfl (nle rfl) ⟨nle rfl, nle rfl⟩ ⟨nle rfl, nle rfl⟩ dX12_overtakes_66 (by decide) rfl) (fun z_44 u_42 hp_43 => ?_)
                obtain ⟨hz_45, hu_46⟩ := hp_43
                subst hz_45
                subst hu_46
                refine ⟨rfl, ?_⟩
                refine S_w (ws' := [(h0, ob 11 f), (hQ, ar 30 Q), (hB, ar 6 B), (hE, ar 6 E), (hA, ar 1206 A2_27), (hM, ar 180 M2_28), (hW, ar 180 W2_29)]) rfl ?_
                have hc2 := cmI_in ((tS pl ec mk (c5 Q 3) (c5 Q 4) B E) (b - 1) i) ((tS pl ec mk (c5 Q 3) (c5 Q 4) B E) (b - 1) j)
                refine S_icmp_eq (tgt := 76) X dX12_overtakes_69 (by decide) (by omega) (by omega) (fun c_47 => ?_) (fun c_47 => ?_)
                ·
                  refine S_iconst X dX12_overtakes_76 ?_
                  refine S_iadd X dX12_overtakes_77 ?_
                  refine S_istore_n X dX12_overtakes_78 rfl (nle rfl) ?_
                  refine S_iinc X dX12_overtakes_79 (nle rfl) hL32_4 ?_
                  refine S_goto (tgt := 32) X dX12_overtakes_82 (by decide) ?_
                  exact ih32 (b + 1) (cnt + 0) _ (by omega) (by rw [smI_S (by omega), ← hcnt, if_neg (by omega)]) hL32_0 hL32_1 hL32_2 rfl rfl (by omega)
                ·
                  refine S_iconst X dX12_overtakes_72 ?_
                  refine S_goto (tgt := 77) X dX12_overtakes_73 (by decide) ?_
                  refine S_iadd X dX12_overtakes_77 ?_
                  refine S_istore_n X dX12_overtakes_78 rfl (nle rfl) ?_
                  refine S_iinc X dX12_overtakes_79 (nle rfl) hL32_4 ?_
                  refine S_goto (tgt := 32) X dX12_overtakes_82 (by decide) ?_
                  exact ih32 (b + 1) (cnt + 1) _ (by omega) (by rw [smI_S (by omega), ← hcnt, if_pos (by omega)]) hL32_0 hL32_1 hL32_2 rfl rfl (by omega)
        exact lp32_3 (Int.toNat (n + 1 - 1) + 1) 1 0 _ (by omega) (by rw [smI_1, if_neg (by omega)]; rfl) rfl rfl rfl rfl rfl (by omega)
      ·
        refine S_iconst X dX12_overtakes_21 ?_
        exact S_iret X (nle rfl) (nle rfl) dX12_overtakes_22 (hPo _ _ (⟨_, _, _, by unfold aOver; rw [if_neg (by omega)], rfl⟩))
set_option maxHeartbeats 4000000 in
set_option maxRecDepth 100000 in
theorem kX12_middle (l : Launch) (h0 : Nat) (f : Nat → AV) (pl : Int) (n : Int) (ec : Int) (mk : Int) (hQ : Nat) (hB : Nat) (hE : Nat) (hA : Nat) (hM : Nat) (hW : Nat) (Q : Int → Int) (B : Int → Int) (E : Int → Int) (Ab : Int → Int) (Mt : Int → Int) (Wt : Int → Int) (hf0 : f 21 = iv pl) (hf1 : f 28 = iv n) (hf2 : f 29 = iv ec) (hf3 : f 26 = iv mk) (hf4 : f 20 = rv hQ) (hf5 : f 23 = rv hB) (hf6 : f 24 = rv hE) (hf7 : f 33 = rv hA) (hf8 : f 34 = rv hM) (hf9 : f 35 = rv hW) (hz : okZ pl n ec (c5 Q 3) (c5 Q 4) B E) : AMi l yX12_middle cX12_middle 6 .int 4 0 0 [rv h0] [(h0, ob 11 f), (hQ, ar 30 Q), (hB, ar 6 B), (hE, ar 6 E), (hA, ar 1206 Ab), (hM, ar 180 Mt), (hW, ar 180 Wt)] (fun z u => ∃ A2 : Int → Int, ∃ M2 : Int → Int, ∃ W2 : Int → Int, z = aMiddle pl n ec mk (c5 Q 3) (c5 Q 4) B E ∧ u = [(h0, ob 11 f), (hQ, ar 30 Q), (hB, ar 6 B), (hE, ar 6 E), (hA, ar 1206 A2), (hM, ar 180 M2), (hW, ar 180 W2)]) := by
  refine AMi.of2 rfl (nle rfl) ?_
  intro D G A p e s m args below meth c Po hPo X
  have hz6 := hz.2.1
  have hz0 := hz.1
  have hzn := hz.2.2.1
  have hzm := hz.2.2.2.1
  have hze := hz.2.2.2.2
  refine S_aload_n X dX12_middle_0 rfl rfl ?_
  refine S_get X fgX12_253_11 0 rfl hf0 dX12_middle_1 ?_
  refine S_if_ne (tgt := 9) X dX12_middle_4 (by decide) (by omega) (fun c_1 => ?_) (fun c_1 => ?_)
  ·
    have hok := hz.s (by omega)
    have hpl := hok.2.1
    have hpl1 := hok.1
    have hn1 := hok.2.2.1
    have hn2 := hok.2.2.2.1
    have hec := hok.2.2.2.2
    refine S_aload_n X dX12_middle_9 rfl rfl ?_
    refine S_callv X (kX12_play l h0 f pl n ec mk hQ hB hE hA hM hW Q B E Ab Mt Wt hf0 hf1 hf2 hf3 hf4 hf5 hf6 hf7 hf8 hf9 (by omega)) (is := [0, 1, 2, 3, 4, 5, 6]) rfl (run_V X lkX12_312 0 rfl rfl (is := [0, 1, 2, 3, 4, 5, 6]) (avs := []) (rest := []) rfl rfl (nle rfl) ⟨nle rfl, nle rfl⟩ ⟨nle rfl, nle rfl⟩ dX12_middle_10 (by decide) rfl) (fun u_2 hp_3 => ?_)
    obtain ⟨A2_5, M2_6, W2_7, hu_9, hA2_10, hM2_11, hW2_12⟩ := hp_3
    subst hu_9
    refine ⟨rfl, ?_⟩
    refine S_w (ws' := [(h0, ob 11 f), (hQ, ar 30 Q), (hB, ar 6 B), (hE, ar 6 E), (hA, ar 1206 A2_5), (hM, ar 180 M2_6), (hW, ar 180 W2_7)]) rfl ?_
    have hAL := hA2_10
    have hML := hM2_11
    have hWL := hW2_12
    refine S_iconst X dX12_middle_13 ?_
    refine S_istore_n X dX12_middle_14 rfl (nle rfl) ?_
    refine S_iconst X dX12_middle_15 ?_
    refine S_istore_n X dX12_middle_16 rfl (nle rfl) ?_
    refine S_iconst X dX12_middle_17 ?_
    refine S_istore_n X dX12_middle_18 rfl (nle rfl) ?_
    have lp19_1 : ∀ (N : Nat) (q : Int) (be : Int) (le : Int) (L : Nat → Option AV), 0 ≤ q ∧ q ≤ pl → -1 ≤ be ∧ be ≤ 6 → q = 0 ∧ be = -1 ∧ le = 0 ∨ 1 ≤ q ∧ be = amI (fun p => -apI ((tS pl ec mk (c5 Q 3) (c5 Q 4) B E) (n - 1)) pl p) q ∧ le = apI ((tS pl ec mk (c5 Q 3) (c5 Q 4) B E) (n - 1)) pl be ∧ 0 ≤ le ∧ le ≤ 44820 ∧ 0 ≤ be → L 0 = some (rv h0) → L 1 = some (iv be) → L 2 = some (iv le) → L 3 = some (iv q) → pl + 1 - q < (N : Int) → S_ p l e (rmD 4 0 0) s m args below meth c (MQ below (QcI D G A Po) args s 0 0 A) D G A 6 0 0 19 L [] [(h0, ob 11 f), (hQ, ar 30 Q), (hB, ar 6 B), (hE, ar 6 E), (hA, ar 1206 A2_5), (hM, ar 180 M2_6), (hW, ar 180 W2_7)] := by
      intro N
      induction N with
      | zero =>
        intro q be le L19 hq hbr hbe hL19_0 hL19_1 hL19_2 hL19_3 hN19
        exfalso; omega
      | succ N ih19 =>
        intro q be le L19 hq hbr hbe hL19_0 hL19_1 hL19_2 hL19_3 hN19
        refine S_iload_n X dX12_middle_19 rfl hL19_3 ?_
        refine S_aload_n X dX12_middle_20 rfl hL19_0 ?_
        refine S_get X fgX12_253_11 0 rfl hf0 dX12_middle_21 ?_
        refine S_icmp_ge (tgt := 112) X dX12_middle_24 (by decide) (by omega) (by omega) (fun c_13 => ?_) (fun c_13 => ?_)
        ·
          refine S_iload_n X dX12_middle_112 rfl hL19_1 ?_
          exact S_iret X (nle rfl) (nle rfl) dX12_middle_113 (hPo _ _ (⟨_, _, _, by unfold aMiddle; rw [if_pos (by omega)]; rcases hbe with h9 | h9; (exfalso; omega); rw [h9.2.1, show q = pl by omega], rfl⟩))
        ·
          refine S_iconst X dX12_middle_27 ?_
          refine S_istore X dX12_middle_28 (nle rfl) ?_
          refine S_iconst X dX12_middle_30 ?_
          refine S_istore X dX12_middle_31 (nle rfl) ?_
          have lp33_4 : ∀ (N : Nat) (o : Int) (cnt : Int) (L : Nat → Option AV), 0 ≤ o ∧ o ≤ pl → cnt = smI (fun o => ((((tS pl ec mk (c5 Q 3) (c5 Q 4) B E) (n - 1)) o - ((tS pl ec mk (c5 Q 3) (c5 Q 4) B E) (n - 1)) q).natAbs : Int)) o → L 0 = some (rv h0) → L 1 = some (iv be) → L 2 = some (iv le) → L 3 = some (iv q) → L 4 = some (iv cnt) → L 5 = some (iv o) → pl + 1 - o < (N : Int) → S_ p l e (rmD 4 0 0) s m args below meth c (MQ below (QcI D G A Po) args s 0 0 A) D G A 6 0 0 33 L [] [(h0, ob 11 f), (hQ, ar 30 Q), (hB, ar 6 B), (hE, ar 6 E), (hA, ar 1206 A2_5), (hM, ar 180 M2_6), (hW, ar 180 W2_7)] := by
            intro N
            induction N with
            | zero =>
              intro o cnt L33 ho hcnt hL33_0 hL33_1 hL33_2 hL33_3 hL33_4 hL33_5 hN33
              exfalso; omega
            | succ N ih33 =>
              intro o cnt L33 ho hcnt hL33_0 hL33_1 hL33_2 hL33_3 hL33_4 hL33_5 hN33
              refine S_iload X dX12_middle_33 hL33_5 ?_
              refine S_aload_n X dX12_middle_35 rfl hL33_0 ?_
              refine S_get X fgX12_253_11 0 rfl hf0 dX12_middle_36 ?_
              refine S_icmp_ge (tgt := 90) X dX12_middle_39 (by decide) (by omega) (by omega) (fun c_14 => ?_) (fun c_14 => ?_)
              ·
                have hc9 := sm_le (f := (fun o => ((((tS pl ec mk (c5 Q 3) (c5 Q 4) B E) (n - 1)) o - ((tS pl ec mk (c5 Q 3) (c5 Q 4) B E) (n - 1)) q).natAbs : Int))) (K := 7470) o (by omega) (fun y y0 y1 => by have a1 := hok.time (mk := mk) (n - 1) y (by omega) y0 (by omega); have a2 := hok.time (mk := mk) (n - 1) q (by omega) (by omega) (by omega); omega)
                have hap : cnt = apI ((tS pl ec mk (c5 Q 3) (c5 Q 4) B E) (n - 1)) pl q := by rw [hcnt]; unfold apI; rw [show o = pl by omega]
                have hap2 := hap
                refine S_iload_n X dX12_middle_90 rfl hL33_1 ?_
                refine S_iconst X dX12_middle_91 ?_
                refine S_icmp_eq (tgt := 101) X dX12_middle_92 (by decide) (by omega) (by decide) (fun c_15 => ?_) (fun c_15 => ?_)
                ·
                  refine S_iload_n X dX12_middle_101 rfl hL33_3 ?_
                  refine S_istore_n X dX12_middle_102 rfl (nle rfl) ?_
                  refine S_iload X dX12_middle_103 hL33_4 ?_
                  refine S_istore_n X dX12_middle_105 rfl (nle rfl) ?_
                  refine S_iinc X dX12_middle_106 (nle rfl) hL33_3 ?_
                  refine S_goto (tgt := 19) X dX12_middle_109 (by decide) ?_
                  exact ih19 (q + 1) q cnt _ (by omega) (by omega) (mid_step (by omega) hbe hap (by omega) (by exact Or.inl ⟨rfl, rfl, by omega⟩)) hL33_0 rfl rfl rfl (by omega)
                ·
                  refine S_iload X dX12_middle_95 hL33_4 ?_
                  refine S_iload_n X dX12_middle_97 rfl hL33_2 ?_
                  refine S_icmp_ge (tgt := 106) X dX12_middle_98 (by decide) (by omega) (by omega) (fun c_16 => ?_) (fun c_16 => ?_)
                  ·
                    refine S_iinc X dX12_middle_106 (nle rfl) hL33_3 ?_
                    refine S_goto (tgt := 19) X dX12_middle_109 (by decide) ?_
                    exact ih19 (q + 1) be le _ (by omega) (by omega) (mid_step (by omega) hbe hap (by omega) (by exact Or.inr ⟨rfl, rfl, by omega⟩)) hL33_0 hL33_1 hL33_2 rfl (by omega)
                  ·
                    refine S_iload_n X dX12_middle_101 rfl hL33_3 ?_
                    refine S_istore_n X dX12_middle_102 rfl (nle rfl) ?_
                    refine S_iload X dX12_middle_103 hL33_4 ?_
                    refine S_istore_n X dX12_middle_105 rfl (nle rfl) ?_
                    refine S_iinc X dX12_middle_106 (nle rfl) hL33_3 ?_
                    refine S_goto (tgt := 19) X dX12_middle_109 (by decide) ?_
                    exact ih19 (q + 1) q cnt _ (by omega) (by omega) (mid_step (by omega) hbe hap (by omega) (by exact Or.inl ⟨rfl, rfl, by omega⟩)) hL33_0 rfl rfl rfl (by omega)
              ·
                have h1 := hML.at (z := 6 * (n - 1) + o) (x := n - 1) (y := o) rfl (by omega) (by omega) (by omega) (by omega)
                have h2 := hML.at (z := 6 * (n - 1) + q) (x := n - 1) (y := q) rfl (by omega) (by omega) (by omega) (by omega)
                have h3 := hok.time (mk := mk) (n - 1) o (by omega) (by omega) (by omega)
                have h4 := hok.time (mk := mk) (n - 1) q (by omega) (by omega) (by omega)
                refine S_iload X dX12_middle_42 hL33_4 ?_
                refine S_aload_n X dX12_middle_44 rfl hL33_0 ?_
                refine S_get X fgX12_68_11 0 rfl hf8 dX12_middle_45 ?_
                refine S_bipush X dX12_middle_48 rfl ?_
                refine S_aload_n X dX12_middle_50 rfl hL33_0 ?_
                refine S_get X fgX12_56_11 0 rfl hf1 dX12_middle_51 ?_
                refine S_iconst X dX12_middle_54 ?_
                refine S_isub X dX12_middle_55 ?_
                refine S_imul X dX12_middle_56 ?_
                refine S_iload X dX12_middle_57 hL33_5 ?_
                refine S_iadd X dX12_middle_59 ?_
                refine S_iald X 5 rfl (by omega) (by omega) (nle rfl) dX12_middle_60 ?_
                refine S_aload_n X dX12_middle_61 rfl hL33_0 ?_
                refine S_get X fgX12_68_11 0 rfl hf8 dX12_middle_62 ?_
                refine S_bipush X dX12_middle_65 rfl ?_
                refine S_aload_n X dX12_middle_67 rfl hL33_0 ?_
                refine S_get X fgX12_56_11 0 rfl hf1 dX12_middle_68 ?_
                refine S_iconst X dX12_middle_71 ?_
                refine S_isub X dX12_middle_72 ?_
                refine S_imul X dX12_middle_73 ?_
                refine S_iload_n X dX12_middle_74 rfl hL33_3 ?_
                refine S_iadd X dX12_middle_75 ?_
                refine S_iald X 5 rfl (by omega) (by omega) (nle rfl) dX12_middle_76 ?_
                refine S_isub X dX12_middle_77 ?_
                refine S_mabs X lkX12_358 rfl rfl (by omega) (nle rfl) (nle rfl) (nle rfl) (nle rfl) dX12_middle_78 ?_
                refine S_iadd X dX12_middle_81 ?_
                refine S_istore X dX12_middle_82 (nle rfl) ?_
                refine S_iinc X dX12_middle_84 (nle rfl) hL33_5 ?_
                refine S_goto (tgt := 33) X dX12_middle_87 (by decide) ?_
                exact ih33 (o + 1) (cnt + (((M2_6 ((6 * (n - 1)) + o)) - (M2_6 ((6 * (n - 1)) + q))).natAbs : Int)) _ (by omega) (by rw [smI_S (by omega), ← hcnt, h1, h2]) hL33_0 hL33_1 hL33_2 hL33_3 rfl rfl (by omega)
          exact lp33_4 (Int.toNat (pl + 1 - 0) + 1) 0 0 _ (by omega) (rfl) hL19_0 hL19_1 hL19_2 hL19_3 rfl rfl (by omega)
    exact lp19_1 (Int.toNat (pl + 1 - 0) + 1) 0 (-1) 0 _ (by omega) (by omega) (Or.inl ⟨rfl, rfl, rfl⟩) rfl rfl rfl rfl (by omega)
  ·
    refine S_iconst X dX12_middle_7 ?_
    exact S_iret X (nle rfl) (nle rfl) dX12_middle_8 (hPo _ _ (⟨_, _, _, by unfold aMiddle; rw [if_neg (by omega)], rfl⟩))
set_option maxHeartbeats 4000000 in
set_option maxRecDepth 100000 in
theorem kX12_ends (l : Launch) (h0 : Nat) (f : Nat → AV) (pl : Int) (n : Int) (ec : Int) (mk : Int) (hQ : Nat) (hB : Nat) (hE : Nat) (hA : Nat) (hM : Nat) (hW : Nat) (Q : Int → Int) (B : Int → Int) (E : Int → Int) (Ab : Int → Int) (Mt : Int → Int) (Wt : Int → Int) (v : Int) (hf0 : f 21 = iv pl) (hf1 : f 28 = iv n) (hf2 : f 29 = iv ec) (hf3 : f 26 = iv mk) (hf4 : f 20 = rv hQ) (hf5 : f 23 = rv hB) (hf6 : f 24 = rv hE) (hf7 : f 33 = rv hA) (hf8 : f 34 = rv hM) (hf9 : f 35 = rv hW) (hz : okZ pl n ec (c5 Q 3) (c5 Q 4) B E) (hx_v : inR v) : AMi l yX12_ends cX12_ends 3 .int 4 0 0 [rv h0, iv v] [(h0, ob 11 f), (hQ, ar 30 Q), (hB, ar 6 B), (hE, ar 6 E), (hA, ar 1206 Ab), (hM, ar 180 Mt), (hW, ar 180 Wt)] (fun z u => ∃ A2 : Int → Int, ∃ M2 : Int → Int, ∃ W2 : Int → Int, z = aEnds pl n ec mk (c5 Q 3) (c5 Q 4) B E v ∧ u = [(h0, ob 11 f), (hQ, ar 30 Q), (hB, ar 6 B), (hE, ar 6 E), (hA, ar 1206 A2), (hM, ar 180 M2), (hW, ar 180 W2)]) := by
  refine AMi.of2 rfl (nle rfl) ?_
  intro D G A p e s m args below meth c Po hPo X
  have hz6 := hz.2.1
  have hz0 := hz.1
  have hzn := hz.2.2.1
  have hzm := hz.2.2.2.1
  have hze := hz.2.2.2.2
  refine S_aload_n X dX12_ends_0 rfl rfl ?_
  refine S_get X fgX12_253_11 0 rfl hf0 dX12_ends_1 ?_
  refine S_if_eq (tgt := 16) X dX12_ends_4 (by decide) (by omega) (fun c_1 => ?_) (fun c_1 => ?_)
  ·
    refine S_iconst X dX12_ends_16 ?_
    exact S_iret X (nle rfl) (nle rfl) dX12_ends_17 (hPo _ _ (⟨_, _, _, by unfold aEnds; rw [if_neg (by omega)], rfl⟩))
  ·
    refine S_iload_n X dX12_ends_7 rfl rfl ?_
    refine S_iconst X dX12_ends_8 ?_
    refine S_iconst X dX12_ends_9 ?_
    refine S_calli X (kX12_in l v 0 1 (by omega) (by omega) (by omega)) (is := []) rfl (run_S X lkX12_216 (is := []) (avs := [iv v, iv 0, iv 1]) (rest := []) rfl rfl (nle rfl) ⟨nle rfl, nle rfl⟩ ⟨nle rfl, nle rfl⟩ dX12_ends_10 (by decide) rfl) (fun z_4 u_2 hp_3 => ?_)
    rcases hp_3 with ⟨hz_5, hu_6, hq_7⟩ | ⟨hz_8, hu_9, hq_10⟩
    ·
      subst hz_5
      subst hu_6
      refine ⟨rfl, ?_⟩
      refine S_w (ws' := [(h0, ob 11 f), (hQ, ar 30 Q), (hB, ar 6 B), (hE, ar 6 E), (hA, ar 1206 Ab), (hM, ar 180 Mt), (hW, ar 180 Wt)]) rfl ?_
      refine S_if_ne (tgt := 18) X dX12_ends_13 (by decide) (by decide) (fun h9 => absurd h9 (by decide)) (fun _ => ?_)
      refine S_iconst X dX12_ends_16 ?_
      exact S_iret X (nle rfl) (nle rfl) dX12_ends_17 (hPo _ _ (⟨_, _, _, by unfold aEnds; rw [if_neg (by omega)], rfl⟩))
    ·
      subst hz_8
      subst hu_9
      refine ⟨rfl, ?_⟩
      refine S_w (ws' := [(h0, ob 11 f), (hQ, ar 30 Q), (hB, ar 6 B), (hE, ar 6 E), (hA, ar 1206 Ab), (hM, ar 180 Mt), (hW, ar 180 Wt)]) rfl ?_
      refine S_if_ne (tgt := 18) X dX12_ends_13 (by decide) (by decide) (fun _ => ?_) (fun h9 => absurd h9 (by decide))
      have hok := hz.s (by omega)
      have hpl := hok.2.1
      have hpl1 := hok.1
      have hn1 := hok.2.2.1
      have hn2 := hok.2.2.2.1
      have hec := hok.2.2.2.2
      refine S_aload_n X dX12_ends_18 rfl rfl ?_
      refine S_callv X (kX12_play l h0 f pl n ec mk hQ hB hE hA hM hW Q B E Ab Mt Wt hf0 hf1 hf2 hf3 hf4 hf5 hf6 hf7 hf8 hf9 (by omega)) (is := [0, 1, 2, 3, 4, 5, 6]) rfl (run_V X lkX12_312 0 rfl rfl (is := [0, 1, 2, 3, 4, 5, 6]) (avs := []) (rest := []) rfl rfl (nle rfl) ⟨nle rfl, nle rfl⟩ ⟨nle rfl, nle rfl⟩ dX12_ends_19 (by decide) rfl) (fun u_13 hp_14 => ?_)
      obtain ⟨A2_16, M2_17, W2_18, hu_20, hA2_21, hM2_22, hW2_23⟩ := hp_14
      subst hu_20
      refine ⟨rfl, ?_⟩
      refine S_w (ws' := [(h0, ob 11 f), (hQ, ar 30 Q), (hB, ar 6 B), (hE, ar 6 E), (hA, ar 1206 A2_16), (hM, ar 180 M2_17), (hW, ar 180 W2_18)]) rfl ?_
      have hAL := hA2_21
      have hML := hM2_22
      have hWL := hW2_23
      refine S_aload_n X dX12_ends_22 rfl rfl ?_
      refine S_get X fgX12_68_11 0 rfl hf8 dX12_ends_23 ?_
      refine S_bipush X dX12_ends_26 rfl ?_
      refine S_aload_n X dX12_ends_28 rfl rfl ?_
      refine S_get X fgX12_56_11 0 rfl hf1 dX12_ends_29 ?_
      refine S_iconst X dX12_ends_32 ?_
      refine S_isub X dX12_ends_33 ?_
      refine S_imul X dX12_ends_34 ?_
      refine S_aload_n X dX12_ends_35 rfl rfl ?_
      refine S_aload_n X dX12_ends_36 rfl rfl ?_
      refine S_get X fgX12_56_11 0 rfl hf1 dX12_ends_37 ?_
      refine S_iconst X dX12_ends_40 ?_
      refine S_isub X dX12_ends_41 ?_
      refine S_calli X (kX12_lastAt l h0 f pl n ec mk hM Q B E M2_17 (n - 1) hf0 hf8 (by omega) hML (by omega)) (is := [0, 5]) rfl (run_V X lkX12_324 0 rfl rfl (is := [0, 5]) (avs := [iv (n - 1)]) (rest := [iv (6 * (n - 1)), rv hM]) rfl rfl (nle rfl) ⟨nle rfl, nle rfl⟩ ⟨nle rfl, nle rfl⟩ dX12_ends_42 (by decide) rfl) (fun z_26 u_24 hp_25 => ?_)
      obtain ⟨hz_27, hu_28⟩ := hp_25
      subst hz_27
      subst hu_28
      refine ⟨rfl, ?_⟩
      refine S_w (ws' := [(h0, ob 11 f), (hQ, ar 30 Q), (hB, ar 6 B), (hE, ar 6 E), (hA, ar 1206 A2_16), (hM, ar 180 M2_17), (hW, ar 180 W2_18)]) rfl ?_
      have hl9 := amI_lt (g := ((tS pl ec mk (c5 Q 3) (c5 Q 4) B E) (n - 1))) (p := pl) (by omega)
      have hl8 := hML.at (z := 6 * (n - 1) + amI ((tS pl ec mk (c5 Q 3) (c5 Q 4) B E) (n - 1)) pl) (x := n - 1) (y := amI ((tS pl ec mk (c5 Q 3) (c5 Q 4) B E) (n - 1)) pl) rfl (by omega) (by omega) (by omega) (by omega)
      have hl7 : ((tS pl ec mk (c5 Q 3) (c5 Q 4) B E) (n - 1)) (amI ((tS pl ec mk (c5 Q 3) (c5 Q 4) B E) (n - 1)) pl) = mxI ((tS pl ec mk (c5 Q 3) (c5 Q 4) B E) (n - 1)) pl := mxI_am (by omega) (fun y y0 y1 => by have := hok.time (mk := mk) (n - 1) y (by omega) y0 y1; omega)
      refine S_iadd X dX12_ends_45 ?_
      refine S_iald X 5 rfl (by omega) (by omega) (nle rfl) dX12_ends_46 ?_
      refine S_istore_n X dX12_ends_47 rfl (nle rfl) ?_
      refine S_iload_n X dX12_ends_48 rfl rfl ?_
      refine S_if_ne (tgt := 56) X dX12_ends_49 (by decide) (by omega) (fun c_29 => ?_) (fun c_29 => ?_)
      ·
        refine S_iload_n X dX12_ends_56 rfl rfl ?_
        refine S_aload_n X dX12_ends_57 rfl rfl ?_
        refine S_aload_n X dX12_ends_58 rfl rfl ?_
        refine S_get X fgX12_56_11 0 rfl hf1 dX12_ends_59 ?_
        refine S_iconst X dX12_ends_62 ?_
        refine S_isub X dX12_ends_63 ?_
        refine S_calli X (kX12_spreadAt l h0 f pl n ec mk hM Q B E M2_17 (n - 1) hf0 hf8 (by omega) hML (by omega)) (is := [0, 5]) rfl (run_V X lkX12_315 0 rfl rfl (is := [0, 5]) (avs := [iv (n - 1)]) (rest := [iv (M2_17 ((6 * (n - 1)) + (amI ((tS pl ec mk (c5 Q 3) (c5 Q 4) B E) (n - 1)) pl)))]) rfl rfl (nle rfl) ⟨nle rfl, nle rfl⟩ ⟨nle rfl, nle rfl⟩ dX12_ends_64 (by decide) rfl) (fun z_32 u_30 hp_31 => ?_)
        obtain ⟨hz_33, hu_34⟩ := hp_31
        subst hz_33
        subst hu_34
        refine ⟨rfl, ?_⟩
        refine S_w (ws' := [(h0, ob 11 f), (hQ, ar 30 Q), (hB, ar 6 B), (hE, ar 6 E), (hA, ar 1206 A2_16), (hM, ar 180 M2_17), (hW, ar 180 W2_18)]) rfl ?_
        refine S_isub X dX12_ends_67 ?_
        exact S_iret X (nle rfl) (nle rfl) dX12_ends_68 (hPo _ _ (⟨_, _, _, by unfold aEnds; rw [if_pos (by omega), if_neg (by omega), hl8, hl7], rfl⟩))
      ·
        refine S_iload_n X dX12_ends_52 rfl rfl ?_
        refine S_goto (tgt := 68) X dX12_ends_53 (by decide) ?_
        exact S_iret X (nle rfl) (nle rfl) dX12_ends_68 (hPo _ _ (⟨_, _, _, by unfold aEnds; rw [if_pos (by omega), if_pos (by omega), hl8, hl7], rfl⟩))
set_option maxHeartbeats 4000000 in
set_option maxRecDepth 100000 in
theorem kX12_stray (l : Launch) (h0 : Nat) (f : Nat → AV) (pl : Int) (n : Int) (ec : Int) (mk : Int) (hQ : Nat) (hB : Nat) (hE : Nat) (hA : Nat) (hM : Nat) (hW : Nat) (Q : Int → Int) (B : Int → Int) (E : Int → Int) (Ab : Int → Int) (Mt : Int → Int) (Wt : Int → Int) (pp : Int) (v : Int) (hf0 : f 21 = iv pl) (hf1 : f 28 = iv n) (hf2 : f 29 = iv ec) (hf3 : f 26 = iv mk) (hf4 : f 20 = rv hQ) (hf5 : f 23 = rv hB) (hf6 : f 24 = rv hE) (hf7 : f 33 = rv hA) (hf8 : f 34 = rv hM) (hf9 : f 35 = rv hW) (hz : okZ pl n ec (c5 Q 3) (c5 Q 4) B E) (hx_pp : inR pp) (hx_v : inR v) : AMi l yX12_stray cX12_stray 4 .int 4 0 0 [rv h0, iv pp, iv v] [(h0, ob 11 f), (hQ, ar 30 Q), (hB, ar 6 B), (hE, ar 6 E), (hA, ar 1206 Ab), (hM, ar 180 Mt), (hW, ar 180 Wt)] (fun z u => ∃ A2 : Int → Int, ∃ M2 : Int → Int, ∃ W2 : Int → Int, z = aStray pl n ec (c5 Q 3) (c5 Q 4) B pp v ∧ u = [(h0, ob 11 f), (hQ, ar 30 Q), (hB, ar 6 B), (hE, ar 6 E), (hA, ar 1206 A2), (hM, ar 180 M2), (hW, ar 180 W2)]) := by
  refine AMi.of2 rfl (nle rfl) ?_
  intro D G A p e s m args below meth c Po hPo X
  have hz6 := hz.2.1
  have hz0 := hz.1
  have hzn := hz.2.2.1
  have hzm := hz.2.2.2.1
  have hze := hz.2.2.2.2
  refine S_aload_n X dX12_stray_0 rfl rfl ?_
  refine S_iload_n X dX12_stray_1 rfl rfl ?_
  refine S_calli X (kX12_isPlayer l h0 f pl pp hf0 (by omega) (by omega)) (is := [0]) rfl (run_V X lkX12_281 0 rfl rfl (is := [0]) (avs := [iv pp]) (rest := []) rfl rfl (nle rfl) ⟨nle rfl, nle rfl⟩ ⟨nle rfl, nle rfl⟩ dX12_stray_2 (by decide) rfl) (fun z_3 u_1 hp_2 => ?_)
  rcases hp_2 with ⟨hz_4, hu_5, hq_6⟩ | ⟨hz_7, hu_8, hq_9⟩
  ·
    subst hz_4
    subst hu_5
    refine ⟨rfl, ?_⟩
    refine S_w (ws' := [(h0, ob 11 f), (hQ, ar 30 Q), (hB, ar 6 B), (hE, ar 6 E), (hA, ar 1206 Ab), (hM, ar 180 Mt), (hW, ar 180 Wt)]) rfl ?_
    refine S_if_eq (tgt := 18) X dX12_stray_5 (by decide) (by decide) (fun _ => ?_) (fun h9 => absurd h9 (by decide))
    refine S_iconst X dX12_stray_18 ?_
    exact S_iret X (nle rfl) (nle rfl) dX12_stray_19 (hPo _ _ (⟨_, _, _, by unfold aStray; rw [if_neg (by omega)], rfl⟩))
  ·
    subst hz_7
    subst hu_8
    refine ⟨rfl, ?_⟩
    refine S_w (ws' := [(h0, ob 11 f), (hQ, ar 30 Q), (hB, ar 6 B), (hE, ar 6 E), (hA, ar 1206 Ab), (hM, ar 180 Mt), (hW, ar 180 Wt)]) rfl ?_
    refine S_if_eq (tgt := 18) X dX12_stray_5 (by decide) (by decide) (fun h9 => absurd h9 (by decide)) (fun _ => ?_)
    refine S_iload_n X dX12_stray_8 rfl rfl ?_
    refine S_iconst X dX12_stray_9 ?_
    refine S_bipush X dX12_stray_10 rfl ?_
    refine S_calli X (kX12_in l v 1 99 (by omega) (by omega) (by omega)) (is := []) rfl (run_S X lkX12_216 (is := []) (avs := [iv v, iv 1, iv 99]) (rest := []) rfl rfl (nle rfl) ⟨nle rfl, nle rfl⟩ ⟨nle rfl, nle rfl⟩ dX12_stray_12 (by decide) rfl) (fun z_14 u_12 hp_13 => ?_)
    rcases hp_13 with ⟨hz_15, hu_16, hq_17⟩ | ⟨hz_18, hu_19, hq_20⟩
    ·
      subst hz_15
      subst hu_16
      refine ⟨rfl, ?_⟩
      refine S_w (ws' := [(h0, ob 11 f), (hQ, ar 30 Q), (hB, ar 6 B), (hE, ar 6 E), (hA, ar 1206 Ab), (hM, ar 180 Mt), (hW, ar 180 Wt)]) rfl ?_
      refine S_if_ne (tgt := 20) X dX12_stray_15 (by decide) (by decide) (fun h9 => absurd h9 (by decide)) (fun _ => ?_)
      refine S_iconst X dX12_stray_18 ?_
      exact S_iret X (nle rfl) (nle rfl) dX12_stray_19 (hPo _ _ (⟨_, _, _, by unfold aStray; rw [if_neg (by omega)], rfl⟩))
    ·
      subst hz_18
      subst hu_19
      refine ⟨rfl, ?_⟩
      refine S_w (ws' := [(h0, ob 11 f), (hQ, ar 30 Q), (hB, ar 6 B), (hE, ar 6 E), (hA, ar 1206 Ab), (hM, ar 180 Mt), (hW, ar 180 Wt)]) rfl ?_
      refine S_if_ne (tgt := 20) X dX12_stray_15 (by decide) (by decide) (fun _ => ?_) (fun h9 => absurd h9 (by decide))
      have hok := hz.s (by omega)
      have hpl := hok.2.1
      have hpl1 := hok.1
      have hn1 := hok.2.2.1
      have hn2 := hok.2.2.2.1
      have hec := hok.2.2.2.2
      refine S_aload_n X dX12_stray_20 rfl rfl ?_
      refine S_callv X (kX12_play l h0 f pl n ec mk hQ hB hE hA hM hW Q B E Ab Mt Wt hf0 hf1 hf2 hf3 hf4 hf5 hf6 hf7 hf8 hf9 (by omega)) (is := [0, 1, 2, 3, 4, 5, 6]) rfl (run_V X lkX12_312 0 rfl rfl (is := [0, 1, 2, 3, 4, 5, 6]) (avs := []) (rest := []) rfl rfl (nle rfl) ⟨nle rfl, nle rfl⟩ ⟨nle rfl, nle rfl⟩ dX12_stray_21 (by decide) rfl) (fun u_23 hp_24 => ?_)
      obtain ⟨A2_26, M2_27, W2_28, hu_30, hA2_31, hM2_32, hW2_33⟩ := hp_24
      subst hu_30
      refine ⟨rfl, ?_⟩
      refine S_w (ws' := [(h0, ob 11 f), (hQ, ar 30 Q), (hB, ar 6 B), (hE, ar 6 E), (hA, ar 1206 A2_26), (hM, ar 180 M2_27), (hW, ar 180 W2_28)]) rfl ?_
      have hAL := hA2_31
      have hML := hM2_32
      have hWL := hW2_33
      refine S_iconst X dX12_stray_24 ?_
      refine S_istore_n X dX12_stray_25 rfl (nle rfl) ?_
      have lp26_2 : ∀ (N : Nat) (b : Int) (L : Nat → Option AV), 1 ≤ b ∧ b ≤ n → fiI (fun b => decide (1 ≤ b ∧ v ≤ (((bF ec (c5 Q 3) (c5 Q 4) B) b pp - (bF ec (c5 Q 3) (c5 Q 4) B) (b - 1) pp).natAbs : Int))) b = -1 → L 0 = some (rv h0) → L 1 = some (iv pp) → L 2 = some (iv v) → L 3 = some (iv b) → n + 1 - b < (N : Int) → S_ p l e (rmD 4 0 0) s m args below meth c (MQ below (QcI D G A Po) args s 0 0 A) D G A 4 0 0 26 L [] [(h0, ob 11 f), (hQ, ar 30 Q), (hB, ar 6 B), (hE, ar 6 E), (hA, ar 1206 A2_26), (hM, ar 180 M2_27), (hW, ar 180 W2_28)] := by
        intro N
        induction N with
        | zero =>
          intro b L26 hb hfi hL26_0 hL26_1 hL26_2 hL26_3 hN26
          exfalso; omega
        | succ N ih26 =>
          intro b L26 hb hfi hL26_0 hL26_1 hL26_2 hL26_3 hN26
          refine S_iload_n X dX12_stray_26 rfl hL26_3 ?_
          refine S_aload_n X dX12_stray_27 rfl hL26_0 ?_
          refine S_get X fgX12_56_11 0 rfl hf1 dX12_stray_28 ?_
          refine S_icmp_ge (tgt := 74) X dX12_stray_31 (by decide) (by omega) (by omega) (fun c_34 => ?_) (fun c_34 => ?_)
          ·
            refine S_iconst X dX12_stray_74 ?_
            exact S_iret X (nle rfl) (nle rfl) dX12_stray_75 (hPo _ _ (⟨_, _, _, by unfold aStray; rw [if_pos (by omega)]; unfold srI; have h9 := hfi; rw [show b = n by omega] at h9; exact h9.symm, rfl⟩))
          ·
            have h1 := hAL.at (z := 6 * b + pp) (x := b) (y := pp) rfl (by omega) (by omega) (by omega) (by omega)
            have h2 := hAL.at (z := 6 * (b - 1) + pp) (x := b - 1) (y := pp) rfl (by omega) (by omega) (by omega) (by omega)
            have h3 := hok.beat b pp (by omega) (by omega) (by omega)
            have h4 := hok.beat (b - 1) pp (by omega) (by omega) (by omega)
            refine S_aload_n X dX12_stray_34 rfl hL26_0 ?_
            refine S_get X fgX12_65_11 0 rfl hf7 dX12_stray_35 ?_
            refine S_bipush X dX12_stray_38 rfl ?_
            refine S_iload_n X dX12_stray_40 rfl hL26_3 ?_
            refine S_imul X dX12_stray_41 ?_
            refine S_iload_n X dX12_stray_42 rfl hL26_1 ?_
            refine S_iadd X dX12_stray_43 ?_
            refine S_iald X 4 rfl (by omega) (by omega) (nle rfl) dX12_stray_44 ?_
            refine S_aload_n X dX12_stray_45 rfl hL26_0 ?_
            refine S_get X fgX12_65_11 0 rfl hf7 dX12_stray_46 ?_
            refine S_bipush X dX12_stray_49 rfl ?_
            refine S_iload_n X dX12_stray_51 rfl hL26_3 ?_
            refine S_iconst X dX12_stray_52 ?_
            refine S_isub X dX12_stray_53 ?_
            refine S_imul X dX12_stray_54 ?_
            refine S_iload_n X dX12_stray_55 rfl hL26_1 ?_
            refine S_iadd X dX12_stray_56 ?_
            refine S_iald X 4 rfl (by omega) (by omega) (nle rfl) dX12_stray_57 ?_
            refine S_isub X dX12_stray_58 ?_
            refine S_mabs X lkX12_358 rfl rfl (by omega) (nle rfl) (nle rfl) (nle rfl) (nle rfl) dX12_stray_59 ?_
            refine S_iload_n X dX12_stray_62 rfl hL26_2 ?_
            refine S_icmp_lt (tgt := 68) X dX12_stray_63 (by decide) (by omega) (by omega) (fun c_35 => ?_) (fun c_35 => ?_)
            ·
              refine S_iinc X dX12_stray_68 (nle rfl) hL26_3 ?_
              refine S_goto (tgt := 26) X dX12_stray_71 (by decide) ?_
              exact ih26 (b + 1) _ (by omega) (fiI_skip (by omega) hfi (decide_eq_false (by omega))) hL26_0 hL26_1 hL26_2 rfl (by omega)
            ·
              refine S_iload_n X dX12_stray_66 rfl hL26_3 ?_
              exact S_iret X (nle rfl) (nle rfl) dX12_stray_67 (hPo _ _ (⟨_, _, _, by unfold aStray; rw [if_pos (by omega)]; unfold srI; exact (fiI_hit (by omega) hfi (decide_eq_true (by omega)) n (by omega) (by omega)).symm, rfl⟩))
      exact lp26_2 (Int.toNat (n + 1 - 1) + 1) 1 _ (by omega) (fiI_1 (decide_eq_false (by omega))) rfl rfl rfl rfl (by omega)
