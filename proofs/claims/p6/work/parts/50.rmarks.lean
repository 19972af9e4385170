
set_option maxHeartbeats 4000000 in
set_option maxRecDepth 100000 in
theorem kX12_odds (l : Launch) (h0 : Nat) (f : Nat → AV) (pl : Int) (n : Int) (ec : Int) (mk : Int) (hQ : Nat) (hB : Nat) (hE : Nat) (hA : Nat) (hM : Nat) (hW : Nat) (Q : Int → Int) (B : Int → Int) (E : Int → Int) (Ab : Int → Int) (Mt : Int → Int) (Wt : Int → Int) (pp : Int) (k9 : Int) (mt : Int) (hwb : Nat) (Wb : Int → Int) (hf0 : f 21 = iv pl) (hf1 : f 28 = iv n) (hf2 : f 29 = iv ec) (hf3 : f 26 = iv mk) (hf4 : f 20 = rv hQ) (hf5 : f 23 = rv hB) (hf6 : f 24 = rv hE) (hf7 : f 33 = rv hA) (hf8 : f 34 = rv hM) (hf9 : f 35 = rv hW) (hf10 : f 22 = iv mt) (hf11 : f 36 = rv hwb) (hz : okZ pl n ec (c5 Q 3) (c5 Q 4) B E) (hx_pp : inR pp) (hx_k9 : inR k9) (hod : okDy pl mt (c5 Q 2) (c5 Q 1)) : AMi l yX12_odds cX12_odds 3 .int 14 0 0 [rv h0, iv pp, iv k9] [(h0, ob 11 f), (hQ, ar 30 Q), (hB, ar 6 B), (hE, ar 6 E), (hA, ar 1206 Ab), (hM, ar 180 Mt), (hW, ar 180 Wt), (hwb, ar 42 Wb)] (fun z u => ∃ A2 : Int → Int, ∃ M2 : Int → Int, ∃ W2 : Int → Int, ∃ Wb2 : Int → Int, z = aOddsR pl n ec mk mt (c5 Q 3) (c5 Q 4) B E (c5 Q 2) (c5 Q 1) pp k9 ∧ u = [(h0, ob 11 f), (hQ, ar 30 Q), (hB, ar 6 B), (hE, ar 6 E), (hA, ar 1206 A2), (hM, ar 180 M2), (hW, ar 180 W2), (hwb, ar 42 Wb2)]) := by
  refine AMi.of2 rfl (nle rfl) ?_
  intro D G A p e s m args below meth c Po hPo X
  have hz6 := hz.2.1
  have hz0 := hz.1
  have hzn := hz.2.2.1
  have hzm := hz.2.2.2.1
  have hze := hz.2.2.2.2
  refine S_aload_n X dX12_odds_0 rfl rfl ?_
  refine S_iload_n X dX12_odds_1 rfl rfl ?_
  refine S_calli X (kX12_isPlayer l h0 f pl pp hf0 (by omega) (by omega)) (is := [0]) rfl (run_V X lkX12_281 0 rfl rfl (is := [0]) (avs := [iv pp]) (rest := []) rfl rfl (nle rfl) ⟨nle rfl, nle rfl⟩ ⟨nle rfl, nle rfl⟩ dX12_odds_2 (by decide) rfl) (fun z_3 u_1 hp_2 => ?_)
  rcases hp_2 with ⟨hz_4, hu_5, hq_6⟩ | ⟨hz_7, hu_8, hq_9⟩
  ·
    subst hz_4
    subst hu_5
    refine ⟨rfl, ?_⟩
    refine S_w (ws' := [(h0, ob 11 f), (hQ, ar 30 Q), (hB, ar 6 B), (hE, ar 6 E), (hA, ar 1206 Ab), (hM, ar 180 Mt), (hW, ar 180 Wt), (hwb, ar 42 Wb)]) rfl ?_
    refine S_if_eq (tgt := 28) X dX12_odds_5 (by decide) (by decide) (fun _ => ?_) (fun h9 => absurd h9 (by decide))
    refine S_iconst X dX12_odds_28 ?_
    exact S_iret X (nle rfl) (nle rfl) dX12_odds_29 (hPo _ _ (⟨_, _, _, _, by unfold aOddsR; rw [if_neg (by omega)], rfl⟩))
  ·
    subst hz_7
    subst hu_8
    refine ⟨rfl, ?_⟩
    refine S_w (ws' := [(h0, ob 11 f), (hQ, ar 30 Q), (hB, ar 6 B), (hE, ar 6 E), (hA, ar 1206 Ab), (hM, ar 180 Mt), (hW, ar 180 Wt), (hwb, ar 42 Wb)]) rfl ?_
    refine S_if_eq (tgt := 28) X dX12_odds_5 (by decide) (by decide) (fun h9 => absurd h9 (by decide)) (fun _ => ?_)
    refine S_iload_n X dX12_odds_8 rfl rfl ?_
    refine S_iconst X dX12_odds_9 ?_
    refine S_bipush X dX12_odds_10 rfl ?_
    refine S_calli X (kX12_in l k9 1 6 (by omega) (by omega) (by omega)) (is := []) rfl (run_S X lkX12_216 (is := []) (avs := [iv k9, iv 1, iv 6]) (rest := []) rfl rfl (nle rfl) ⟨nle rfl, nle rfl⟩ ⟨nle rfl, nle rfl⟩ dX12_odds_12 (by decide) rfl) (fun z_14 u_12 hp_13 => ?_)
    rcases hp_13 with ⟨hz_15, hu_16, hq_17⟩ | ⟨hz_18, hu_19, hq_20⟩
    ·
      subst hz_15
      subst hu_16
      refine ⟨rfl, ?_⟩
      refine S_w (ws' := [(h0, ob 11 f), (hQ, ar 30 Q), (hB, ar 6 B), (hE, ar 6 E), (hA, ar 1206 Ab), (hM, ar 180 Mt), (hW, ar 180 Wt), (hwb, ar 42 Wb)]) rfl ?_
      refine S_if_eq (tgt := 28) X dX12_odds_15 (by decide) (by decide) (fun _ => ?_) (fun h9 => absurd h9 (by decide))
      refine S_iconst X dX12_odds_28 ?_
      exact S_iret X (nle rfl) (nle rfl) dX12_odds_29 (hPo _ _ (⟨_, _, _, _, by unfold aOddsR; rw [if_neg (by omega)], rfl⟩))
    ·
      subst hz_18
      subst hu_19
      refine ⟨rfl, ?_⟩
      refine S_w (ws' := [(h0, ob 11 f), (hQ, ar 30 Q), (hB, ar 6 B), (hE, ar 6 E), (hA, ar 1206 Ab), (hM, ar 180 Mt), (hW, ar 180 Wt), (hwb, ar 42 Wb)]) rfl ?_
      refine S_if_eq (tgt := 28) X dX12_odds_15 (by decide) (by decide) (fun h9 => absurd h9 (by decide)) (fun _ => ?_)
      have hok := hz.s (by omega)
      have hpl := hok.2.1
      have hpl1 := hok.1
      have hn1 := hok.2.2.1
      have hn2 := hok.2.2.2.1
      have hec := hok.2.2.2.2
      refine S_aload_n X dX12_odds_18 rfl rfl ?_
      refine S_iconst X dX12_odds_19 ?_
      refine S_iload_n X dX12_odds_20 rfl rfl ?_
      refine S_iload_n X dX12_odds_21 rfl rfl ?_
      refine S_calli X ((od_all l k9.toNat) h0 f pl n ec mk hQ hB hE hA hM hW Q B E Ab Mt Wt mt hwb Wb 0 k9 pp hf0 hf1 hf2 hf3 hf4 hf5 hf6 hf7 hf8 hf9 hf10 hf11 hok hod (by omega) (by omega)) (is := [0, 1, 2, 3, 4, 5, 6, 7]) rfl (run_V X lkX12_349 0 rfl rfl (is := [0, 1, 2, 3, 4, 5, 6, 7]) (avs := [iv 0, iv k9, iv pp]) (rest := []) rfl rfl (nle rfl) ⟨by simp only [rmD]; omega, by simp only [rmD]; omega⟩ ⟨nle rfl, nle rfl⟩ dX12_odds_22 (by decide) rfl) (fun z_25 u_23 hp_24 => ?_)
      obtain ⟨A2_26, M2_27, W2_28, Wb2_29, hz_30, hu_31, hWb_32⟩ := hp_24
      subst hz_30
      subst hu_31
      refine ⟨rfl, ?_⟩
      refine S_w (ws' := [(h0, ob 11 f), (hQ, ar 30 Q), (hB, ar 6 B), (hE, ar 6 E), (hA, ar 1206 A2_26), (hM, ar 180 M2_27), (hW, ar 180 W2_28), (hwb, ar 42 Wb2_29)]) rfl ?_
      refine S_goto (tgt := 29) X dX12_odds_25 (by decide) ?_
      exact S_iret X (nle rfl) (nle rfl) dX12_odds_29 (hPo _ _ (⟨_, _, _, _, by unfold aOddsR; rw [if_pos (by omega)], rfl⟩))
set_option maxHeartbeats 4000000 in
set_option maxRecDepth 100000 in
theorem kX12_marksFrom (l : Launch) (h0 : Nat) (f : Nat → AV) (pl : Int) (n : Int) (ec : Int) (hE : Nat) (hA : Nat) (Q : Int → Int) (B : Int → Int) (E : Int → Int) (Ab : Int → Int) (lim : Int) (hff : Nat) (hbf : Nat) (hsu : Nat) (Ff : Int → Int) (Bf : Int → Int) (Su : Int → Int) (fr : Int) (hf0 : f 21 = iv pl) (hf1 : f 28 = iv n) (hf2 : f 24 = rv hE) (hf3 : f 33 = rv hA) (hf4 : f 30 = iv lim) (hf5 : f 40 = rv hff) (hf6 : f 41 = rv hbf) (hf7 : f 42 = rv hsu) (hok : okS pl n ec (c5 Q 3) (c5 Q 4) B E) (hr : reg Ab (bF ec (c5 Q 3) (c5 Q 4) B) pl n 0) (hfr : 0 ≤ fr ∧ fr < n) (hlim : 0 ≤ lim ∧ lim ≤ 999) (hFr : ∀ j, fr < j → j < n → -1 ≤ Ff j ∧ Ff j ≤ n - 1 - j) (hBr : ∀ j, inR (Bf j)) : AMv l yX12_marksFrom cX12_marksFrom 7 1 0 0 [rv h0, iv fr] [(h0, ob 11 f), (hA, ar 1206 Ab), (hE, ar 6 E), (hff, ar 31 Ff), (hbf, ar 31 Bf), (hsu, ar 6 Su)] (fun u => ∃ F2 : Int → Int, ∃ B2 : Int → Int, ∃ S2 : Int → Int, u = [(h0, ob 11 f), (hA, ar 1206 Ab), (hE, ar 6 E), (hff, ar 31 F2), (hbf, ar 31 B2), (hsu, ar 6 S2)] ∧ (∀ j, fr ≤ j → j < n → -1 ≤ F2 j ∧ F2 j ≤ n - 1 - j) ∧ (∀ j, inR (B2 j))) := by
  refine AMv.of2 rfl (nle rfl) ?_
  intro D G A p e s m args below meth c Po hPo hnm X
  have hpl := hok.2.1
  have hpl1 := hok.1
  have hn1 := hok.2.2.1
  have hn2 := hok.2.2.2.1
  have hec := hok.2.2.2.2
  refine S_aload_n X dX12_marksFrom_0 rfl rfl ?_
  refine S_get X fgX12_80_11 0 rfl hf5 dX12_marksFrom_1 ?_
  refine S_iload_n X dX12_marksFrom_4 rfl rfl ?_
  refine S_iconst X dX12_marksFrom_5 ?_
  refine S_iast X 3 rfl (by omega) (by omega) (nle rfl) dX12_marksFrom_6 ?_
  refine S_w (ws' := [(h0, ob 11 f), (hA, ar 1206 Ab), (hE, ar 6 E), (hff, ar 31 (uZ Ff fr (-1))), (hbf, ar 31 Bf), (hsu, ar 6 Su)]) rfl ?_
  refine S_iconst X dX12_marksFrom_7 ?_
  refine S_istore_n X dX12_marksFrom_8 rfl (nle rfl) ?_
  have lp9_0 : ∀ (N : Nat) (i : Int) (Sv : Int → Int) (L : Nat → Option AV), 0 ≤ i ∧ i ≤ pl → (∀ x, 0 ≤ x → x < i → Sv x = 0) → L 0 = some (rv h0) → L 1 = some (iv fr) → L 2 = some (iv i) → pl + 1 - i < (N : Int) → S_ p l e (rmD 1 0 0) s m args below meth c (MQ below (QcV D G A Po) args s 0 0 A) D G A 7 0 0 9 L [] [(h0, ob 11 f), (hA, ar 1206 Ab), (hE, ar 6 E), (hff, ar 31 (uZ Ff fr (-1))), (hbf, ar 31 Bf), (hsu, ar 6 Sv)] := by
    intro N
    induction N with
    | zero =>
      intro i Sv L9 hi hz hL9_0 hL9_1 hL9_2 hN9
      exfalso; omega
    | succ N ih9 =>
      intro i Sv L9 hi hz hL9_0 hL9_1 hL9_2 hN9
      refine S_iload_n X dX12_marksFrom_9 rfl hL9_2 ?_
      refine S_aload_n X dX12_marksFrom_10 rfl hL9_0 ?_
      refine S_get X fgX12_253_11 0 rfl hf0 dX12_marksFrom_11 ?_
      refine S_icmp_ge (tgt := 30) X dX12_marksFrom_14 (by decide) (by omega) (by omega) (fun c_1 => ?_) (fun c_1 => ?_)
      ·
        refine S_iload_n X dX12_marksFrom_30 rfl hL9_1 ?_
        refine S_istore_n X dX12_marksFrom_31 rfl (nle rfl) ?_
        have lp32_3 : ∀ (N : Nat) (b : Int) (Fv : Int → Int) (Bv : Int → Int) (Sw : Int → Int) (L : Nat → Option AV), fr ≤ b ∧ b ≤ n → (∀ j, fr ≤ j → j < n → -1 ≤ Fv j ∧ Fv j ≤ n - 1 - j) → (∀ j, inR (Bv j)) → (∀ x, 0 ≤ x → x < pl → 0 ≤ Sw x ∧ Sw x ≤ 249 * (b - fr)) → L 0 = some (rv h0) → L 1 = some (iv fr) → L 2 = some (iv b) → n + 1 - b < (N : Int) → S_ p l e (rmD 1 0 0) s m args below meth c (MQ below (QcV D G A Po) args s 0 0 A) D G A 7 0 0 32 L [] [(h0, ob 11 f), (hA, ar 1206 Ab), (hE, ar 6 E), (hff, ar 31 Fv), (hbf, ar 31 Bv), (hsu, ar 6 Sw)] := by
          intro N
          induction N with
          | zero =>
            intro b Fv Bv Sw L32 hb hFv hBv hSw hL32_0 hL32_1 hL32_2 hN32
            exfalso; omega
          | succ N ih32 =>
            intro b Fv Bv Sw L32 hb hFv hBv hSw hL32_0 hL32_1 hL32_2 hN32
            refine S_iload_n X dX12_marksFrom_32 rfl hL32_2 ?_
            refine S_aload_n X dX12_marksFrom_33 rfl hL32_0 ?_
            refine S_get X fgX12_56_11 0 rfl hf1 dX12_marksFrom_34 ?_
            refine S_icmp_ge (tgt := 287) X dX12_marksFrom_37 (by decide) (by omega) (by omega) (fun c_2 => ?_) (fun c_2 => ?_)
            ·
              exact S_vret X (nle rfl) (nle rfl) dX12_marksFrom_287 (hPo _ (⟨_, _, _, rfl, hFv, hBv⟩))
            ·
              refine S_iconst X dX12_marksFrom_40 ?_
              refine S_istore_n X dX12_marksFrom_41 rfl (nle rfl) ?_
              refine S_iconst X dX12_marksFrom_42 ?_
              refine S_istore X dX12_marksFrom_43 (nle rfl) ?_
              refine S_iconst X dX12_marksFrom_45 ?_
              refine S_istore X dX12_marksFrom_46 (nle rfl) ?_
              have lp48_6 : ∀ (N : Nat) (i : Int) (lo : Int) (hi9 : Int) (Sx : Int → Int) (L : Nat → Option AV), 0 ≤ i ∧ i ≤ pl → 0 ≤ lo ∧ lo ≤ 7470 → 0 ≤ hi9 ∧ hi9 ≤ 7470 → (∀ x, 0 ≤ x → x < i → 0 ≤ Sx x ∧ Sx x ≤ 249 * (b - fr + 1)) → (∀ x, i ≤ x → x < pl → 0 ≤ Sx x ∧ Sx x ≤ 249 * (b - fr)) → L 0 = some (rv h0) → L 1 = some (iv fr) → L 2 = some (iv b) → L 3 = some (iv lo) → L 4 = some (iv hi9) → L 5 = some (iv i) → pl + 1 - i < (N : Int) → S_ p l e (rmD 1 0 0) s m args below meth c (MQ below (QcV D G A Po) args s 0 0 A) D G A 7 0 0 48 L [] [(h0, ob 11 f), (hA, ar 1206 Ab), (hE, ar 6 E), (hff, ar 31 Fv), (hbf, ar 31 Bv), (hsu, ar 6 Sx)] := by
                intro N
                induction N with
                | zero =>
                  intro i lo hi9 Sx L48 hi hlo hhi hS1 hS2 hL48_0 hL48_1 hL48_2 hL48_3 hL48_4 hL48_5 hN48
                  exfalso; omega
                | succ N ih48 =>
                  intro i lo hi9 Sx L48 hi hlo hhi hS1 hS2 hL48_0 hL48_1 hL48_2 hL48_3 hL48_4 hL48_5 hN48
                  refine S_iload X dX12_marksFrom_48 hL48_5 ?_
                  refine S_aload_n X dX12_marksFrom_50 rfl hL48_0 ?_
                  refine S_get X fgX12_253_11 0 rfl hf0 dX12_marksFrom_51 ?_
                  refine S_icmp_ge (tgt := 134) X dX12_marksFrom_54 (by decide) (by omega) (by omega) (fun c_3 => ?_) (fun c_3 => ?_)
                  ·
                    refine S_iload X dX12_marksFrom_134 hL48_4 ?_
                    refine S_iload_n X dX12_marksFrom_136 rfl hL48_3 ?_
                    refine S_isub X dX12_marksFrom_137 ?_
                    refine S_aload_n X dX12_marksFrom_138 rfl hL48_0 ?_
                    refine S_get X fgX12_59_11 0 rfl hf4 dX12_marksFrom_139 ?_
                    refine S_icmp_le (tgt := 146) X dX12_marksFrom_142 (by decide) (by omega) (by omega) (fun c_4 => ?_) (fun c_4 => ?_)
                    ·
                      refine S_iload_n X dX12_marksFrom_146 rfl hL48_2 ?_
                      refine S_aload_n X dX12_marksFrom_147 rfl hL48_0 ?_
                      refine S_get X fgX12_56_11 0 rfl hf1 dX12_marksFrom_148 ?_
                      refine S_iconst X dX12_marksFrom_151 ?_
                      refine S_isub X dX12_marksFrom_152 ?_
                      refine S_icmp_ne (tgt := 160) X dX12_marksFrom_153 (by decide) (by omega) (by omega) (fun c_5 => ?_) (fun c_5 => ?_)
                      ·
                        have hf9 := hFv (b + 1) (by omega) (by omega)
                        refine S_aload_n X dX12_marksFrom_160 rfl hL48_0 ?_
                        refine S_get X fgX12_80_11 0 rfl hf5 dX12_marksFrom_161 ?_
                        refine S_iload_n X dX12_marksFrom_164 rfl hL48_2 ?_
                        refine S_iconst X dX12_marksFrom_165 ?_
                        refine S_iadd X dX12_marksFrom_166 ?_
                        refine S_iald X 3 rfl (by omega) (by omega) (nle rfl) dX12_marksFrom_167 ?_
                        refine S_iconst X dX12_marksFrom_168 ?_
                        refine S_icmp_ne (tgt := 176) X dX12_marksFrom_169 (by decide) (by omega) (by decide) (fun c_6 => ?_) (fun c_6 => ?_)
                        ·
                          refine S_aload_n X dX12_marksFrom_176 rfl hL48_0 ?_
                          refine S_get X fgX12_80_11 0 rfl hf5 dX12_marksFrom_177 ?_
                          refine S_iload_n X dX12_marksFrom_180 rfl hL48_2 ?_
                          refine S_iconst X dX12_marksFrom_181 ?_
                          refine S_iadd X dX12_marksFrom_182 ?_
                          refine S_iald X 3 rfl (by omega) (by omega) (nle rfl) dX12_marksFrom_183 ?_
                          refine S_iconst X dX12_marksFrom_184 ?_
                          refine S_iadd X dX12_marksFrom_185 ?_
                          refine S_istore X dX12_marksFrom_186 (nle rfl) ?_
                          refine S_iload_n X dX12_marksFrom_188 rfl hL48_2 ?_
                          refine S_aload_n X dX12_marksFrom_189 rfl hL48_0 ?_
                          refine S_get X fgX12_56_11 0 rfl hf1 dX12_marksFrom_190 ?_
                          refine S_iconst X dX12_marksFrom_193 ?_
                          refine S_isub X dX12_marksFrom_194 ?_
                          refine S_icmp_ne (tgt := 202) X dX12_marksFrom_195 (by decide) (by omega) (by omega) (fun c_7 => ?_) (fun c_7 => ?_)
                          ·
                            have hb9 := hBv (b + 1)
                            refine S_aload_n X dX12_marksFrom_202 rfl hL48_0 ?_
                            refine S_get X fgX12_83_11 0 rfl hf6 dX12_marksFrom_203 ?_
                            refine S_iload_n X dX12_marksFrom_206 rfl hL48_2 ?_
                            refine S_iconst X dX12_marksFrom_207 ?_
                            refine S_iadd X dX12_marksFrom_208 ?_
                            refine S_iald X 4 rfl (by omega) (by omega) (nle rfl) dX12_marksFrom_209 ?_
                            refine S_iconst X dX12_marksFrom_210 ?_
                            refine S_iload_n X dX12_marksFrom_211 rfl hL48_2 ?_
                            refine S_ishl X dX12_marksFrom_212 ?_
                            refine S_ior X dX12_marksFrom_213 ?_
                            refine S_istore X dX12_marksFrom_214 (nle rfl) ?_
                            refine S_iload X dX12_marksFrom_216 rfl ?_
                            refine S_iconst X dX12_marksFrom_218 ?_
                            refine S_icmp_eq (tgt := 281) X dX12_marksFrom_219 (by decide) (by omega) (by decide) (fun c_8 => ?_) (fun c_8 => ?_)
                            ·
                              refine S_iinc X dX12_marksFrom_281 (nle rfl) hL48_2 ?_
                              refine S_goto (tgt := 32) X dX12_marksFrom_284 (by decide) ?_
                              exact ih32 (b + 1) Fv Bv Sx _ (by omega) (hFv) (hBv) (fun x h0 h1 => by have := hS1 x h0 (by omega); omega) hL48_0 hL48_1 rfl (by omega)
                            ·
                              have hf8 := hFv fr (by omega) (by omega)
                              have hb8 := hBv fr
                              refine S_aload_n X dX12_marksFrom_222 rfl hL48_0 ?_
                              refine S_get X fgX12_80_11 0 rfl hf5 dX12_marksFrom_223 ?_
                              refine S_iload_n X dX12_marksFrom_226 rfl hL48_1 ?_
                              refine S_iald X 3 rfl (by omega) (by omega) (nle rfl) dX12_marksFrom_227 ?_
                              refine S_iconst X dX12_marksFrom_228 ?_
                              refine S_icmp_eq (tgt := 265) X dX12_marksFrom_229 (by decide) (by omega) (by decide) (fun c_9 => ?_) (fun c_9 => ?_)
                              ·
                                refine S_aload_n X dX12_marksFrom_265 rfl hL48_0 ?_
                                refine S_get X fgX12_80_11 0 rfl hf5 dX12_marksFrom_266 ?_
                                refine S_iload_n X dX12_marksFrom_269 rfl hL48_1 ?_
                                refine S_iload X dX12_marksFrom_270 rfl ?_
                                refine S_iast X 3 rfl (by omega) (by omega) (nle rfl) dX12_marksFrom_272 ?_
                                refine S_w (ws' := [(h0, ob 11 f), (hA, ar 1206 Ab), (hE, ar 6 E), (hff, ar 31 (uZ Fv fr ((Fv (b + 1)) + 1))), (hbf, ar 31 Bv), (hsu, ar 6 Sx)]) rfl ?_
                                refine S_aload_n X dX12_marksFrom_273 rfl hL48_0 ?_
                                refine S_get X fgX12_83_11 0 rfl hf6 dX12_marksFrom_274 ?_
                                refine S_iload_n X dX12_marksFrom_277 rfl hL48_1 ?_
                                refine S_iload X dX12_marksFrom_278 rfl ?_
                                refine S_iast X 4 rfl (by omega) (by omega) (nle rfl) dX12_marksFrom_280 ?_
                                refine S_w (ws' := [(h0, ob 11 f), (hA, ar 1206 Ab), (hE, ar 6 E), (hff, ar 31 (uZ Fv fr ((Fv (b + 1)) + 1))), (hbf, ar 31 (uZ Bv fr (zOr (Bv (b + 1)) (zShl 1 b)))), (hsu, ar 6 Sx)]) rfl ?_
                                refine S_iinc X dX12_marksFrom_281 (nle rfl) hL48_2 ?_
                                refine S_goto (tgt := 32) X dX12_marksFrom_284 (by decide) ?_
                                exact ih32 (b + 1) (uZ Fv fr ((Fv (b + 1)) + 1)) (uZ Bv fr (zOr (Bv (b + 1)) (zShl 1 b))) Sx _ (by omega) (fun j j0 j1 => (by omega : j = fr ∨ fr < j).elim (fun q9 => by rw [q9, uZ_at]; omega) (fun q9 => by rw [uZ_ne (by omega)]; exact hFv j j0 j1)) (uZ_all hBv (zOr_r _ _)) (fun x h0 h1 => by have := hS1 x h0 (by omega); omega) hL48_0 hL48_1 rfl (by omega)
                              ·
                                refine S_iload X dX12_marksFrom_232 rfl ?_
                                refine S_aload_n X dX12_marksFrom_234 rfl hL48_0 ?_
                                refine S_get X fgX12_80_11 0 rfl hf5 dX12_marksFrom_235 ?_
                                refine S_iload_n X dX12_marksFrom_238 rfl hL48_1 ?_
                                refine S_iald X 3 rfl (by omega) (by omega) (nle rfl) dX12_marksFrom_239 ?_
                                refine S_icmp_lt (tgt := 265) X dX12_marksFrom_240 (by decide) (by omega) (by omega) (fun c_10 => ?_) (fun c_10 => ?_)
                                ·
                                  refine S_aload_n X dX12_marksFrom_265 rfl hL48_0 ?_
                                  refine S_get X fgX12_80_11 0 rfl hf5 dX12_marksFrom_266 ?_
                                  refine S_iload_n X dX12_marksFrom_269 rfl hL48_1 ?_
                                  refine S_iload X dX12_marksFrom_270 rfl ?_
                                  refine S_iast X 3 rfl (by omega) (by omega) (nle rfl) dX12_marksFrom_272 ?_
                                  refine S_w (ws' := [(h0, ob 11 f), (hA, ar 1206 Ab), (hE, ar 6 E), (hff, ar 31 (uZ Fv fr ((Fv (b + 1)) + 1))), (hbf, ar 31 Bv), (hsu, ar 6 Sx)]) rfl ?_
                                  refine S_aload_n X dX12_marksFrom_273 rfl hL48_0 ?_
                                  refine S_get X fgX12_83_11 0 rfl hf6 dX12_marksFrom_274 ?_
                                  refine S_iload_n X dX12_marksFrom_277 rfl hL48_1 ?_
                                  refine S_iload X dX12_marksFrom_278 rfl ?_
                                  refine S_iast X 4 rfl (by omega) (by omega) (nle rfl) dX12_marksFrom_280 ?_
                                  refine S_w (ws' := [(h0, ob 11 f), (hA, ar 1206 Ab), (hE, ar 6 E), (hff, ar 31 (uZ Fv fr ((Fv (b + 1)) + 1))), (hbf, ar 31 (uZ Bv fr (zOr (Bv (b + 1)) (zShl 1 b)))), (hsu, ar 6 Sx)]) rfl ?_
                                  refine S_iinc X dX12_marksFrom_281 (nle rfl) hL48_2 ?_
                                  refine S_goto (tgt := 32) X dX12_marksFrom_284 (by decide) ?_
                                  exact ih32 (b + 1) (uZ Fv fr ((Fv (b + 1)) + 1)) (uZ Bv fr (zOr (Bv (b + 1)) (zShl 1 b))) Sx _ (by omega) (fun j j0 j1 => (by omega : j = fr ∨ fr < j).elim (fun q9 => by rw [q9, uZ_at]; omega) (fun q9 => by rw [uZ_ne (by omega)]; exact hFv j j0 j1)) (uZ_all hBv (zOr_r _ _)) (fun x h0 h1 => by have := hS1 x h0 (by omega); omega) hL48_0 hL48_1 rfl (by omega)
                                ·
                                  refine S_iload X dX12_marksFrom_243 rfl ?_
                                  refine S_aload_n X dX12_marksFrom_245 rfl hL48_0 ?_
                                  refine S_get X fgX12_80_11 0 rfl hf5 dX12_marksFrom_246 ?_
                                  refine S_iload_n X dX12_marksFrom_249 rfl hL48_1 ?_
                                  refine S_iald X 3 rfl (by omega) (by omega) (nle rfl) dX12_marksFrom_250 ?_
                                  refine S_icmp_ne (tgt := 281) X dX12_marksFrom_251 (by decide) (by omega) (by omega) (fun c_11 => ?_) (fun c_11 => ?_)
                                  ·
                                    refine S_iinc X dX12_marksFrom_281 (nle rfl) hL48_2 ?_
                                    refine S_goto (tgt := 32) X dX12_marksFrom_284 (by decide) ?_
                                    exact ih32 (b + 1) Fv Bv Sx _ (by omega) (hFv) (hBv) (fun x h0 h1 => by have := hS1 x h0 (by omega); omega) hL48_0 hL48_1 rfl (by omega)
                                  ·
                                    refine S_iload X dX12_marksFrom_254 rfl ?_
                                    refine S_aload_n X dX12_marksFrom_256 rfl hL48_0 ?_
                                    refine S_get X fgX12_83_11 0 rfl hf6 dX12_marksFrom_257 ?_
                                    refine S_iload_n X dX12_marksFrom_260 rfl hL48_1 ?_
                                    refine S_iald X 4 rfl (by omega) (by omega) (nle rfl) dX12_marksFrom_261 ?_
                                    have hzr := zOr_r (Bv (b + 1)) (zShl 1 b)
                                    refine S_icmp_ge (tgt := 281) X dX12_marksFrom_262 (by decide) (by omega) (by omega) (fun c_12 => ?_) (fun c_12 => ?_)
                                    ·
                                      refine S_iinc X dX12_marksFrom_281 (nle rfl) hL48_2 ?_
                                      refine S_goto (tgt := 32) X dX12_marksFrom_284 (by decide) ?_
                                      exact ih32 (b + 1) Fv Bv Sx _ (by omega) (hFv) (hBv) (fun x h0 h1 => by have := hS1 x h0 (by omega); omega) hL48_0 hL48_1 rfl (by omega)
                                    ·
                                      refine S_aload_n X dX12_marksFrom_265 rfl hL48_0 ?_
                                      refine S_get X fgX12_80_11 0 rfl hf5 dX12_marksFrom_266 ?_
                                      refine S_iload_n X dX12_marksFrom_269 rfl hL48_1 ?_
                                      refine S_iload X dX12_marksFrom_270 rfl ?_
                                      refine S_iast X 3 rfl (by omega) (by omega) (nle rfl) dX12_marksFrom_272 ?_
                                      refine S_w (ws' := [(h0, ob 11 f), (hA, ar 1206 Ab), (hE, ar 6 E), (hff, ar 31 (uZ Fv fr ((Fv (b + 1)) + 1))), (hbf, ar 31 Bv), (hsu, ar 6 Sx)]) rfl ?_
                                      refine S_aload_n X dX12_marksFrom_273 rfl hL48_0 ?_
                                      refine S_get X fgX12_83_11 0 rfl hf6 dX12_marksFrom_274 ?_
                                      refine S_iload_n X dX12_marksFrom_277 rfl hL48_1 ?_
                                      refine S_iload X dX12_marksFrom_278 rfl ?_
                                      refine S_iast X 4 rfl (by omega) (by omega) (nle rfl) dX12_marksFrom_280 ?_
                                      refine S_w (ws' := [(h0, ob 11 f), (hA, ar 1206 Ab), (hE, ar 6 E), (hff, ar 31 (uZ Fv fr ((Fv (b + 1)) + 1))), (hbf, ar 31 (uZ Bv fr (zOr (Bv (b + 1)) (zShl 1 b)))), (hsu, ar 6 Sx)]) rfl ?_
                                      refine S_iinc X dX12_marksFrom_281 (nle rfl) hL48_2 ?_
                                      refine S_goto (tgt := 32) X dX12_marksFrom_284 (by decide) ?_
                                      exact ih32 (b + 1) (uZ Fv fr ((Fv (b + 1)) + 1)) (uZ Bv fr (zOr (Bv (b + 1)) (zShl 1 b))) Sx _ (by omega) (fun j j0 j1 => (by omega : j = fr ∨ fr < j).elim (fun q9 => by rw [q9, uZ_at]; omega) (fun q9 => by rw [uZ_ne (by omega)]; exact hFv j j0 j1)) (uZ_all hBv (zOr_r _ _)) (fun x h0 h1 => by have := hS1 x h0 (by omega); omega) hL48_0 hL48_1 rfl (by omega)
                          ·
                            refine S_iconst X dX12_marksFrom_198 ?_
                            refine S_goto (tgt := 214) X dX12_marksFrom_199 (by decide) ?_
                            refine S_istore X dX12_marksFrom_214 (nle rfl) ?_
                            refine S_iload X dX12_marksFrom_216 rfl ?_
                            refine S_iconst X dX12_marksFrom_218 ?_
                            refine S_icmp_eq (tgt := 281) X dX12_marksFrom_219 (by decide) (by omega) (by decide) (fun c_13 => ?_) (fun c_13 => ?_)
                            ·
                              refine S_iinc X dX12_marksFrom_281 (nle rfl) hL48_2 ?_
                              refine S_goto (tgt := 32) X dX12_marksFrom_284 (by decide) ?_
                              exact ih32 (b + 1) Fv Bv Sx _ (by omega) (hFv) (hBv) (fun x h0 h1 => by have := hS1 x h0 (by omega); omega) hL48_0 hL48_1 rfl (by omega)
                            ·
                              have hf8 := hFv fr (by omega) (by omega)
                              have hb8 := hBv fr
                              refine S_aload_n X dX12_marksFrom_222 rfl hL48_0 ?_
                              refine S_get X fgX12_80_11 0 rfl hf5 dX12_marksFrom_223 ?_
                              refine S_iload_n X dX12_marksFrom_226 rfl hL48_1 ?_
                              refine S_iald X 3 rfl (by omega) (by omega) (nle rfl) dX12_marksFrom_227 ?_
                              refine S_iconst X dX12_marksFrom_228 ?_
                              refine S_icmp_eq (tgt := 265) X dX12_marksFrom_229 (by decide) (by omega) (by decide) (fun c_14 => ?_) (fun c_14 => ?_)
                              ·
                                refine S_aload_n X dX12_marksFrom_265 rfl hL48_0 ?_
                                refine S_get X fgX12_80_11 0 rfl hf5 dX12_marksFrom_266 ?_
                                refine S_iload_n X dX12_marksFrom_269 rfl hL48_1 ?_
                                refine S_iload X dX12_marksFrom_270 rfl ?_
                                refine S_iast X 3 rfl (by omega) (by omega) (nle rfl) dX12_marksFrom_272 ?_
                                refine S_w (ws' := [(h0, ob 11 f), (hA, ar 1206 Ab), (hE, ar 6 E), (hff, ar 31 (uZ Fv fr ((Fv (b + 1)) + 1))), (hbf, ar 31 Bv), (hsu, ar 6 Sx)]) rfl ?_
                                refine S_aload_n X dX12_marksFrom_273 rfl hL48_0 ?_
                                refine S_get X fgX12_83_11 0 rfl hf6 dX12_marksFrom_274 ?_
                                refine S_iload_n X dX12_marksFrom_277 rfl hL48_1 ?_
                                refine S_iload X dX12_marksFrom_278 rfl ?_
                                refine S_iast X 4 rfl (by omega) (by omega) (nle rfl) dX12_marksFrom_280 ?_
                                refine S_w (ws' := [(h0, ob 11 f), (hA, ar 1206 Ab), (hE, ar 6 E), (hff, ar 31 (uZ Fv fr ((Fv (b + 1)) + 1))), (hbf, ar 31 (uZ Bv fr 0)), (hsu, ar 6 Sx)]) rfl ?_
                                refine S_iinc X dX12_marksFrom_281 (nle rfl) hL48_2 ?_
                                refine S_goto (tgt := 32) X dX12_marksFrom_284 (by decide) ?_
                                exact ih32 (b + 1) (uZ Fv fr ((Fv (b + 1)) + 1)) (uZ Bv fr 0) Sx _ (by omega) (fun j j0 j1 => (by omega : j = fr ∨ fr < j).elim (fun q9 => by rw [q9, uZ_at]; omega) (fun q9 => by rw [uZ_ne (by omega)]; exact hFv j j0 j1)) (uZ_all hBv (by decide)) (fun x h0 h1 => by have := hS1 x h0 (by omega); omega) hL48_0 hL48_1 rfl (by omega)
                              ·
                                refine S_iload X dX12_marksFrom_232 rfl ?_
                                refine S_aload_n X dX12_marksFrom_234 rfl hL48_0 ?_
                                refine S_get X fgX12_80_11 0 rfl hf5 dX12_marksFrom_235 ?_
                                refine S_iload_n X dX12_marksFrom_238 rfl hL48_1 ?_
                                refine S_iald X 3 rfl (by omega) (by omega) (nle rfl) dX12_marksFrom_239 ?_
                                refine S_icmp_lt (tgt := 265) X dX12_marksFrom_240 (by decide) (by omega) (by omega) (fun c_15 => ?_) (fun c_15 => ?_)
                                ·
                                  refine S_aload_n X dX12_marksFrom_265 rfl hL48_0 ?_
                                  refine S_get X fgX12_80_11 0 rfl hf5 dX12_marksFrom_266 ?_
                                  refine S_iload_n X dX12_marksFrom_269 rfl hL48_1 ?_
                                  refine S_iload X dX12_marksFrom_270 rfl ?_
                                  refine S_iast X 3 rfl (by omega) (by omega) (nle rfl) dX12_marksFrom_272 ?_
                                  refine S_w (ws' := [(h0, ob 11 f), (hA, ar 1206 Ab), (hE, ar 6 E), (hff, ar 31 (uZ Fv fr ((Fv (b + 1)) + 1))), (hbf, ar 31 Bv), (hsu, ar 6 Sx)]) rfl ?_
                                  refine S_aload_n X dX12_marksFrom_273 rfl hL48_0 ?_
                                  refine S_get X fgX12_83_11 0 rfl hf6 dX12_marksFrom_274 ?_
                                  refine S_iload_n X dX12_marksFrom_277 rfl hL48_1 ?_
                                  refine S_iload X dX12_marksFrom_278 rfl ?_
                                  refine S_iast X 4 rfl (by omega) (by omega) (nle rfl) dX12_marksFrom_280 ?_
                                  refine S_w (ws' := [(h0, ob 11 f), (hA, ar 1206 Ab), (hE, ar 6 E), (hff, ar 31 (uZ Fv fr ((Fv (b + 1)) + 1))), (hbf, ar 31 (uZ Bv fr 0)), (hsu, ar 6 Sx)]) rfl ?_
                                  refine S_iinc X dX12_marksFrom_281 (nle rfl) hL48_2 ?_
                                  refine S_goto (tgt := 32) X dX12_marksFrom_284 (by decide) ?_
                                  exact ih32 (b + 1) (uZ Fv fr ((Fv (b + 1)) + 1)) (uZ Bv fr 0) Sx _ (by omega) (fun j j0 j1 => (by omega : j = fr ∨ fr < j).elim (fun q9 => by rw [q9, uZ_at]; omega) (fun q9 => by rw [uZ_ne (by omega)]; exact hFv j j0 j1)) (uZ_all hBv (by decide)) (fun x h0 h1 => by have := hS1 x h0 (by omega); omega) hL48_0 hL48_1 rfl (by omega)
                                ·
                                  refine S_iload X dX12_marksFrom_243 rfl ?_
                                  refine S_aload_n X dX12_marksFrom_245 rfl hL48_0 ?_
                                  refine S_get X fgX12_80_11 0 rfl hf5 dX12_marksFrom_246 ?_
                                  refine S_iload_n X dX12_marksFrom_249 rfl hL48_1 ?_
                                  refine S_iald X 3 rfl (by omega) (by omega) (nle rfl) dX12_marksFrom_250 ?_
                                  refine S_icmp_ne (tgt := 281) X dX12_marksFrom_251 (by decide) (by omega) (by omega) (fun c_16 => ?_) (fun c_16 => ?_)
                                  ·
                                    refine S_iinc X dX12_marksFrom_281 (nle rfl) hL48_2 ?_
                                    refine S_goto (tgt := 32) X dX12_marksFrom_284 (by decide) ?_
                                    exact ih32 (b + 1) Fv Bv Sx _ (by omega) (hFv) (hBv) (fun x h0 h1 => by have := hS1 x h0 (by omega); omega) hL48_0 hL48_1 rfl (by omega)
                                  ·
                                    refine S_iload X dX12_marksFrom_254 rfl ?_
                                    refine S_aload_n X dX12_marksFrom_256 rfl hL48_0 ?_
                                    refine S_get X fgX12_83_11 0 rfl hf6 dX12_marksFrom_257 ?_
                                    refine S_iload_n X dX12_marksFrom_260 rfl hL48_1 ?_
                                    refine S_iald X 4 rfl (by omega) (by omega) (nle rfl) dX12_marksFrom_261 ?_
                                    have hzr := zOr_r (Bv (b + 1)) (zShl 1 b)
                                    refine S_icmp_ge (tgt := 281) X dX12_marksFrom_262 (by decide) (by decide) (by omega) (fun c_17 => ?_) (fun c_17 => ?_)
                                    ·
                                      refine S_iinc X dX12_marksFrom_281 (nle rfl) hL48_2 ?_
                                      refine S_goto (tgt := 32) X dX12_marksFrom_284 (by decide) ?_
                                      exact ih32 (b + 1) Fv Bv Sx _ (by omega) (hFv) (hBv) (fun x h0 h1 => by have := hS1 x h0 (by omega); omega) hL48_0 hL48_1 rfl (by omega)
                                    ·
                                      refine S_aload_n X dX12_marksFrom_265 rfl hL48_0 ?_
                                      refine S_get X fgX12_80_11 0 rfl hf5 dX12_marksFrom_266 ?_
                                      refine S_iload_n X dX12_marksFrom_269 rfl hL48_1 ?_
                                      refine S_iload X dX12_marksFrom_270 rfl ?_
                                      refine S_iast X 3 rfl (by omega) (by omega) (nle rfl) dX12_marksFrom_272 ?_
                                      refine S_w (ws' := [(h0, ob 11 f), (hA, ar 1206 Ab), (hE, ar 6 E), (hff, ar 31 (uZ Fv fr ((Fv (b + 1)) + 1))), (hbf, ar 31 Bv), (hsu, ar 6 Sx)]) rfl ?_
                                      refine S_aload_n X dX12_marksFrom_273 rfl hL48_0 ?_
                                      refine S_get X fgX12_83_11 0 rfl hf6 dX12_marksFrom_274 ?_
                                      refine S_iload_n X dX12_marksFrom_277 rfl hL48_1 ?_
                                      refine S_iload X dX12_marksFrom_278 rfl ?_
                                      refine S_iast X 4 rfl (by omega) (by omega) (nle rfl) dX12_marksFrom_280 ?_
                                      refine S_w (ws' := [(h0, ob 11 f), (hA, ar 1206 Ab), (hE, ar 6 E), (hff, ar 31 (uZ Fv fr ((Fv (b + 1)) + 1))), (hbf, ar 31 (uZ Bv fr 0)), (hsu, ar 6 Sx)]) rfl ?_
                                      refine S_iinc X dX12_marksFrom_281 (nle rfl) hL48_2 ?_
                                      refine S_goto (tgt := 32) X dX12_marksFrom_284 (by decide) ?_
                                      exact ih32 (b + 1) (uZ Fv fr ((Fv (b + 1)) + 1)) (uZ Bv fr 0) Sx _ (by omega) (fun j j0 j1 => (by omega : j = fr ∨ fr < j).elim (fun q9 => by rw [q9, uZ_at]; omega) (fun q9 => by rw [uZ_ne (by omega)]; exact hFv j j0 j1)) (uZ_all hBv (by decide)) (fun x h0 h1 => by have := hS1 x h0 (by omega); omega) hL48_0 hL48_1 rfl (by omega)
                        ·
                          refine S_iconst X dX12_marksFrom_172 ?_
                          refine S_goto (tgt := 186) X dX12_marksFrom_173 (by decide) ?_
                          refine S_istore X dX12_marksFrom_186 (nle rfl) ?_
                          refine S_iload_n X dX12_marksFrom_188 rfl hL48_2 ?_
                          refine S_aload_n X dX12_marksFrom_189 rfl hL48_0 ?_
                          refine S_get X fgX12_56_11 0 rfl hf1 dX12_marksFrom_190 ?_
                          refine S_iconst X dX12_marksFrom_193 ?_
                          refine S_isub X dX12_marksFrom_194 ?_
                          refine S_icmp_ne (tgt := 202) X dX12_marksFrom_195 (by decide) (by omega) (by omega) (fun c_18 => ?_) (fun c_18 => ?_)
                          ·
                            have hb9 := hBv (b + 1)
                            refine S_aload_n X dX12_marksFrom_202 rfl hL48_0 ?_
                            refine S_get X fgX12_83_11 0 rfl hf6 dX12_marksFrom_203 ?_
                            refine S_iload_n X dX12_marksFrom_206 rfl hL48_2 ?_
                            refine S_iconst X dX12_marksFrom_207 ?_
                            refine S_iadd X dX12_marksFrom_208 ?_
                            refine S_iald X 4 rfl (by omega) (by omega) (nle rfl) dX12_marksFrom_209 ?_
                            refine S_iconst X dX12_marksFrom_210 ?_
                            refine S_iload_n X dX12_marksFrom_211 rfl hL48_2 ?_
                            refine S_ishl X dX12_marksFrom_212 ?_
                            refine S_ior X dX12_marksFrom_213 ?_
                            refine S_istore X dX12_marksFrom_214 (nle rfl) ?_
                            refine S_iload X dX12_marksFrom_216 rfl ?_
                            refine S_iconst X dX12_marksFrom_218 ?_
                            refine S_icmp_eq (tgt := 281) X dX12_marksFrom_219 (by decide) (by decide) (by decide) (fun _ => ?_) (fun h9 => absurd h9 (by decide))
                            refine S_iinc X dX12_marksFrom_281 (nle rfl) hL48_2 ?_
                            refine S_goto (tgt := 32) X dX12_marksFrom_284 (by decide) ?_
                            exact ih32 (b + 1) Fv Bv Sx _ (by omega) (hFv) (hBv) (fun x h0 h1 => by have := hS1 x h0 (by omega); omega) hL48_0 hL48_1 rfl (by omega)
                          ·
                            refine S_iconst X dX12_marksFrom_198 ?_
                            refine S_goto (tgt := 214) X dX12_marksFrom_199 (by decide) ?_
                            refine S_istore X dX12_marksFrom_214 (nle rfl) ?_
                            refine S_iload X dX12_marksFrom_216 rfl ?_
                            refine S_iconst X dX12_marksFrom_218 ?_
                            refine S_icmp_eq (tgt := 281) X dX12_marksFrom_219 (by decide) (by decide) (by decide) (fun _ => ?_) (fun h9 => absurd h9 (by decide))
                            refine S_iinc X dX12_marksFrom_281 (nle rfl) hL48_2 ?_
                            refine S_goto (tgt := 32) X dX12_marksFrom_284 (by decide) ?_
                            exact ih32 (b + 1) Fv Bv Sx _ (by omega) (hFv) (hBv) (fun x h0 h1 => by have := hS1 x h0 (by omega); omega) hL48_0 hL48_1 rfl (by omega)
                      ·
                        refine S_iconst X dX12_marksFrom_156 ?_
                        refine S_goto (tgt := 186) X dX12_marksFrom_157 (by decide) ?_
                        refine S_istore X dX12_marksFrom_186 (nle rfl) ?_
                        refine S_iload_n X dX12_marksFrom_188 rfl hL48_2 ?_
                        refine S_aload_n X dX12_marksFrom_189 rfl hL48_0 ?_
                        refine S_get X fgX12_56_11 0 rfl hf1 dX12_marksFrom_190 ?_
                        refine S_iconst X dX12_marksFrom_193 ?_
                        refine S_isub X dX12_marksFrom_194 ?_
                        refine S_icmp_ne (tgt := 202) X dX12_marksFrom_195 (by decide) (by omega) (by omega) (fun c_21 => ?_) (fun c_21 => ?_)
                        ·
                          have hb9 := hBv (b + 1)
                          refine S_aload_n X dX12_marksFrom_202 rfl hL48_0 ?_
                          refine S_get X fgX12_83_11 0 rfl hf6 dX12_marksFrom_203 ?_
                          refine S_iload_n X dX12_marksFrom_206 rfl hL48_2 ?_
                          refine S_iconst X dX12_marksFrom_207 ?_
                          refine S_iadd X dX12_marksFrom_208 ?_
                          refine S_iald X 4 rfl (by omega) (by omega) (nle rfl) dX12_marksFrom_209 ?_
                          refine S_iconst X dX12_marksFrom_210 ?_
                          refine S_iload_n X dX12_marksFrom_211 rfl hL48_2 ?_
                          refine S_ishl X dX12_marksFrom_212 ?_
                          refine S_ior X dX12_marksFrom_213 ?_
                          refine S_istore X dX12_marksFrom_214 (nle rfl) ?_
                          refine S_iload X dX12_marksFrom_216 rfl ?_
                          refine S_iconst X dX12_marksFrom_218 ?_
                          refine S_icmp_eq (tgt := 281) X dX12_marksFrom_219 (by decide) (by decide) (by decide) (fun h9 => absurd h9 (by decide)) (fun _ => ?_)
                          have hf8 := hFv fr (by omega) (by omega)
                          have hb8 := hBv fr
                          refine S_aload_n X dX12_marksFrom_222 rfl hL48_0 ?_
                          refine S_get X fgX12_80_11 0 rfl hf5 dX12_marksFrom_223 ?_
                          refine S_iload_n X dX12_marksFrom_226 rfl hL48_1 ?_
                          refine S_iald X 3 rfl (by omega) (by omega) (nle rfl) dX12_marksFrom_227 ?_
                          refine S_iconst X dX12_marksFrom_228 ?_
                          refine S_icmp_eq (tgt := 265) X dX12_marksFrom_229 (by decide) (by omega) (by decide) (fun c_23 => ?_) (fun c_23 => ?_)
                          ·
                            refine S_aload_n X dX12_marksFrom_265 rfl hL48_0 ?_
                            refine S_get X fgX12_80_11 0 rfl hf5 dX12_marksFrom_266 ?_
                            refine S_iload_n X dX12_marksFrom_269 rfl hL48_1 ?_
                            refine S_iload X dX12_marksFrom_270 rfl ?_
                            refine S_iast X 3 rfl (by omega) (by omega) (nle rfl) dX12_marksFrom_272 ?_
                            refine S_w (ws' := [(h0, ob 11 f), (hA, ar 1206 Ab), (hE, ar 6 E), (hff, ar 31 (uZ Fv fr 0)), (hbf, ar 31 Bv), (hsu, ar 6 Sx)]) rfl ?_
                            refine S_aload_n X dX12_marksFrom_273 rfl hL48_0 ?_
                            refine S_get X fgX12_83_11 0 rfl hf6 dX12_marksFrom_274 ?_
                            refine S_iload_n X dX12_marksFrom_277 rfl hL48_1 ?_
                            refine S_iload X dX12_marksFrom_278 rfl ?_
                            refine S_iast X 4 rfl (by omega) (by omega) (nle rfl) dX12_marksFrom_280 ?_
                            refine S_w (ws' := [(h0, ob 11 f), (hA, ar 1206 Ab), (hE, ar 6 E), (hff, ar 31 (uZ Fv fr 0)), (hbf, ar 31 (uZ Bv fr (zOr (Bv (b + 1)) (zShl 1 b)))), (hsu, ar 6 Sx)]) rfl ?_
                            refine S_iinc X dX12_marksFrom_281 (nle rfl) hL48_2 ?_
                            refine S_goto (tgt := 32) X dX12_marksFrom_284 (by decide) ?_
                            exact ih32 (b + 1) (uZ Fv fr 0) (uZ Bv fr (zOr (Bv (b + 1)) (zShl 1 b))) Sx _ (by omega) (fun j j0 j1 => (by omega : j = fr ∨ fr < j).elim (fun q9 => by rw [q9, uZ_at]; omega) (fun q9 => by rw [uZ_ne (by omega)]; exact hFv j j0 j1)) (uZ_all hBv (zOr_r _ _)) (fun x h0 h1 => by have := hS1 x h0 (by omega); omega) hL48_0 hL48_1 rfl (by omega)
                          ·
                            refine S_iload X dX12_marksFrom_232 rfl ?_
                            refine S_aload_n X dX12_marksFrom_234 rfl hL48_0 ?_
                            refine S_get X fgX12_80_11 0 rfl hf5 dX12_marksFrom_235 ?_
                            refine S_iload_n X dX12_marksFrom_238 rfl hL48_1 ?_
                            refine S_iald X 3 rfl (by omega) (by omega) (nle rfl) dX12_marksFrom_239 ?_
                            refine S_icmp_lt (tgt := 265) X dX12_marksFrom_240 (by decide) (by decide) (by omega) (fun c_24 => ?_) (fun c_24 => ?_)
                            ·
                              refine S_aload_n X dX12_marksFrom_265 rfl hL48_0 ?_
                              refine S_get X fgX12_80_11 0 rfl hf5 dX12_marksFrom_266 ?_
                              refine S_iload_n X dX12_marksFrom_269 rfl hL48_1 ?_
                              refine S_iload X dX12_marksFrom_270 rfl ?_
                              refine S_iast X 3 rfl (by omega) (by omega) (nle rfl) dX12_marksFrom_272 ?_
                              refine S_w (ws' := [(h0, ob 11 f), (hA, ar 1206 Ab), (hE, ar 6 E), (hff, ar 31 (uZ Fv fr 0)), (hbf, ar 31 Bv), (hsu, ar 6 Sx)]) rfl ?_
                              refine S_aload_n X dX12_marksFrom_273 rfl hL48_0 ?_
                              refine S_get X fgX12_83_11 0 rfl hf6 dX12_marksFrom_274 ?_
                              refine S_iload_n X dX12_marksFrom_277 rfl hL48_1 ?_
                              refine S_iload X dX12_marksFrom_278 rfl ?_
                              refine S_iast X 4 rfl (by omega) (by omega) (nle rfl) dX12_marksFrom_280 ?_
                              refine S_w (ws' := [(h0, ob 11 f), (hA, ar 1206 Ab), (hE, ar 6 E), (hff, ar 31 (uZ Fv fr 0)), (hbf, ar 31 (uZ Bv fr (zOr (Bv (b + 1)) (zShl 1 b)))), (hsu, ar 6 Sx)]) rfl ?_
                              refine S_iinc X dX12_marksFrom_281 (nle rfl) hL48_2 ?_
                              refine S_goto (tgt := 32) X dX12_marksFrom_284 (by decide) ?_
                              exact ih32 (b + 1) (uZ Fv fr 0) (uZ Bv fr (zOr (Bv (b + 1)) (zShl 1 b))) Sx _ (by omega) (fun j j0 j1 => (by omega : j = fr ∨ fr < j).elim (fun q9 => by rw [q9, uZ_at]; omega) (fun q9 => by rw [uZ_ne (by omega)]; exact hFv j j0 j1)) (uZ_all hBv (zOr_r _ _)) (fun x h0 h1 => by have := hS1 x h0 (by omega); omega) hL48_0 hL48_1 rfl (by omega)
                            ·
                              refine S_iload X dX12_marksFrom_243 rfl ?_
                              refine S_aload_n X dX12_marksFrom_245 rfl hL48_0 ?_
                              refine S_get X fgX12_80_11 0 rfl hf5 dX12_marksFrom_246 ?_
                              refine S_iload_n X dX12_marksFrom_249 rfl hL48_1 ?_
                              refine S_iald X 3 rfl (by omega) (by omega) (nle rfl) dX12_marksFrom_250 ?_
                              refine S_icmp_ne (tgt := 281) X dX12_marksFrom_251 (by decide) (by decide) (by omega) (fun c_25 => ?_) (fun c_25 => ?_)
                              ·
                                refine S_iinc X dX12_marksFrom_281 (nle rfl) hL48_2 ?_
                                refine S_goto (tgt := 32) X dX12_marksFrom_284 (by decide) ?_
                                exact ih32 (b + 1) Fv Bv Sx _ (by omega) (hFv) (hBv) (fun x h0 h1 => by have := hS1 x h0 (by omega); omega) hL48_0 hL48_1 rfl (by omega)
                              ·
                                refine S_iload X dX12_marksFrom_254 rfl ?_
                                refine S_aload_n X dX12_marksFrom_256 rfl hL48_0 ?_
                                refine S_get X fgX12_83_11 0 rfl hf6 dX12_marksFrom_257 ?_
                                refine S_iload_n X dX12_marksFrom_260 rfl hL48_1 ?_
                                refine S_iald X 4 rfl (by omega) (by omega) (nle rfl) dX12_marksFrom_261 ?_
                                have hzr := zOr_r (Bv (b + 1)) (zShl 1 b)
                                refine S_icmp_ge (tgt := 281) X dX12_marksFrom_262 (by decide) (by omega) (by omega) (fun c_26 => ?_) (fun c_26 => ?_)
                                ·
                                  refine S_iinc X dX12_marksFrom_281 (nle rfl) hL48_2 ?_
                                  refine S_goto (tgt := 32) X dX12_marksFrom_284 (by decide) ?_
                                  exact ih32 (b + 1) Fv Bv Sx _ (by omega) (hFv) (hBv) (fun x h0 h1 => by have := hS1 x h0 (by omega); omega) hL48_0 hL48_1 rfl (by omega)
                                ·
                                  refine S_aload_n X dX12_marksFrom_265 rfl hL48_0 ?_
                                  refine S_get X fgX12_80_11 0 rfl hf5 dX12_marksFrom_266 ?_
                                  refine S_iload_n X dX12_marksFrom_269 rfl hL48_1 ?_
                                  refine S_iload X dX12_marksFrom_270 rfl ?_
                                  refine S_iast X 3 rfl (by omega) (by omega) (nle rfl) dX12_marksFrom_272 ?_
                                  refine S_w (ws' := [(h0, ob 11 f), (hA, ar 1206 Ab), (hE, ar 6 E), (hff, ar 31 (uZ Fv fr 0)), (hbf, ar 31 Bv), (hsu, ar 6 Sx)]) rfl ?_
                                  refine S_aload_n X dX12_marksFrom_273 rfl hL48_0 ?_
                                  refine S_get X fgX12_83_11 0 rfl hf6 dX12_marksFrom_274 ?_
                                  refine S_iload_n X dX12_marksFrom_277 rfl hL48_1 ?_
                                  refine S_iload X dX12_marksFrom_278 rfl ?_
                                  refine S_iast X 4 rfl (by omega) (by omega) (nle rfl) dX12_marksFrom_280 ?_
                                  refine S_w (ws' := [(h0, ob 11 f), (hA, ar 1206 Ab), (hE, ar 6 E), (hff, ar 31 (uZ Fv fr 0)), (hbf, ar 31 (uZ Bv fr (zOr (Bv (b + 1)) (zShl 1 b)))), (hsu, ar 6 Sx)]) rfl ?_
                                  refine S_iinc X dX12_marksFrom_281 (nle rfl) hL48_2 ?_
                                  refine S_goto (tgt := 32) X dX12_marksFrom_284 (by decide) ?_
                                  exact ih32 (b + 1) (uZ Fv fr 0) (uZ Bv fr (zOr (Bv (b + 1)) (zShl 1 b))) Sx _ (by omega) (fun j j0 j1 => (by omega : j = fr ∨ fr < j).elim (fun q9 => by rw [q9, uZ_at]; omega) (fun q9 => by rw [uZ_ne (by omega)]; exact hFv j j0 j1)) (uZ_all hBv (zOr_r _ _)) (fun x h0 h1 => by have := hS1 x h0 (by omega); omega) hL48_0 hL48_1 rfl (by omega)
                        ·
                          refine S_iconst X dX12_marksFrom_198 ?_
                          refine S_goto (tgt := 214) X dX12_marksFrom_199 (by decide) ?_
                          refine S_istore X dX12_marksFrom_214 (nle rfl) ?_
                          refine S_iload X dX12_marksFrom_216 rfl ?_
                          refine S_iconst X dX12_marksFrom_218 ?_
                          refine S_icmp_eq (tgt := 281) X dX12_marksFrom_219 (by decide) (by decide) (by decide) (fun h9 => absurd h9 (by decide)) (fun _ => ?_)
                          have hf8 := hFv fr (by omega) (by omega)
                          have hb8 := hBv fr
                          refine S_aload_n X dX12_marksFrom_222 rfl hL48_0 ?_
                          refine S_get X fgX12_80_11 0 rfl hf5 dX12_marksFrom_223 ?_
                          refine S_iload_n X dX12_marksFrom_226 rfl hL48_1 ?_
                          refine S_iald X 3 rfl (by omega) (by omega) (nle rfl) dX12_marksFrom_227 ?_
                          refine S_iconst X dX12_marksFrom_228 ?_
                          refine S_icmp_eq (tgt := 265) X dX12_marksFrom_229 (by decide) (by omega) (by decide) (fun c_28 => ?_) (fun c_28 => ?_)
                          ·
                            refine S_aload_n X dX12_marksFrom_265 rfl hL48_0 ?_
                            refine S_get X fgX12_80_11 0 rfl hf5 dX12_marksFrom_266 ?_
                            refine S_iload_n X dX12_marksFrom_269 rfl hL48_1 ?_
                            refine S_iload X dX12_marksFrom_270 rfl ?_
                            refine S_iast X 3 rfl (by omega) (by omega) (nle rfl) dX12_marksFrom_272 ?_
                            refine S_w (ws' := [(h0, ob 11 f), (hA, ar 1206 Ab), (hE, ar 6 E), (hff, ar 31 (uZ Fv fr 0)), (hbf, ar 31 Bv), (hsu, ar 6 Sx)]) rfl ?_
                            refine S_aload_n X dX12_marksFrom_273 rfl hL48_0 ?_
                            refine S_get X fgX12_83_11 0 rfl hf6 dX12_marksFrom_274 ?_
                            refine S_iload_n X dX12_marksFrom_277 rfl hL48_1 ?_
                            refine S_iload X dX12_marksFrom_278 rfl ?_
                            refine S_iast X 4 rfl (by omega) (by omega) (nle rfl) dX12_marksFrom_280 ?_
                            refine S_w (ws' := [(h0, ob 11 f), (hA, ar 1206 Ab), (hE, ar 6 E), (hff, ar 31 (uZ Fv fr 0)), (hbf, ar 31 (uZ Bv fr 0)), (hsu, ar 6 Sx)]) rfl ?_
                            refine S_iinc X dX12_marksFrom_281 (nle rfl) hL48_2 ?_
                            refine S_goto (tgt := 32) X dX12_marksFrom_284 (by decide) ?_
                            exact ih32 (b + 1) (uZ Fv fr 0) (uZ Bv fr 0) Sx _ (by omega) (fun j j0 j1 => (by omega : j = fr ∨ fr < j).elim (fun q9 => by rw [q9, uZ_at]; omega) (fun q9 => by rw [uZ_ne (by omega)]; exact hFv j j0 j1)) (uZ_all hBv (by decide)) (fun x h0 h1 => by have := hS1 x h0 (by omega); omega) hL48_0 hL48_1 rfl (by omega)
                          ·
                            refine S_iload X dX12_marksFrom_232 rfl ?_
                            refine S_aload_n X dX12_marksFrom_234 rfl hL48_0 ?_
                            refine S_get X fgX12_80_11 0 rfl hf5 dX12_marksFrom_235 ?_
                            refine S_iload_n X dX12_marksFrom_238 rfl hL48_1 ?_
                            refine S_iald X 3 rfl (by omega) (by omega) (nle rfl) dX12_marksFrom_239 ?_
                            refine S_icmp_lt (tgt := 265) X dX12_marksFrom_240 (by decide) (by decide) (by omega) (fun c_29 => ?_) (fun c_29 => ?_)
                            ·
                              refine S_aload_n X dX12_marksFrom_265 rfl hL48_0 ?_
                              refine S_get X fgX12_80_11 0 rfl hf5 dX12_marksFrom_266 ?_
                              refine S_iload_n X dX12_marksFrom_269 rfl hL48_1 ?_
                              refine S_iload X dX12_marksFrom_270 rfl ?_
                              refine S_iast X 3 rfl (by omega) (by omega) (nle rfl) dX12_marksFrom_272 ?_
                              refine S_w (ws' := [(h0, ob 11 f), (hA, ar 1206 Ab), (hE, ar 6 E), (hff, ar 31 (uZ Fv fr 0)), (hbf, ar 31 Bv), (hsu, ar 6 Sx)]) rfl ?_
                              refine S_aload_n X dX12_marksFrom_273 rfl hL48_0 ?_
                              refine S_get X fgX12_83_11 0 rfl hf6 dX12_marksFrom_274 ?_
                              refine S_iload_n X dX12_marksFrom_277 rfl hL48_1 ?_
                              refine S_iload X dX12_marksFrom_278 rfl ?_
                              refine S_iast X 4 rfl (by omega) (by omega) (nle rfl) dX12_marksFrom_280 ?_
                              refine S_w (ws' := [(h0, ob 11 f), (hA, ar 1206 Ab), (hE, ar 6 E), (hff, ar 31 (uZ Fv fr 0)), (hbf, ar 31 (uZ Bv fr 0)), (hsu, ar 6 Sx)]) rfl ?_
                              refine S_iinc X dX12_marksFrom_281 (nle rfl) hL48_2 ?_
                              refine S_goto (tgt := 32) X dX12_marksFrom_284 (by decide) ?_
                              exact ih32 (b + 1) (uZ Fv fr 0) (uZ Bv fr 0) Sx _ (by omega) (fun j j0 j1 => (by omega : j = fr ∨ fr < j).elim (fun q9 => by rw [q9, uZ_at]; omega) (fun q9 => by rw [uZ_ne (by omega)]; exact hFv j j0 j1)) (uZ_all hBv (by decide)) (fun x h0 h1 => by have := hS1 x h0 (by omega); omega) hL48_0 hL48_1 rfl (by omega)
                            ·
                              refine S_iload X dX12_marksFrom_243 rfl ?_
                              refine S_aload_n X dX12_marksFrom_245 rfl hL48_0 ?_
                              refine S_get X fgX12_80_11 0 rfl hf5 dX12_marksFrom_246 ?_
                              refine S_iload_n X dX12_marksFrom_249 rfl hL48_1 ?_
                              refine S_iald X 3 rfl (by omega) (by omega) (nle rfl) dX12_marksFrom_250 ?_
                              refine S_icmp_ne (tgt := 281) X dX12_marksFrom_251 (by decide) (by decide) (by omega) (fun c_30 => ?_) (fun c_30 => ?_)
                              ·
                                refine S_iinc X dX12_marksFrom_281 (nle rfl) hL48_2 ?_
                                refine S_goto (tgt := 32) X dX12_marksFrom_284 (by decide) ?_
                                exact ih32 (b + 1) Fv Bv Sx _ (by omega) (hFv) (hBv) (fun x h0 h1 => by have := hS1 x h0 (by omega); omega) hL48_0 hL48_1 rfl (by omega)
                              ·
                                refine S_iload X dX12_marksFrom_254 rfl ?_
                                refine S_aload_n X dX12_marksFrom_256 rfl hL48_0 ?_
                                refine S_get X fgX12_83_11 0 rfl hf6 dX12_marksFrom_257 ?_
                                refine S_iload_n X dX12_marksFrom_260 rfl hL48_1 ?_
                                refine S_iald X 4 rfl (by omega) (by omega) (nle rfl) dX12_marksFrom_261 ?_
                                have hzr := zOr_r (Bv (b + 1)) (zShl 1 b)
                                refine S_icmp_ge (tgt := 281) X dX12_marksFrom_262 (by decide) (by decide) (by omega) (fun c_31 => ?_) (fun c_31 => ?_)
                                ·
                                  refine S_iinc X dX12_marksFrom_281 (nle rfl) hL48_2 ?_
                                  refine S_goto (tgt := 32) X dX12_marksFrom_284 (by decide) ?_
                                  exact ih32 (b + 1) Fv Bv Sx _ (by omega) (hFv) (hBv) (fun x h0 h1 => by have := hS1 x h0 (by omega); omega) hL48_0 hL48_1 rfl (by omega)
                                ·
                                  refine S_aload_n X dX12_marksFrom_265 rfl hL48_0 ?_
                                  refine S_get X fgX12_80_11 0 rfl hf5 dX12_marksFrom_266 ?_
                                  refine S_iload_n X dX12_marksFrom_269 rfl hL48_1 ?_
                                  refine S_iload X dX12_marksFrom_270 rfl ?_
                                  refine S_iast X 3 rfl (by omega) (by omega) (nle rfl) dX12_marksFrom_272 ?_
                                  refine S_w (ws' := [(h0, ob 11 f), (hA, ar 1206 Ab), (hE, ar 6 E), (hff, ar 31 (uZ Fv fr 0)), (hbf, ar 31 Bv), (hsu, ar 6 Sx)]) rfl ?_
                                  refine S_aload_n X dX12_marksFrom_273 rfl hL48_0 ?_
                                  refine S_get X fgX12_83_11 0 rfl hf6 dX12_marksFrom_274 ?_
                                  refine S_iload_n X dX12_marksFrom_277 rfl hL48_1 ?_
                                  refine S_iload X dX12_marksFrom_278 rfl ?_
                                  refine S_iast X 4 rfl (by omega) (by omega) (nle rfl) dX12_marksFrom_280 ?_
                                  refine S_w (ws' := [(h0, ob 11 f), (hA, ar 1206 Ab), (hE, ar 6 E), (hff, ar 31 (uZ Fv fr 0)), (hbf, ar 31 (uZ Bv fr 0)), (hsu, ar 6 Sx)]) rfl ?_
                                  refine S_iinc X dX12_marksFrom_281 (nle rfl) hL48_2 ?_
                                  refine S_goto (tgt := 32) X dX12_marksFrom_284 (by decide) ?_
                                  exact ih32 (b + 1) (uZ Fv fr 0) (uZ Bv fr 0) Sx _ (by omega) (fun j j0 j1 => (by omega : j = fr ∨ fr < j).elim (fun q9 => by rw [q9, uZ_at]; omega) (fun q9 => by rw [uZ_ne (by omega)]; exact hFv j j0 j1)) (uZ_all hBv (by decide)) (fun x h0 h1 => by have := hS1 x h0 (by omega); omega) hL48_0 hL48_1 rfl (by omega)
                    ·
                      exact S_vret X (nle rfl) (nle rfl) dX12_marksFrom_145 (hPo _ (⟨_, _, _, rfl, hFv, hBv⟩))
                  ·
                    have hsi := hS2 i (by omega) (by omega)
                    have hA1 := hr.at (z := 6 * b + i) (x := b) (y := i) rfl (by omega) (by omega) (by omega) (by omega)
                    have hA2 := hok.beat b i (by omega) (by omega) (by omega)
                    have hE1 := (hok.2.2.2.2.2.2 i (by omega) (by omega)).2.2.2
                    refine S_aload_n X dX12_marksFrom_57 rfl hL48_0 ?_
                    refine S_get X fgX12_86_11 0 rfl hf7 dX12_marksFrom_58 ?_
                    refine S_iload X dX12_marksFrom_61 hL48_5 ?_
                    refine S_dup2 X dX12_marksFrom_63 ?_
                    refine S_iald X 5 rfl (by omega) (by omega) (nle rfl) dX12_marksFrom_64 ?_
                    refine S_aload_n X dX12_marksFrom_65 rfl hL48_0 ?_
                    refine S_get X fgX12_65_11 0 rfl hf3 dX12_marksFrom_66 ?_
                    refine S_bipush X dX12_marksFrom_69 rfl ?_
                    refine S_iload_n X dX12_marksFrom_71 rfl hL48_2 ?_
                    refine S_imul X dX12_marksFrom_72 ?_
                    refine S_iload X dX12_marksFrom_73 hL48_5 ?_
                    refine S_iadd X dX12_marksFrom_75 ?_
                    refine S_iald X 1 rfl (by omega) (by omega) (nle rfl) dX12_marksFrom_76 ?_
                    refine S_aload_n X dX12_marksFrom_77 rfl hL48_0 ?_
                    refine S_get X fgX12_49_11 0 rfl hf2 dX12_marksFrom_78 ?_
                    refine S_iload X dX12_marksFrom_81 hL48_5 ?_
                    refine S_iald X 2 rfl (by omega) (by omega) (nle rfl) dX12_marksFrom_83 ?_
                    refine S_iadd X dX12_marksFrom_84 ?_
                    refine S_iadd X dX12_marksFrom_85 ?_
                    refine S_iast X 5 rfl (by omega) (by omega) (nle rfl) dX12_marksFrom_86 ?_
                    refine S_w (ws' := [(h0, ob 11 f), (hA, ar 1206 Ab), (hE, ar 6 E), (hff, ar 31 Fv), (hbf, ar 31 Bv), (hsu, ar 6 (uZ Sx i ((Sx i) + ((Ab ((6 * b) + i)) + (E i)))))]) rfl ?_
                    have hu9 : (uZ Sx i ((Sx i) + ((Ab ((6 * b) + i)) + (E i)))) i = Sx i + (Ab (6 * b + i) + E i) := uZ_at
                    refine S_iload X dX12_marksFrom_87 hL48_5 ?_
                    refine S_if_ne (tgt := 102) X dX12_marksFrom_89 (by decide) (by omega) (fun c_32 => ?_) (fun c_32 => ?_)
                    ·
                      refine S_iload_n X dX12_marksFrom_102 rfl hL48_3 ?_
                      refine S_aload_n X dX12_marksFrom_103 rfl hL48_0 ?_
                      refine S_get X fgX12_86_11 0 rfl hf7 dX12_marksFrom_104 ?_
                      refine S_iload X dX12_marksFrom_107 hL48_5 ?_
                      refine S_iald X 5 rfl (by omega) (by omega) (nle rfl) dX12_marksFrom_109 ?_
                      refine S_mmin X lkX12_293 rfl rfl (by omega) (by omega) (nle rfl) (nle rfl) (nle rfl) (nle rfl) dX12_marksFrom_110 ?_
                      refine S_istore_n X dX12_marksFrom_113 rfl (nle rfl) ?_
                      refine S_iload X dX12_marksFrom_114 hL48_4 ?_
                      refine S_aload_n X dX12_marksFrom_116 rfl hL48_0 ?_
                      refine S_get X fgX12_86_11 0 rfl hf7 dX12_marksFrom_117 ?_
                      refine S_iload X dX12_marksFrom_120 hL48_5 ?_
                      refine S_iald X 5 rfl (by omega) (by omega) (nle rfl) dX12_marksFrom_122 ?_
                      refine S_mmax X lkX12_295 rfl rfl (by omega) (by omega) (nle rfl) (nle rfl) (nle rfl) (nle rfl) dX12_marksFrom_123 ?_
                      refine S_istore X dX12_marksFrom_126 (nle rfl) ?_
                      refine S_iinc X dX12_marksFrom_128 (nle rfl) hL48_5 ?_
                      refine S_goto (tgt := 48) X dX12_marksFrom_131 (by decide) ?_
                      exact ih48 (i + 1) (min lo ((uZ Sx i ((Sx i) + ((Ab ((6 * b) + i)) + (E i)))) i)) (max hi9 ((uZ Sx i ((Sx i) + ((Ab ((6 * b) + i)) + (E i)))) i)) (uZ Sx i ((Sx i) + ((Ab ((6 * b) + i)) + (E i)))) _ (by omega) (by omega) (by omega) (fun x h0 h1 => (by omega : x < i ∨ x = i).elim (fun q9 => by rw [uZ_ne (by omega)]; exact hS1 x h0 q9) (fun q9 => by rw [q9, uZ_at]; omega)) (fun x h0 h1 => by rw [uZ_ne (by omega)]; exact hS2 x (by omega) h1) hL48_0 hL48_1 hL48_2 rfl rfl rfl (by omega)
                    ·
                      refine S_aload_n X dX12_marksFrom_92 rfl hL48_0 ?_
                      refine S_get X fgX12_86_11 0 rfl hf7 dX12_marksFrom_93 ?_
                      refine S_iload X dX12_marksFrom_96 hL48_5 ?_
                      refine S_iald X 5 rfl (by omega) (by omega) (nle rfl) dX12_marksFrom_98 ?_
                      refine S_goto (tgt := 113) X dX12_marksFrom_99 (by decide) ?_
                      refine S_istore_n X dX12_marksFrom_113 rfl (nle rfl) ?_
                      refine S_iload X dX12_marksFrom_114 hL48_4 ?_
                      refine S_aload_n X dX12_marksFrom_116 rfl hL48_0 ?_
                      refine S_get X fgX12_86_11 0 rfl hf7 dX12_marksFrom_117 ?_
                      refine S_iload X dX12_marksFrom_120 hL48_5 ?_
                      refine S_iald X 5 rfl (by omega) (by omega) (nle rfl) dX12_marksFrom_122 ?_
                      refine S_mmax X lkX12_295 rfl rfl (by omega) (by omega) (nle rfl) (nle rfl) (nle rfl) (nle rfl) dX12_marksFrom_123 ?_
                      refine S_istore X dX12_marksFrom_126 (nle rfl) ?_
                      refine S_iinc X dX12_marksFrom_128 (nle rfl) hL48_5 ?_
                      refine S_goto (tgt := 48) X dX12_marksFrom_131 (by decide) ?_
                      exact ih48 (i + 1) ((uZ Sx i ((Sx i) + ((Ab ((6 * b) + i)) + (E i)))) i) (max hi9 ((uZ Sx i ((Sx i) + ((Ab ((6 * b) + i)) + (E i)))) i)) (uZ Sx i ((Sx i) + ((Ab ((6 * b) + i)) + (E i)))) _ (by omega) (by omega) (by omega) (fun x h0 h1 => (by omega : x < i ∨ x = i).elim (fun q9 => by rw [uZ_ne (by omega)]; exact hS1 x h0 q9) (fun q9 => by rw [q9, uZ_at]; omega)) (fun x h0 h1 => by rw [uZ_ne (by omega)]; exact hS2 x (by omega) h1) hL48_0 hL48_1 hL48_2 rfl rfl rfl (by omega)
              exact lp48_6 (Int.toNat (pl + 1 - 0) + 1) 0 0 0 Sw _ (by omega) (by omega) (by omega) (fun x h0 h1 => by omega) (fun x h0 h1 => hSw x h0 h1) hL32_0 hL32_1 hL32_2 rfl rfl rfl (by omega)
        exact lp32_3 (Int.toNat (n + 1 - fr) + 1) fr (uZ Ff fr (-1)) Bf Sv _ (by omega) (fun j j0 j1 => (by omega : j = fr ∨ fr < j).elim (fun q9 => by rw [q9, uZ_at]; omega) (fun q9 => by rw [uZ_ne (by omega)]; exact hFr j q9 j1)) (hBr) (fun x h0 h1 => by rw [hz x h0 (by omega)]; omega) hL9_0 hL9_1 rfl (by omega)
      ·
        refine S_aload_n X dX12_marksFrom_17 rfl hL9_0 ?_
        refine S_get X fgX12_86_11 0 rfl hf7 dX12_marksFrom_18 ?_
        refine S_iload_n X dX12_marksFrom_21 rfl hL9_2 ?_
        refine S_iconst X dX12_marksFrom_22 ?_
        refine S_iast X 5 rfl (by omega) (by omega) (nle rfl) dX12_marksFrom_23 ?_
        refine S_w (ws' := [(h0, ob 11 f), (hA, ar 1206 Ab), (hE, ar 6 E), (hff, ar 31 (uZ Ff fr (-1))), (hbf, ar 31 Bf), (hsu, ar 6 (uZ Sv i 0))]) rfl ?_
        refine S_iinc X dX12_marksFrom_24 (nle rfl) hL9_2 ?_
        refine S_goto (tgt := 9) X dX12_marksFrom_27 (by decide) ?_
        exact ih9 (i + 1) (uZ Sv i 0) _ (by omega) (fun x h0 h1 => (by omega : x < i ∨ x = i).elim (fun q9 => by rw [uZ_ne (by omega)]; exact hz x h0 q9) (fun q9 => by rw [q9]; exact uZ_at)) hL9_0 hL9_1 rfl (by omega)
  exact lp9_0 (Int.toNat (pl + 1 - 0) + 1) 0 Su _ (by omega) (fun x h0 h1 => by omega) rfl rfl rfl (by omega)
set_option maxHeartbeats 4000000 in
set_option maxRecDepth 100000 in
theorem kX12_marks (l : Launch) (h0 : Nat) (f : Nat → AV) (pl : Int) (n : Int) (ec : Int) (mk : Int) (hQ : Nat) (hB : Nat) (hE : Nat) (hA : Nat) (hM : Nat) (hW : Nat) (Q : Int → Int) (B : Int → Int) (E : Int → Int) (Ab : Int → Int) (lim : Int) (hff : Nat) (hbf : Nat) (hsu : Nat) (Ff : Int → Int) (Bf : Int → Int) (Su : Int → Int) (v : Int) (hf0 : f 21 = iv pl) (hf1 : f 28 = iv n) (hf2 : f 29 = iv ec) (hf3 : f 26 = iv mk) (hf4 : f 20 = rv hQ) (hf5 : f 23 = rv hB) (hf6 : f 24 = rv hE) (hf7 : f 33 = rv hA) (hf8 : f 34 = rv hM) (hf9 : f 35 = rv hW) (hf10 : f 30 = iv lim) (hf11 : f 40 = rv hff) (hf12 : f 41 = rv hbf) (hf13 : f 42 = rv hsu) (hz : okZ pl n ec (c5 Q 3) (c5 Q 4) B E) (hlim : 0 ≤ lim ∧ lim ≤ 999) (hx_v : inR v) : AMi l yX12_marks cX12_marks 3 .int 3 0 0 [rv h0, iv v] [(h0, ob 11 f), (hQ, ar 30 Q), (hB, ar 6 B), (hE, ar 6 E), (hA, ar 1206 Ab), (hff, ar 31 Ff), (hbf, ar 31 Bf), (hsu, ar 6 Su)] (fun z u => ∃ z9 : Int, ∃ A2 : Int → Int, ∃ F2 : Int → Int, ∃ B2 : Int → Int, ∃ S2 : Int → Int, z = z9 ∧ u = [(h0, ob 11 f), (hQ, ar 30 Q), (hB, ar 6 B), (hE, ar 6 E), (hA, ar 1206 A2), (hff, ar 31 F2), (hbf, ar 31 B2), (hsu, ar 6 S2)]) := by
  refine AMi.of2 rfl (nle rfl) ?_
  intro D G A p e s m args below meth c Po hPo X
  have hz6 := hz.2.1
  have hz0 := hz.1
  refine S_aload_n X dX12_marks_0 rfl rfl ?_
  refine S_get X fgX12_253_11 0 rfl hf0 dX12_marks_1 ?_
  refine S_if_eq (tgt := 16) X dX12_marks_4 (by decide) (by omega) (fun c_1 => ?_) (fun c_1 => ?_)
  ·
    refine S_iconst X dX12_marks_16 ?_
    exact S_iret X (nle rfl) (nle rfl) dX12_marks_17 (hPo _ _ (⟨_, _, _, _, _, rfl, rfl⟩))
  ·
    refine S_iload_n X dX12_marks_7 rfl rfl ?_
    refine S_iconst X dX12_marks_8 ?_
    refine S_iconst X dX12_marks_9 ?_
    refine S_calli X (kX12_in l v 0 1 (by omega) (by omega) (by omega)) (is := []) rfl (run_S X lkX12_216 (is := []) (avs := [iv v, iv 0, iv 1]) (rest := []) rfl rfl (nle rfl) ⟨nle rfl, nle rfl⟩ ⟨nle rfl, nle rfl⟩ dX12_marks_10 (by decide) rfl) (fun z_4 u_2 hp_3 => ?_)
    rcases hp_3 with ⟨hz_5, hu_6, hq_7⟩ | ⟨hz_8, hu_9, hq_10⟩
    ·
      subst hz_5
      subst hu_6
      refine ⟨rfl, ?_⟩
      refine S_w (ws' := [(h0, ob 11 f), (hQ, ar 30 Q), (hB, ar 6 B), (hE, ar 6 E), (hA, ar 1206 Ab), (hff, ar 31 Ff), (hbf, ar 31 Bf), (hsu, ar 6 Su)]) rfl ?_
      refine S_if_ne (tgt := 18) X dX12_marks_13 (by decide) (by decide) (fun h9 => absurd h9 (by decide)) (fun _ => ?_)
      refine S_iconst X dX12_marks_16 ?_
      exact S_iret X (nle rfl) (nle rfl) dX12_marks_17 (hPo _ _ (⟨_, _, _, _, _, rfl, rfl⟩))
    ·
      subst hz_8
      subst hu_9
      refine ⟨rfl, ?_⟩
      refine S_w (ws' := [(h0, ob 11 f), (hQ, ar 30 Q), (hB, ar 6 B), (hE, ar 6 E), (hA, ar 1206 Ab), (hff, ar 31 Ff), (hbf, ar 31 Bf), (hsu, ar 6 Su)]) rfl ?_
      refine S_if_ne (tgt := 18) X dX12_marks_13 (by decide) (by decide) (fun _ => ?_) (fun h9 => absurd h9 (by decide))
      have hok := hz.s (by omega)
      have hpl := hok.2.1
      have hpl1 := hok.1
      have hn1 := hok.2.2.1
      have hn2 := hok.2.2.2.1
      have hec := hok.2.2.2.2
      refine S_aload_n X dX12_marks_18 rfl rfl ?_
      refine S_aload_n X dX12_marks_19 rfl rfl ?_
      refine S_get X fgX12_56_11 0 rfl hf1 dX12_marks_20 ?_
      refine S_callv X (kX12_layBeats l h0 f pl n ec hQ hB hA Q B E Ab n hf0 hf2 hf4 hf5 hf7 (by omega) (by omega)) (is := [0, 1, 2, 4]) rfl (run_V X lkX12_306 0 rfl rfl (is := [0, 1, 2, 4]) (avs := [iv n]) (rest := []) rfl rfl (nle rfl) ⟨nle rfl, nle rfl⟩ ⟨nle rfl, nle rfl⟩ dX12_marks_23 (by decide) rfl) (fun u_13 hp_14 => ?_)
      obtain ⟨A2_16, hu_18, hreg_19⟩ := hp_14
      subst hu_18
      refine ⟨rfl, ?_⟩
      refine S_w (ws' := [(h0, ob 11 f), (hQ, ar 30 Q), (hB, ar 6 B), (hE, ar 6 E), (hA, ar 1206 A2_16), (hff, ar 31 Ff), (hbf, ar 31 Bf), (hsu, ar 6 Su)]) rfl ?_
      have hAL := hreg_19
      refine S_nrm (q := 6) rfl (fun B9 hB9 _ => ?_)
      refine S_w (ws' := [(h0, ob 11 f), (hQ, ar 30 Q), (hB, ar 6 B), (hE, ar 6 E), (hA, ar 1206 A2_16), (hff, ar 31 Ff), (hbf, ar 31 B9), (hsu, ar 6 Su)]) rfl ?_
      refine S_aload_n X dX12_marks_26 rfl rfl ?_
      refine S_get X fgX12_56_11 0 rfl hf1 dX12_marks_27 ?_
      refine S_iconst X dX12_marks_30 ?_
      refine S_isub X dX12_marks_31 ?_
      refine S_istore_n X dX12_marks_32 rfl (nle rfl) ?_
      have lp33_2 : ∀ (N : Nat) (fr : Int) (Fv : Int → Int) (Bv : Int → Int) (Sv : Int → Int) (L : Nat → Option AV), -1 ≤ fr ∧ fr < n → (∀ j, fr < j → j < n → -1 ≤ Fv j ∧ Fv j ≤ n - 1 - j) → (∀ j, inR (Bv j)) → L 0 = some (rv h0) → L 1 = some (iv v) → L 2 = some (iv fr) → fr + 2 < (N : Int) → S_ p l e (rmD 3 0 0) s m args below meth c (MQ below (QcI D G A Po) args s 0 0 A) D G A 3 0 0 33 L [] [(h0, ob 11 f), (hQ, ar 30 Q), (hB, ar 6 B), (hE, ar 6 E), (hA, ar 1206 A2_16), (hff, ar 31 Fv), (hbf, ar 31 Bv), (hsu, ar 6 Sv)] := by
        intro N
        induction N with
        | zero =>
          intro fr Fv Bv Sv L33 hfr hFv hBv hL33_0 hL33_1 hL33_2 hN33
          exfalso; omega
        | succ N ih33 =>
          intro fr Fv Bv Sv L33 hfr hFv hBv hL33_0 hL33_1 hL33_2 hN33
          refine S_iload_n X dX12_marks_33 rfl hL33_2 ?_
          refine S_if_lt (tgt := 48) X dX12_marks_34 (by decide) (by omega) (fun c_20 => ?_) (fun c_20 => ?_)
          ·
            have hf0 := hFv 0 (by omega) (by omega)
            refine S_aload_n X dX12_marks_48 rfl hL33_0 ?_
            refine S_get X fgX12_80_11 0 rfl hf11 dX12_marks_49 ?_
            refine S_iconst X dX12_marks_52 ?_
            refine S_iald X 5 rfl (by omega) (by omega) (nle rfl) dX12_marks_53 ?_
            refine S_iconst X dX12_marks_54 ?_
            refine S_icmp_ne (tgt := 62) X dX12_marks_55 (by decide) (by omega) (by decide) (fun c_21 => ?_) (fun c_21 => ?_)
            ·
              refine S_iload_n X dX12_marks_62 rfl hL33_1 ?_
              refine S_if_ne (tgt := 75) X dX12_marks_63 (by decide) (by omega) (fun c_22 => ?_) (fun c_22 => ?_)
              ·
                refine S_aload_n X dX12_marks_75 rfl hL33_0 ?_
                refine S_get X fgX12_83_11 0 rfl hf12 dX12_marks_76 ?_
                refine S_iconst X dX12_marks_79 ?_
                refine S_iald X 6 rfl (by omega) (by omega) (nle rfl) dX12_marks_80 ?_
                exact S_iret X (nle rfl) (nle rfl) dX12_marks_81 (hPo _ _ (⟨_, _, _, _, _, rfl, rfl⟩))
              ·
                refine S_aload_n X dX12_marks_66 rfl hL33_0 ?_
                refine S_get X fgX12_80_11 0 rfl hf11 dX12_marks_67 ?_
                refine S_iconst X dX12_marks_70 ?_
                refine S_iald X 5 rfl (by omega) (by omega) (nle rfl) dX12_marks_71 ?_
                refine S_goto (tgt := 81) X dX12_marks_72 (by decide) ?_
                exact S_iret X (nle rfl) (nle rfl) dX12_marks_81 (hPo _ _ (⟨_, _, _, _, _, rfl, rfl⟩))
            ·
              refine S_iconst X dX12_marks_58 ?_
              refine S_goto (tgt := 81) X dX12_marks_59 (by decide) ?_
              exact S_iret X (nle rfl) (nle rfl) dX12_marks_81 (hPo _ _ (⟨_, _, _, _, _, rfl, rfl⟩))
          ·
            refine S_aload_n X dX12_marks_37 rfl hL33_0 ?_
            refine S_iload_n X dX12_marks_38 rfl hL33_2 ?_
            refine S_callv X (kX12_marksFrom l h0 f pl n ec hE hA Q B E A2_16 lim hff hbf hsu Fv Bv Sv fr hf0 hf1 hf6 hf7 hf10 hf11 hf12 hf13 (by omega) hAL (by omega) (by omega) hFv hBv) (is := [0, 4, 3, 5, 6, 7]) rfl (run_V X lkX12_346 0 rfl rfl (is := [0, 4, 3, 5, 6, 7]) (avs := [iv fr]) (rest := []) rfl rfl (nle rfl) ⟨nle rfl, nle rfl⟩ ⟨nle rfl, nle rfl⟩ dX12_marks_39 (by decide) rfl) (fun u_23 hp_24 => ?_)
            obtain ⟨F2_26, B2_27, S2_28, hu_30, hF2_31, hB2_32⟩ := hp_24
            subst hu_30
            refine ⟨rfl, ?_⟩
            refine S_w (ws' := [(h0, ob 11 f), (hQ, ar 30 Q), (hB, ar 6 B), (hE, ar 6 E), (hA, ar 1206 A2_16), (hff, ar 31 F2_26), (hbf, ar 31 B2_27), (hsu, ar 6 S2_28)]) rfl ?_
            refine S_iinc X dX12_marks_42 (nle rfl) hL33_2 ?_
            refine S_goto (tgt := 33) X dX12_marks_45 (by decide) ?_
            exact ih33 (fr + (-1)) F2_26 B2_27 S2_28 _ (by omega) (fun j j0 j1 => hF2_31 j (by omega) j1) (hB2_32) hL33_0 hL33_1 rfl (by omega)
      exact lp33_2 (Int.toNat ((n - 1) + 2) + 1) (n - 1) Ff B9 Su _ (by omega) (fun j j0 j1 => by omega) (hB9) rfl rfl rfl (by omega)
