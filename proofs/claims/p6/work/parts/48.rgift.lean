def foldN {S : Type} (f : Int → S → S) : Nat → S → S
  | 0, s => s
  | n + 1, s => f (n : Int) (foldN f n s)
def foldI {S : Type} (f : Int → S → S) (p : Int) (s : S) : S := foldN f p.toNat s
theorem foldI_0 {S : Type} {f : Int → S → S} {s : S} : foldI f 0 s = s := rfl
theorem foldI_S {S : Type} {f : Int → S → S} {p : Int} {s : S} (h : 0 ≤ p) : foldI f (p + 1) s = f p (foldI f p s) := by
  unfold foldI
  rw [toNat_S h, foldN, toNat_c h]
section WK
variable (pl n ec mk mt : Int) (Fo Ho Lt Kd Dr wet : Int → Int)
/-- all rows of DAYS: the digits and how much of the first least one -/
def wkN : Nat → Int → Int → (Int → Int) → Int × Int → Int × Int
  | 0, _, dg, B, r => if r.1 = -1 ∨ WO pl n ec mk Fo Ho B Lt < r.2 then (dg, WO pl n ec mk Fo Ho B Lt) else r
  | K + 1, i, dg, B, r => foldI (fun a q => wkN K (i + 1) (10 * dg + a) (paF Kd Dr mt a (wet i) pl B) q) pl r
/-- how many rows of DAMPS make p last -/
def odN (p : Int) : Nat → (Int → Int) → Int
  | 0, B => if amI (tS pl ec mk Fo Ho B Lt (n - 1)) pl = p then 1 else 0
  | K + 1, B => smI (fun d => odN p K (paF Kd Dr mt (-1) d pl B)) 3
end WK
def mxd (K : Nat) : Int := if K = 0 then 999999 else if K = 1 then 99999 else if K = 2 then 9999 else if K = 3 then 999 else if K = 4 then 99 else if K = 5 then 9 else 0
theorem mxd_S {K : Nat} {d a : Int} (hK : K + 1 ≤ 6) (h0 : 0 ≤ d) (h : d ≤ mxd (K + 1)) (ha : 0 ≤ a ∧ a ≤ 5) : 0 ≤ 10 * d + a ∧ 10 * d + a ≤ mxd K := by
  unfold mxd at h ⊢
  have : K = 0 ∨ K = 1 ∨ K = 2 ∨ K = 3 ∨ K = 4 ∨ K = 5 := by omega
  rcases this with rfl | rfl | rfl | rfl | rfl | rfl <;> simp at h ⊢ <;> omega
theorem mxd_le (K : Nat) : 0 ≤ mxd K ∧ mxd K ≤ 999999 := by unfold mxd; (repeat' split) <;> omega
theorem pa_back {pl : Int} {B B2 W : Int → Int} {Kd Dr : Int → Int} {mt a wet : Int} (h1 : ∀ x, 0 ≤ x → x < pl → B2 x = W x) (h2 : ∀ x, x < 0 ∨ pl ≤ x → B2 x = paF Kd Dr mt a wet pl B x) (h3 : ∀ x, 0 ≤ x → x < pl → W x = B x) : B2 = B := by
  funext x
  by_cases h : 0 ≤ x ∧ x < pl
  · rw [h1 x h.1 h.2, h3 x h.1 h.2]
  · rw [h2 x (by omega)]
    unfold paF
    rw [if_neg h]
def aGift (pl n ec mk mt dy : Int) (Fo Ho B0 Lt Kd Dr : Int → Int) (wet w : Int) : Int := if 1 ≤ pl ∧ (w = 0 ∨ w = 1) ∧ dy ≤ 999 then (if w = 0 then amI (fun a => -WO pl n ec mk Fo Ho (paF Kd Dr mt a wet pl B0) Lt) pl else WO pl n ec mk Fo Ho (paF Kd Dr mt (amI (fun a => -WO pl n ec mk Fo Ho (paF Kd Dr mt a wet pl B0) Lt) pl) wet pl B0) Lt) else -1
def aWeekR (pl n ec mk mt dy : Int) (Fo Ho B0 Lt Kd Dr wet : Int → Int) (w : Int) (le : Int) : Int := if 1 ≤ pl ∧ (w = 0 ∨ w = 1) ∧ dy + 6 ≤ 1000 then (if w = 0 then (wkN pl n ec mk mt Fo Ho Lt Kd Dr wet 6 0 0 B0 (-1, le)).1 else (wkN pl n ec mk mt Fo Ho Lt Kd Dr wet 6 0 0 B0 (-1, le)).2) else -1
def aOddsR (pl n ec mk mt : Int) (Fo Ho B0 Lt Kd Dr : Int → Int) (p k : Int) : Int := if (0 ≤ p ∧ p < pl) ∧ 1 ≤ k ∧ k ≤ 6 then odN pl n ec mk mt Fo Ho Lt Kd Dr p k.toNat B0 else -1
set_option maxHeartbeats 4000000 in
set_option maxRecDepth 100000 in
theorem kX12_day (l : Launch) (h0 : Nat) (f : Nat → AV) (pl : Int) (mt : Int) (ho : Int) (hC : Nat) (hV : Nat) (hL : Nat) (hTf : Nat) (hSf : Nat) (hEf : Nat) (hle : Nat) (hst : Nat) (C : Int → Int) (V : Int → Int) (Lk : Int → Int) (Tf : Int → Int) (Sf : Int → Int) (Ef : Int → Int) (Le : Int → Int) (Sk : Int → Int) (cs : List (List Int × List Int)) (hQ : Nat) (hB : Nat) (Q : Int → Int) (B : Int → Int) (hK : Nat) (K : Int → Int) (dy : Int) (ac : Int) (at9 : Int) (hf0 : f 6 = rv hC) (hf1 : f 7 = rv hV) (hf2 : f 9 = rv hL) (hf3 : f 10 = rv hTf) (hf4 : f 11 = rv hSf) (hf5 : f 12 = rv hEf) (hf6 : f 15 = rv hle) (hf7 : f 16 = rv hst) (hf8 : f 21 = iv pl) (hf9 : f 22 = iv mt) (hf10 : f 27 = iv ho) (hf11 : f 20 = rv hQ) (hf12 : f 23 = rv hB) (hf13 : f 31 = rv hK) (hpm : (0 ≤ pl ∧ pl ≤ 6) ∧ 1 ≤ mt ∧ mt ≤ 99) (hho : ho = -1 ∨ (0 ≤ ho ∧ ho ≤ 3 ∧ lawAt C V Lk Tf Sf Ef ho cs)) (hod : okDy pl mt (c5 Q 2) (c5 Q 1)) (hB1 : ∀ p, 0 ≤ p → p < pl → 1 ≤ B p ∧ B p ≤ 199) (hdy : 0 ≤ dy ∧ dy ≤ 1000) (hac : 0 ≤ ac ∧ ac ≤ 60) (hx_a : inR at9) : AMi l yX12_day cX12_day 3 .int 6 0 0 [rv h0, iv at9] [(h0, ob 11 (uF (uF f 25 (iv dy)) 32 (iv ac))), (hQ, ar 30 Q), (hB, ar 6 B), (hK, ar 360 K), (hC, ar 1700 C), (hV, ar 1700 V), (hL, ar 5 Lk), (hTf, ar 450 Tf), (hSf, ar 450 Sf), (hEf, ar 450 Ef), (hle, ar 5 Le), (hst, ar 80 Sk)] (fun z u => (z = -1 ∧ u = [(h0, ob 11 (uF (uF f 25 (iv dy)) 32 (iv ac))), (hQ, ar 30 Q), (hB, ar 6 B), (hK, ar 360 K), (hC, ar 1700 C), (hV, ar 1700 V), (hL, ar 5 Lk), (hTf, ar 450 Tf), (hSf, ar 450 Sf), (hEf, ar 450 Ef), (hle, ar 5 Le), (hst, ar 80 Sk)] ∧ (pl = 0 ∨ at9 < -1 ∨ pl ≤ at9 ∨ 999 < dy)) ∨ (∃ B2 : Int → Int, ∃ K2 : Int → Int, ∃ ac2 : Int, ∃ L2 : Int → Int, ∃ S2 : Int → Int, z = dy + 1 ∧ u = [(h0, ob 11 (uF (uF f 25 (iv (dy + 1))) 32 (iv ac2))), (hQ, ar 30 Q), (hB, ar 6 B2), (hK, ar 360 K2), (hC, ar 1700 C), (hV, ar 1700 V), (hL, ar 5 Lk), (hTf, ar 450 Tf), (hSf, ar 450 Sf), (hEf, ar 450 Ef), (hle, ar 5 L2), (hst, ar 80 S2)] ∧ (1 ≤ pl ∧ -1 ≤ at9 ∧ at9 < pl ∧ dy ≤ 999) ∧ B2 = (paF (c5 Q 2) (c5 Q 1) mt at9 (aDy ho cs mt pl dy) pl B) ∧ ((ac < 60 ∧ ac2 = ac + 1) ∨ (ac = 60 ∧ ac2 = 60)) ∧ (∀ x, 0 ≤ x → x < 6 → K2 (6 * (ac2 - 1) + x) = B x) ∧ (∀ x, 0 ≤ x → x < 6 * (ac2 - 1) → K2 x = K (x + 6 * (ac + 1 - ac2))))) := by
  refine AMi.of2 rfl (nle rfl) ?_
  intro D G A p e s m args below meth c Po hPo X
  refine S_aload_n X dX12_day_0 rfl rfl ?_
  refine S_get X fgX12_253_11 0 rfl hf8 dX12_day_1 ?_
  refine S_if_eq (tgt := 31) X dX12_day_4 (by decide) (by omega) (fun c_1 => ?_) (fun c_1 => ?_)
  ·
    refine S_iconst X dX12_day_31 ?_
    exact S_iret X (nle rfl) (nle rfl) dX12_day_32 (hPo _ _ (Or.inl ⟨rfl, rfl, by omega⟩))
  ·
    refine S_iload_n X dX12_day_7 rfl rfl ?_
    refine S_iconst X dX12_day_8 ?_
    refine S_aload_n X dX12_day_9 rfl rfl ?_
    refine S_get X fgX12_253_11 0 rfl hf8 dX12_day_10 ?_
    refine S_iconst X dX12_day_13 ?_
    refine S_isub X dX12_day_14 ?_
    refine S_calli X (kX12_in l at9 (-1) (pl - 1) (by omega) (by omega) (by omega)) (is := []) rfl (run_S X lkX12_216 (is := []) (avs := [iv at9, iv (-1), iv (pl - 1)]) (rest := []) rfl rfl (nle rfl) ⟨nle rfl, nle rfl⟩ ⟨nle rfl, nle rfl⟩ dX12_day_15 (by decide) rfl) (fun z_4 u_2 hp_3 => ?_)
    rcases hp_3 with ⟨hz_5, hu_6, hq_7⟩ | ⟨hz_8, hu_9, hq_10⟩
    ·
      subst hz_5
      subst hu_6
      refine ⟨rfl, ?_⟩
      refine S_w (ws' := [(h0, ob 11 (uF (uF f 25 (iv dy)) 32 (iv ac))), (hQ, ar 30 Q), (hB, ar 6 B), (hK, ar 360 K), (hC, ar 1700 C), (hV, ar 1700 V), (hL, ar 5 Lk), (hTf, ar 450 Tf), (hSf, ar 450 Sf), (hEf, ar 450 Ef), (hle, ar 5 Le), (hst, ar 80 Sk)]) rfl ?_
      refine S_if_eq (tgt := 31) X dX12_day_18 (by decide) (by decide) (fun _ => ?_) (fun h9 => absurd h9 (by decide))
      refine S_iconst X dX12_day_31 ?_
      exact S_iret X (nle rfl) (nle rfl) dX12_day_32 (hPo _ _ (Or.inl ⟨rfl, rfl, by omega⟩))
    ·
      subst hz_8
      subst hu_9
      refine ⟨rfl, ?_⟩
      refine S_w (ws' := [(h0, ob 11 (uF (uF f 25 (iv dy)) 32 (iv ac))), (hQ, ar 30 Q), (hB, ar 6 B), (hK, ar 360 K), (hC, ar 1700 C), (hV, ar 1700 V), (hL, ar 5 Lk), (hTf, ar 450 Tf), (hSf, ar 450 Sf), (hEf, ar 450 Ef), (hle, ar 5 Le), (hst, ar 80 Sk)]) rfl ?_
      refine S_if_eq (tgt := 31) X dX12_day_18 (by decide) (by decide) (fun h9 => absurd h9 (by decide)) (fun _ => ?_)
      refine S_aload_n X dX12_day_21 rfl rfl ?_
      refine S_get (v := iv dy) X fgX12_259_11 0 rfl rfl dX12_day_22 ?_
      refine S_sipush X dX12_day_25 rfl ?_
      refine S_icmp_le (tgt := 33) X dX12_day_28 (by decide) (by omega) (by decide) (fun c_13 => ?_) (fun c_13 => ?_)
      ·
        refine S_aload_n X dX12_day_33 rfl rfl ?_
        refine S_get (v := iv ac) X fgX12_262_11 0 rfl rfl dX12_day_34 ?_
        refine S_bipush X dX12_day_37 rfl ?_
        refine S_icmp_ne (tgt := 83) X dX12_day_39 (by decide) (by omega) (by decide) (fun c_14 => ?_) (fun c_14 => ?_)
        ·
          have lp83_4 : ∀ (a1 : Int) (Kv : Int → Int) (L : Nat → Option AV), (ac < 60 ∧ a1 = ac) ∨ (ac = 60 ∧ a1 = 59) → (∀ x, 0 ≤ x → x < 6 * a1 → Kv x = K (x + 6 * (ac - a1))) → L 0 = some (rv h0) → L 1 = some (iv at9) → S_ p l e (rmD 6 0 0) s m args below meth c (MQ below (QcI D G A Po) args s 0 0 A) D G A 3 0 0 83 L [] [(h0, ob 11 (uF (uF f 25 (iv dy)) 32 (iv a1))), (hQ, ar 30 Q), (hB, ar 6 B), (hK, ar 360 Kv), (hC, ar 1700 C), (hV, ar 1700 V), (hL, ar 5 Lk), (hTf, ar 450 Tf), (hSf, ar 450 Sf), (hEf, ar 450 Ef), (hle, ar 5 Le), (hst, ar 80 Sk)] := by
            intro a1 Kv L83 ha1 hks0 hL83_0 hL83_1
            refine S_iconst X dX12_day_83 ?_
            refine S_istore_n X dX12_day_84 rfl (nle rfl) ?_
            have lp85_5 : ∀ (N : Nat) (i : Int) (Kw : Int → Int) (L : Nat → Option AV), 0 ≤ i ∧ i ≤ 6 → (∀ x, 0 ≤ x → x < i → Kw (6 * a1 + x) = B x) → (∀ x, x < 6 * a1 → Kw x = Kv x) → L 0 = some (rv h0) → L 1 = some (iv at9) → L 2 = some (iv i) → 7 - i < (N : Int) → S_ p l e (rmD 6 0 0) s m args below meth c (MQ below (QcI D G A Po) args s 0 0 A) D G A 3 0 0 85 L [] [(h0, ob 11 (uF (uF f 25 (iv dy)) 32 (iv a1))), (hQ, ar 30 Q), (hB, ar 6 B), (hK, ar 360 Kw), (hC, ar 1700 C), (hV, ar 1700 V), (hL, ar 5 Lk), (hTf, ar 450 Tf), (hSf, ar 450 Sf), (hEf, ar 450 Ef), (hle, ar 5 Le), (hst, ar 80 Sk)] := by
              intro N
              induction N with
              | zero =>
                intro i Kw L85 hi hkb hkc hL85_0 hL85_1 hL85_2 hN85
                exfalso; omega
              | succ N ih85 =>
                intro i Kw L85 hi hkb hkc hL85_0 hL85_1 hL85_2 hN85
                refine S_iload_n X dX12_day_85 rfl hL85_2 ?_
                refine S_bipush X dX12_day_86 rfl ?_
                refine S_icmp_ge (tgt := 117) X dX12_day_88 (by decide) (by omega) (by decide) (fun c_15 => ?_) (fun c_15 => ?_)
                ·
                  refine S_aload_n X dX12_day_117 rfl hL85_0 ?_
                  refine S_dup X dX12_day_118 ?_
                  refine S_get (v := iv a1) X fgX12_262_11 0 rfl rfl dX12_day_119 ?_
                  refine S_iconst X dX12_day_122 ?_
                  refine S_iadd X dX12_day_123 ?_
                  refine S_put X fpX12_262_11 0 rfl FT_i dX12_day_124 ?_
                  refine S_w (ws' := [(h0, ob 11 (uF (uF f 25 (iv dy)) 32 (iv (a1 + 1)))), (hQ, ar 30 Q), (hB, ar 6 B), (hK, ar 360 Kw), (hC, ar 1700 C), (hV, ar 1700 V), (hL, ar 5 Lk), (hTf, ar 450 Tf), (hSf, ar 450 Sf), (hEf, ar 450 Ef), (hle, ar 5 Le), (hst, ar 80 Sk)]) (by simp only [List.set]; rw [uF_same (k := 32)]) ?_
                  refine S_aload_n X dX12_day_127 rfl hL85_0 ?_
                  refine S_iload_n X dX12_day_128 rfl hL85_1 ?_
                  refine S_aload_n X dX12_day_129 rfl hL85_0 ?_
                  refine S_aload_n X dX12_day_130 rfl hL85_0 ?_
                  refine S_get (v := iv dy) X fgX12_259_11 0 rfl rfl dX12_day_131 ?_
                  refine S_calli X (kX12_dampOf l h0 (uF (uF f 25 (iv dy)) 32 (iv (a1 + 1))) pl mt ho hC hV hL hTf hSf hEf hle hst C V Lk Tf Sf Ef Le Sk cs dy hf0 hf1 hf2 hf3 hf4 hf5 hf6 hf7 hf8 hf9 hf10 (by omega) hho (by omega)) (is := [0, 4, 5, 6, 7, 8, 9, 10, 11]) rfl (run_V X lkX12_297 0 rfl rfl (is := [0, 4, 5, 6, 7, 8, 9, 10, 11]) (avs := [iv dy]) (rest := [iv at9, rv h0]) rfl rfl (nle rfl) ⟨nle rfl, nle rfl⟩ ⟨nle rfl, nle rfl⟩ dX12_day_134 (by decide) rfl) (fun z_18 u_16 hp_17 => ?_)
                  obtain ⟨L2_19, S2_20, hz_21, hu_22⟩ := hp_17
                  subst hz_21
                  subst hu_22
                  refine ⟨rfl, ?_⟩
                  refine S_w (ws' := [(h0, ob 11 (uF (uF f 25 (iv dy)) 32 (iv (a1 + 1)))), (hQ, ar 30 Q), (hB, ar 6 B), (hK, ar 360 Kw), (hC, ar 1700 C), (hV, ar 1700 V), (hL, ar 5 Lk), (hTf, ar 450 Tf), (hSf, ar 450 Sf), (hEf, ar 450 Ef), (hle, ar 5 L2_19), (hst, ar 80 S2_20)]) rfl ?_
                  have hw9 := aDy_in (ho := ho) (cs := cs) (mt := mt) (pl := pl) (d := dy) (by omega)
                  refine S_callv X (kX12_pass l h0 (uF (uF f 25 (iv dy)) 32 (iv (a1 + 1))) pl mt hQ hB Q B at9 (aDy ho cs mt pl dy) hf8 hf11 hf12 hf9 (by omega) hod hB1 (by omega) (by omega)) (is := [0, 1, 2]) rfl (run_V X lkX12_300 0 rfl rfl (is := [0, 1, 2]) (avs := [iv at9, iv (aDy ho cs mt pl dy)]) (rest := []) rfl rfl (nle rfl) ⟨nle rfl, nle rfl⟩ ⟨nle rfl, nle rfl⟩ dX12_day_137 (by decide) rfl) (fun u_23 hp_24 => ?_)
                  obtain ⟨B2_26, hu_28, hB2_29⟩ := hp_24
                  subst hu_28
                  refine ⟨rfl, ?_⟩
                  refine S_w (ws' := [(h0, ob 11 (uF (uF f 25 (iv dy)) 32 (iv (a1 + 1)))), (hQ, ar 30 Q), (hB, ar 6 B2_26), (hK, ar 360 Kw), (hC, ar 1700 C), (hV, ar 1700 V), (hL, ar 5 Lk), (hTf, ar 450 Tf), (hSf, ar 450 Sf), (hEf, ar 450 Ef), (hle, ar 5 L2_19), (hst, ar 80 S2_20)]) rfl ?_
                  have hB9 := hB2_29
                  refine S_aload_n X dX12_day_140 rfl hL85_0 ?_
                  refine S_dup X dX12_day_141 ?_
                  refine S_get (v := iv dy) X fgX12_259_11 0 rfl rfl dX12_day_142 ?_
                  refine S_iconst X dX12_day_145 ?_
                  refine S_iadd X dX12_day_146 ?_
                  refine S_put X fpX12_259_11 0 rfl FT_i dX12_day_147 ?_
                  refine S_w (ws' := [(h0, ob 11 (uF (uF f 25 (iv (dy + 1))) 32 (iv (a1 + 1)))), (hQ, ar 30 Q), (hB, ar 6 B2_26), (hK, ar 360 Kw), (hC, ar 1700 C), (hV, ar 1700 V), (hL, ar 5 Lk), (hTf, ar 450 Tf), (hSf, ar 450 Sf), (hEf, ar 450 Ef), (hle, ar 5 L2_19), (hst, ar 80 S2_20)]) (by simp only [List.set]; rw [uF_mv (j := 32) (k := 25) (by decide), uF_same (k := 25)]) ?_
                  refine S_aload_n X dX12_day_150 rfl hL85_0 ?_
                  refine S_get (v := iv (dy + 1)) X fgX12_259_11 0 rfl rfl dX12_day_151 ?_
                  exact S_iret X (nle rfl) (nle rfl) dX12_day_154 (hPo _ _ (Or.inr ⟨_, _, _, _, _, rfl, rfl, by omega, hB9, by omega, fun x h0 h1 => by rw [show a1 + 1 - 1 = a1 by omega]; exact hkb x h0 (by omega), fun x h0 h1 => (hkc x (by omega)).trans ((hks0 x h0 (by omega)).trans (by rw [show ac + 1 - (a1 + 1) = ac - a1 by omega]))⟩))
                ·
                  refine S_aload_n X dX12_day_91 rfl hL85_0 ?_
                  refine S_get X fgX12_62_11 0 rfl hf13 dX12_day_92 ?_
                  refine S_bipush X dX12_day_95 rfl ?_
                  refine S_aload_n X dX12_day_97 rfl hL85_0 ?_
                  refine S_get (v := iv a1) X fgX12_262_11 0 rfl rfl dX12_day_98 ?_
                  refine S_imul X dX12_day_101 ?_
                  refine S_iload_n X dX12_day_102 rfl hL85_2 ?_
                  refine S_iadd X dX12_day_103 ?_
                  refine S_aload_n X dX12_day_104 rfl hL85_0 ?_
                  refine S_get X fgX12_46_11 0 rfl hf12 dX12_day_105 ?_
                  refine S_iload_n X dX12_day_108 rfl hL85_2 ?_
                  refine S_iald X 2 rfl (by omega) (by omega) (nle rfl) dX12_day_109 ?_
                  refine S_iast X 3 rfl (by omega) (by omega) (nle rfl) dX12_day_110 ?_
                  refine S_w (ws' := [(h0, ob 11 (uF (uF f 25 (iv dy)) 32 (iv a1))), (hQ, ar 30 Q), (hB, ar 6 B), (hK, ar 360 (uZ Kw ((6 * a1) + i) (B i))), (hC, ar 1700 C), (hV, ar 1700 V), (hL, ar 5 Lk), (hTf, ar 450 Tf), (hSf, ar 450 Sf), (hEf, ar 450 Ef), (hle, ar 5 Le), (hst, ar 80 Sk)]) rfl ?_
                  refine S_iinc X dX12_day_111 (nle rfl) hL85_2 ?_
                  refine S_goto (tgt := 85) X dX12_day_114 (by decide) ?_
                  exact ih85 (i + 1) (uZ Kw ((6 * a1) + i) (B i)) _ (by omega) (fun x h0 h1 => (by omega : x < i ∨ x = i).elim (fun q9 => by rw [uZ_ne (by omega)]; exact hkb x h0 q9) (fun q9 => by rw [q9]; exact uZ_at)) (fun x h => by rw [uZ_ne (by omega)]; exact hkc x h) hL85_0 hL85_1 rfl (by omega)
            exact lp85_5 (Int.toNat (7 - 0) + 1) 0 Kv _ (by omega) (fun x h0 h1 => by omega) (fun x h => rfl) hL83_0 hL83_1 rfl (by omega)
          exact lp83_4 ac K _ (by omega) (fun x h0 h1 => by rw [Int.sub_self]; simp) rfl rfl
        ·
          refine S_bipush X dX12_day_42 rfl ?_
          refine S_istore_n X dX12_day_44 rfl (nle rfl) ?_
          have lp45_4 : ∀ (N : Nat) (i : Int) (Kv : Int → Int) (L : Nat → Option AV), 6 ≤ i ∧ i ≤ 360 → (∀ x, 0 ≤ x → x < i - 6 → Kv x = K (x + 6)) → (∀ x, i - 6 ≤ x → Kv x = K x) → L 0 = some (rv h0) → L 1 = some (iv at9) → L 2 = some (iv i) → 361 - i < (N : Int) → S_ p l e (rmD 6 0 0) s m args below meth c (MQ below (QcI D G A Po) args s 0 0 A) D G A 3 0 0 45 L [] [(h0, ob 11 (uF (uF f 25 (iv dy)) 32 (iv ac))), (hQ, ar 30 Q), (hB, ar 6 B), (hK, ar 360 Kv), (hC, ar 1700 C), (hV, ar 1700 V), (hL, ar 5 Lk), (hTf, ar 450 Tf), (hSf, ar 450 Sf), (hEf, ar 450 Ef), (hle, ar 5 Le), (hst, ar 80 Sk)] := by
            intro N
            induction N with
            | zero =>
              intro i Kv L45 hi hk hk2 hL45_0 hL45_1 hL45_2 hN45
              exfalso; omega
            | succ N ih45 =>
              intro i Kv L45 hi hk hk2 hL45_0 hL45_1 hL45_2 hN45
              refine S_iload_n X dX12_day_45 rfl hL45_2 ?_
              refine S_sipush X dX12_day_46 rfl ?_
              refine S_icmp_ge (tgt := 73) X dX12_day_49 (by decide) (by omega) (by decide) (fun c_30 => ?_) (fun c_30 => ?_)
              ·
                refine S_aload_n X dX12_day_73 rfl hL45_0 ?_
                refine S_dup X dX12_day_74 ?_
                refine S_get (v := iv ac) X fgX12_262_11 0 rfl rfl dX12_day_75 ?_
                refine S_iconst X dX12_day_78 ?_
                refine S_isub X dX12_day_79 ?_
                refine S_put X fpX12_262_11 0 rfl FT_i dX12_day_80 ?_
                refine S_w (ws' := [(h0, ob 11 (uF (uF f 25 (iv dy)) 32 (iv (ac - 1)))), (hQ, ar 30 Q), (hB, ar 6 B), (hK, ar 360 Kv), (hC, ar 1700 C), (hV, ar 1700 V), (hL, ar 5 Lk), (hTf, ar 450 Tf), (hSf, ar 450 Sf), (hEf, ar 450 Ef), (hle, ar 5 Le), (hst, ar 80 Sk)]) (by simp only [List.set]; rw [uF_same (k := 32)]) ?_
                have lp83_7 : ∀ (a1 : Int) (Kv : Int → Int) (L : Nat → Option AV), (ac < 60 ∧ a1 = ac) ∨ (ac = 60 ∧ a1 = 59) → (∀ x, 0 ≤ x → x < 6 * a1 → Kv x = K (x + 6 * (ac - a1))) → L 0 = some (rv h0) → L 1 = some (iv at9) → S_ p l e (rmD 6 0 0) s m args below meth c (MQ below (QcI D G A Po) args s 0 0 A) D G A 3 0 0 83 L [] [(h0, ob 11 (uF (uF f 25 (iv dy)) 32 (iv a1))), (hQ, ar 30 Q), (hB, ar 6 B), (hK, ar 360 Kv), (hC, ar 1700 C), (hV, ar 1700 V), (hL, ar 5 Lk), (hTf, ar 450 Tf), (hSf, ar 450 Sf), (hEf, ar 450 Ef), (hle, ar 5 Le), (hst, ar 80 Sk)] := by
                  intro a1 Kv L83 ha1 hks0 hL83_0 hL83_1
                  refine S_iconst X dX12_day_83 ?_
                  refine S_istore_n X dX12_day_84 rfl (nle rfl) ?_
                  have lp85_8 : ∀ (N : Nat) (i : Int) (Kw : Int → Int) (L : Nat → Option AV), 0 ≤ i ∧ i ≤ 6 → (∀ x, 0 ≤ x → x < i → Kw (6 * a1 + x) = B x) → (∀ x, x < 6 * a1 → Kw x = Kv x) → L 0 = some (rv h0) → L 1 = some (iv at9) → L 2 = some (iv i) → 7 - i < (N : Int) → S_ p l e (rmD 6 0 0) s m args below meth c (MQ below (QcI D G A Po) args s 0 0 A) D G A 3 0 0 85 L [] [(h0, ob 11 (uF (uF f 25 (iv dy)) 32 (iv a1))), (hQ, ar 30 Q), (hB, ar 6 B), (hK, ar 360 Kw), (hC, ar 1700 C), (hV, ar 1700 V), (hL, ar 5 Lk), (hTf, ar 450 Tf), (hSf, ar 450 Sf), (hEf, ar 450 Ef), (hle, ar 5 Le), (hst, ar 80 Sk)] := by
                    intro N
                    induction N with
                    | zero =>
                      intro i Kw L85 hi hkb hkc hL85_0 hL85_1 hL85_2 hN85
                      exfalso; omega
                    | succ N ih85 =>
                      intro i Kw L85 hi hkb hkc hL85_0 hL85_1 hL85_2 hN85
                      refine S_iload_n X dX12_day_85 rfl hL85_2 ?_
                      refine S_bipush X dX12_day_86 rfl ?_
                      refine S_icmp_ge (tgt := 117) X dX12_day_88 (by decide) (by omega) (by decide) (fun c_31 => ?_) (fun c_31 => ?_)
                      ·
                        refine S_aload_n X dX12_day_117 rfl hL85_0 ?_
                        refine S_dup X dX12_day_118 ?_
                        refine S_get (v := iv a1) X fgX12_262_11 0 rfl rfl dX12_day_119 ?_
                        refine S_iconst X dX12_day_122 ?_
                        refine S_iadd X dX12_day_123 ?_
                        refine S_put X fpX12_262_11 0 rfl FT_i dX12_day_124 ?_
                        refine S_w (ws' := [(h0, ob 11 (uF (uF f 25 (iv dy)) 32 (iv (a1 + 1)))), (hQ, ar 30 Q), (hB, ar 6 B), (hK, ar 360 Kw), (hC, ar 1700 C), (hV, ar 1700 V), (hL, ar 5 Lk), (hTf, ar 450 Tf), (hSf, ar 450 Sf), (hEf, ar 450 Ef), (hle, ar 5 Le), (hst, ar 80 Sk)]) (by simp only [List.set]; rw [uF_same (k := 32)]) ?_
                        refine S_aload_n X dX12_day_127 rfl hL85_0 ?_
                        refine S_iload_n X dX12_day_128 rfl hL85_1 ?_
                        refine S_aload_n X dX12_day_129 rfl hL85_0 ?_
                        refine S_aload_n X dX12_day_130 rfl hL85_0 ?_
                        refine S_get (v := iv dy) X fgX12_259_11 0 rfl rfl dX12_day_131 ?_
                        refine S_calli X (kX12_dampOf l h0 (uF (uF f 25 (iv dy)) 32 (iv (a1 + 1))) pl mt ho hC hV hL hTf hSf hEf hle hst C V Lk Tf Sf Ef Le Sk cs dy hf0 hf1 hf2 hf3 hf4 hf5 hf6 hf7 hf8 hf9 hf10 (by omega) hho (by omega)) (is := [0, 4, 5, 6, 7, 8, 9, 10, 11]) rfl (run_V X lkX12_297 0 rfl rfl (is := [0, 4, 5, 6, 7, 8, 9, 10, 11]) (avs := [iv dy]) (rest := [iv at9, rv h0]) rfl rfl (nle rfl) ⟨nle rfl, nle rfl⟩ ⟨nle rfl, nle rfl⟩ dX12_day_134 (by decide) rfl) (fun z_34 u_32 hp_33 => ?_)
                        obtain ⟨L2_35, S2_36, hz_37, hu_38⟩ := hp_33
                        subst hz_37
                        subst hu_38
                        refine ⟨rfl, ?_⟩
                        refine S_w (ws' := [(h0, ob 11 (uF (uF f 25 (iv dy)) 32 (iv (a1 + 1)))), (hQ, ar 30 Q), (hB, ar 6 B), (hK, ar 360 Kw), (hC, ar 1700 C), (hV, ar 1700 V), (hL, ar 5 Lk), (hTf, ar 450 Tf), (hSf, ar 450 Sf), (hEf, ar 450 Ef), (hle, ar 5 L2_35), (hst, ar 80 S2_36)]) rfl ?_
                        have hw9 := aDy_in (ho := ho) (cs := cs) (mt := mt) (pl := pl) (d := dy) (by omega)
                        refine S_callv X (kX12_pass l h0 (uF (uF f 25 (iv dy)) 32 (iv (a1 + 1))) pl mt hQ hB Q B at9 (aDy ho cs mt pl dy) hf8 hf11 hf12 hf9 (by omega) hod hB1 (by omega) (by omega)) (is := [0, 1, 2]) rfl (run_V X lkX12_300 0 rfl rfl (is := [0, 1, 2]) (avs := [iv at9, iv (aDy ho cs mt pl dy)]) (rest := []) rfl rfl (nle rfl) ⟨nle rfl, nle rfl⟩ ⟨nle rfl, nle rfl⟩ dX12_day_137 (by decide) rfl) (fun u_39 hp_40 => ?_)
                        obtain ⟨B2_42, hu_44, hB2_45⟩ := hp_40
                        subst hu_44
                        refine ⟨rfl, ?_⟩
                        refine S_w (ws' := [(h0, ob 11 (uF (uF f 25 (iv dy)) 32 (iv (a1 + 1)))), (hQ, ar 30 Q), (hB, ar 6 B2_42), (hK, ar 360 Kw), (hC, ar 1700 C), (hV, ar 1700 V), (hL, ar 5 Lk), (hTf, ar 450 Tf), (hSf, ar 450 Sf), (hEf, ar 450 Ef), (hle, ar 5 L2_35), (hst, ar 80 S2_36)]) rfl ?_
                        have hB9 := hB2_45
                        refine S_aload_n X dX12_day_140 rfl hL85_0 ?_
                        refine S_dup X dX12_day_141 ?_
                        refine S_get (v := iv dy) X fgX12_259_11 0 rfl rfl dX12_day_142 ?_
                        refine S_iconst X dX12_day_145 ?_
                        refine S_iadd X dX12_day_146 ?_
                        refine S_put X fpX12_259_11 0 rfl FT_i dX12_day_147 ?_
                        refine S_w (ws' := [(h0, ob 11 (uF (uF f 25 (iv (dy + 1))) 32 (iv (a1 + 1)))), (hQ, ar 30 Q), (hB, ar 6 B2_42), (hK, ar 360 Kw), (hC, ar 1700 C), (hV, ar 1700 V), (hL, ar 5 Lk), (hTf, ar 450 Tf), (hSf, ar 450 Sf), (hEf, ar 450 Ef), (hle, ar 5 L2_35), (hst, ar 80 S2_36)]) (by simp only [List.set]; rw [uF_mv (j := 32) (k := 25) (by decide), uF_same (k := 25)]) ?_
                        refine S_aload_n X dX12_day_150 rfl hL85_0 ?_
                        refine S_get (v := iv (dy + 1)) X fgX12_259_11 0 rfl rfl dX12_day_151 ?_
                        exact S_iret X (nle rfl) (nle rfl) dX12_day_154 (hPo _ _ (Or.inr ⟨_, _, _, _, _, rfl, rfl, by omega, hB9, by omega, fun x h0 h1 => by rw [show a1 + 1 - 1 = a1 by omega]; exact hkb x h0 (by omega), fun x h0 h1 => (hkc x (by omega)).trans ((hks0 x h0 (by omega)).trans (by rw [show ac + 1 - (a1 + 1) = ac - a1 by omega]))⟩))
                      ·
                        refine S_aload_n X dX12_day_91 rfl hL85_0 ?_
                        refine S_get X fgX12_62_11 0 rfl hf13 dX12_day_92 ?_
                        refine S_bipush X dX12_day_95 rfl ?_
                        refine S_aload_n X dX12_day_97 rfl hL85_0 ?_
                        refine S_get (v := iv a1) X fgX12_262_11 0 rfl rfl dX12_day_98 ?_
                        refine S_imul X dX12_day_101 ?_
                        refine S_iload_n X dX12_day_102 rfl hL85_2 ?_
                        refine S_iadd X dX12_day_103 ?_
                        refine S_aload_n X dX12_day_104 rfl hL85_0 ?_
                        refine S_get X fgX12_46_11 0 rfl hf12 dX12_day_105 ?_
                        refine S_iload_n X dX12_day_108 rfl hL85_2 ?_
                        refine S_iald X 2 rfl (by omega) (by omega) (nle rfl) dX12_day_109 ?_
                        refine S_iast X 3 rfl (by omega) (by omega) (nle rfl) dX12_day_110 ?_
                        refine S_w (ws' := [(h0, ob 11 (uF (uF f 25 (iv dy)) 32 (iv a1))), (hQ, ar 30 Q), (hB, ar 6 B), (hK, ar 360 (uZ Kw ((6 * a1) + i) (B i))), (hC, ar 1700 C), (hV, ar 1700 V), (hL, ar 5 Lk), (hTf, ar 450 Tf), (hSf, ar 450 Sf), (hEf, ar 450 Ef), (hle, ar 5 Le), (hst, ar 80 Sk)]) rfl ?_
                        refine S_iinc X dX12_day_111 (nle rfl) hL85_2 ?_
                        refine S_goto (tgt := 85) X dX12_day_114 (by decide) ?_
                        exact ih85 (i + 1) (uZ Kw ((6 * a1) + i) (B i)) _ (by omega) (fun x h0 h1 => (by omega : x < i ∨ x = i).elim (fun q9 => by rw [uZ_ne (by omega)]; exact hkb x h0 q9) (fun q9 => by rw [q9]; exact uZ_at)) (fun x h => by rw [uZ_ne (by omega)]; exact hkc x h) hL85_0 hL85_1 rfl (by omega)
                  exact lp85_8 (Int.toNat (7 - 0) + 1) 0 Kv _ (by omega) (fun x h0 h1 => by omega) (fun x h => rfl) hL83_0 hL83_1 rfl (by omega)
                exact lp83_7 (ac - 1) Kv _ (by omega) (fun x h0 h1 => (hk x h0 (by omega)).trans (by rw [show 6 * (ac - (ac - 1)) = 6 by omega])) hL45_0 hL45_1
              ·
                refine S_aload_n X dX12_day_52 rfl hL45_0 ?_
                refine S_get X fgX12_62_11 0 rfl hf13 dX12_day_53 ?_
                refine S_iload_n X dX12_day_56 rfl hL45_2 ?_
                refine S_bipush X dX12_day_57 rfl ?_
                refine S_isub X dX12_day_59 ?_
                refine S_aload_n X dX12_day_60 rfl hL45_0 ?_
                refine S_get X fgX12_62_11 0 rfl hf13 dX12_day_61 ?_
                refine S_iload_n X dX12_day_64 rfl hL45_2 ?_
                refine S_iald X 3 rfl (by omega) (by omega) (nle rfl) dX12_day_65 ?_
                refine S_iast X 3 rfl (by omega) (by omega) (nle rfl) dX12_day_66 ?_
                refine S_w (ws' := [(h0, ob 11 (uF (uF f 25 (iv dy)) 32 (iv ac))), (hQ, ar 30 Q), (hB, ar 6 B), (hK, ar 360 (uZ Kv (i - 6) (Kv i))), (hC, ar 1700 C), (hV, ar 1700 V), (hL, ar 5 Lk), (hTf, ar 450 Tf), (hSf, ar 450 Sf), (hEf, ar 450 Ef), (hle, ar 5 Le), (hst, ar 80 Sk)]) rfl ?_
                refine S_iinc X dX12_day_67 (nle rfl) hL45_2 ?_
                refine S_goto (tgt := 45) X dX12_day_70 (by decide) ?_
                exact ih45 (i + 1) (uZ Kv (i - 6) (Kv i)) _ (by omega) (fun x h0 h1 => (by omega : x < i - 6 ∨ x = i - 6).elim (fun q9 => by rw [uZ_ne (by omega)]; exact hk x h0 q9) (fun q9 => by rw [q9, uZ_at, hk2 i (by omega)]; congr 1; omega)) (fun x h => by rw [uZ_ne (by omega)]; exact hk2 x (by omega)) hL45_0 hL45_1 rfl (by omega)
          exact lp45_4 (Int.toNat (361 - 6) + 1) 6 K _ (by omega) (fun x h0 h1 => by omega) (fun x h => rfl) rfl rfl rfl (by omega)
      ·
        refine S_iconst X dX12_day_31 ?_
        exact S_iret X (nle rfl) (nle rfl) dX12_day_32 (hPo _ _ (Or.inl ⟨rfl, rfl, by omega⟩))
set_option maxHeartbeats 4000000 in
set_option maxRecDepth 100000 in
theorem kX12_gift (l : Launch) (h0 : Nat) (f : Nat → AV) (pl : Int) (n : Int) (ec : Int) (mk : Int) (hQ : Nat) (hB : Nat) (hE : Nat) (hA : Nat) (hM : Nat) (hW : Nat) (Q : Int → Int) (B : Int → Int) (E : Int → Int) (Ab : Int → Int) (Mt : Int → Int) (Wt : Int → Int) (v : Int) (mt : Int) (ho : Int) (dy : Int) (hC : Nat) (hV : Nat) (hL : Nat) (hTf : Nat) (hSf : Nat) (hEf : Nat) (hle : Nat) (hst : Nat) (C : Int → Int) (V : Int → Int) (Lk : Int → Int) (Tf : Int → Int) (Sf : Int → Int) (Ef : Int → Int) (Le : Int → Int) (Sk : Int → Int) (cs : List (List Int × List Int)) (hwb : Nat) (Wb : Int → Int) (hf0 : f 21 = iv pl) (hf1 : f 28 = iv n) (hf2 : f 29 = iv ec) (hf3 : f 26 = iv mk) (hf4 : f 20 = rv hQ) (hf5 : f 23 = rv hB) (hf6 : f 24 = rv hE) (hf7 : f 33 = rv hA) (hf8 : f 34 = rv hM) (hf9 : f 35 = rv hW) (hf10 : f 22 = iv mt) (hf11 : f 27 = iv ho) (hf12 : f 25 = iv dy) (hf13 : f 36 = rv hwb) (hf14 : f 6 = rv hC) (hf15 : f 7 = rv hV) (hf16 : f 9 = rv hL) (hf17 : f 10 = rv hTf) (hf18 : f 11 = rv hSf) (hf19 : f 12 = rv hEf) (hf20 : f 15 = rv hle) (hf21 : f 16 = rv hst) (hz : okZ pl n ec (c5 Q 3) (c5 Q 4) B E) (hx_v : inR v) (hpm : (0 ≤ pl ∧ pl ≤ 6) ∧ 1 ≤ mt ∧ mt ≤ 99) (hho : ho = -1 ∨ (0 ≤ ho ∧ ho ≤ 3 ∧ lawAt C V Lk Tf Sf Ef ho cs)) (hod : okDy pl mt (c5 Q 2) (c5 Q 1)) (hdy : 0 ≤ dy ∧ dy ≤ 1000) : AMi l yX12_gift cX12_gift 7 .int 6 0 0 [rv h0, iv v] [(h0, ob 11 f), (hQ, ar 30 Q), (hB, ar 6 B), (hE, ar 6 E), (hA, ar 1206 Ab), (hM, ar 180 Mt), (hW, ar 180 Wt), (hwb, ar 42 Wb), (hC, ar 1700 C), (hV, ar 1700 V), (hL, ar 5 Lk), (hTf, ar 450 Tf), (hSf, ar 450 Sf), (hEf, ar 450 Ef), (hle, ar 5 Le), (hst, ar 80 Sk)] (fun z u => ∃ A2 : Int → Int, ∃ M2 : Int → Int, ∃ W2 : Int → Int, ∃ Wb2 : Int → Int, ∃ L2 : Int → Int, ∃ S2 : Int → Int, z = aGift pl n ec mk mt dy (c5 Q 3) (c5 Q 4) B E (c5 Q 2) (c5 Q 1) (aDy ho cs mt pl dy) v ∧ u = [(h0, ob 11 f), (hQ, ar 30 Q), (hB, ar 6 B), (hE, ar 6 E), (hA, ar 1206 A2), (hM, ar 180 M2), (hW, ar 180 W2), (hwb, ar 42 Wb2), (hC, ar 1700 C), (hV, ar 1700 V), (hL, ar 5 Lk), (hTf, ar 450 Tf), (hSf, ar 450 Sf), (hEf, ar 450 Ef), (hle, ar 5 L2), (hst, ar 80 S2)]) := by
  refine AMi.of2 rfl (nle rfl) ?_
  intro D G A p e s m args below meth c Po hPo X
  have hz6 := hz.2.1
  have hz0 := hz.1
  have hzn := hz.2.2.1
  have hzm := hz.2.2.2.1
  have hze := hz.2.2.2.2
  refine S_aload_n X dX12_gift_0 rfl rfl ?_
  refine S_get X fgX12_253_11 0 rfl hf0 dX12_gift_1 ?_
  refine S_if_eq (tgt := 26) X dX12_gift_4 (by decide) (by omega) (fun c_1 => ?_) (fun c_1 => ?_)
  ·
    refine S_iconst X dX12_gift_26 ?_
    exact S_iret X (nle rfl) (nle rfl) dX12_gift_27 (hPo _ _ (⟨_, _, _, _, _, _, by unfold aGift; rw [if_neg (by omega)], rfl⟩))
  ·
    refine S_iload_n X dX12_gift_7 rfl rfl ?_
    refine S_iconst X dX12_gift_8 ?_
    refine S_iconst X dX12_gift_9 ?_
    refine S_calli X (kX12_in l v 0 1 (by omega) (by omega) (by omega)) (is := []) rfl (run_S X lkX12_216 (is := []) (avs := [iv v, iv 0, iv 1]) (rest := []) rfl rfl (nle rfl) ⟨nle rfl, nle rfl⟩ ⟨nle rfl, nle rfl⟩ dX12_gift_10 (by decide) rfl) (fun z_4 u_2 hp_3 => ?_)
    rcases hp_3 with ⟨hz_5, hu_6, hq_7⟩ | ⟨hz_8, hu_9, hq_10⟩
    ·
      subst hz_5
      subst hu_6
      refine ⟨rfl, ?_⟩
      refine S_w (ws' := [(h0, ob 11 f), (hQ, ar 30 Q), (hB, ar 6 B), (hE, ar 6 E), (hA, ar 1206 Ab), (hM, ar 180 Mt), (hW, ar 180 Wt), (hwb, ar 42 Wb), (hC, ar 1700 C), (hV, ar 1700 V), (hL, ar 5 Lk), (hTf, ar 450 Tf), (hSf, ar 450 Sf), (hEf, ar 450 Ef), (hle, ar 5 Le), (hst, ar 80 Sk)]) rfl ?_
      refine S_if_eq (tgt := 26) X dX12_gift_13 (by decide) (by decide) (fun _ => ?_) (fun h9 => absurd h9 (by decide))
      refine S_iconst X dX12_gift_26 ?_
      exact S_iret X (nle rfl) (nle rfl) dX12_gift_27 (hPo _ _ (⟨_, _, _, _, _, _, by unfold aGift; rw [if_neg (by omega)], rfl⟩))
    ·
      subst hz_8
      subst hu_9
      refine ⟨rfl, ?_⟩
      refine S_w (ws' := [(h0, ob 11 f), (hQ, ar 30 Q), (hB, ar 6 B), (hE, ar 6 E), (hA, ar 1206 Ab), (hM, ar 180 Mt), (hW, ar 180 Wt), (hwb, ar 42 Wb), (hC, ar 1700 C), (hV, ar 1700 V), (hL, ar 5 Lk), (hTf, ar 450 Tf), (hSf, ar 450 Sf), (hEf, ar 450 Ef), (hle, ar 5 Le), (hst, ar 80 Sk)]) rfl ?_
      refine S_if_eq (tgt := 26) X dX12_gift_13 (by decide) (by decide) (fun h9 => absurd h9 (by decide)) (fun _ => ?_)
      refine S_aload_n X dX12_gift_16 rfl rfl ?_
      refine S_get X fgX12_259_11 0 rfl hf12 dX12_gift_17 ?_
      refine S_sipush X dX12_gift_20 rfl ?_
      refine S_icmp_le (tgt := 28) X dX12_gift_23 (by decide) (by omega) (by decide) (fun c_13 => ?_) (fun c_13 => ?_)
      ·
        have hok := hz.s (by omega)
        have hpl := hok.2.1
        have hpl1 := hok.1
        have hn1 := hok.2.2.1
        have hn2 := hok.2.2.2.1
        have hec := hok.2.2.2.2
        refine S_aload_n X dX12_gift_28 rfl rfl ?_
        refine S_aload_n X dX12_gift_29 rfl rfl ?_
        refine S_get X fgX12_259_11 0 rfl hf12 dX12_gift_30 ?_
        refine S_calli X (kX12_dampOf l h0 f pl mt ho hC hV hL hTf hSf hEf hle hst C V Lk Tf Sf Ef Le Sk cs dy hf14 hf15 hf16 hf17 hf18 hf19 hf20 hf21 hf0 hf10 hf11 (by omega) hho (by omega)) (is := [0, 8, 9, 10, 11, 12, 13, 14, 15]) rfl (run_V X lkX12_297 0 rfl rfl (is := [0, 8, 9, 10, 11, 12, 13, 14, 15]) (avs := [iv dy]) (rest := []) rfl rfl (nle rfl) ⟨nle rfl, nle rfl⟩ ⟨nle rfl, nle rfl⟩ dX12_gift_33 (by decide) rfl) (fun z_16 u_14 hp_15 => ?_)
        obtain ⟨L2_17, S2_18, hz_19, hu_20⟩ := hp_15
        subst hz_19
        subst hu_20
        refine ⟨rfl, ?_⟩
        refine S_w (ws' := [(h0, ob 11 f), (hQ, ar 30 Q), (hB, ar 6 B), (hE, ar 6 E), (hA, ar 1206 Ab), (hM, ar 180 Mt), (hW, ar 180 Wt), (hwb, ar 42 Wb), (hC, ar 1700 C), (hV, ar 1700 V), (hL, ar 5 Lk), (hTf, ar 450 Tf), (hSf, ar 450 Sf), (hEf, ar 450 Ef), (hle, ar 5 L2_17), (hst, ar 80 S2_18)]) rfl ?_
        have hw9 := aDy_in (ho := ho) (cs := cs) (mt := mt) (pl := pl) (d := dy) (by omega)
        refine S_istore_n X dX12_gift_36 rfl (nle rfl) ?_
        refine S_aload_n X dX12_gift_37 rfl rfl ?_
        refine S_iconst X dX12_gift_38 ?_
        refine S_callv X (kX12_keepBeats l h0 f pl hB B hwb Wb 0 hf0 hf5 hf13 (by omega) (by omega)) (is := [0, 2, 7]) rfl (run_V X lkX12_336 0 rfl rfl (is := [0, 2, 7]) (avs := [iv 0]) (rest := []) rfl rfl (nle rfl) ⟨nle rfl, nle rfl⟩ ⟨nle rfl, nle rfl⟩ dX12_gift_39 (by decide) rfl) (fun u_21 hp_22 => ?_)
        obtain ⟨Wb2_24, hu_26, hW2_27, hW3_28⟩ := hp_22
        subst hu_26
        refine ⟨rfl, ?_⟩
        refine S_w (ws' := [(h0, ob 11 f), (hQ, ar 30 Q), (hB, ar 6 B), (hE, ar 6 E), (hA, ar 1206 Ab), (hM, ar 180 Mt), (hW, ar 180 Wt), (hwb, ar 42 Wb2_24), (hC, ar 1700 C), (hV, ar 1700 V), (hL, ar 5 Lk), (hTf, ar 450 Tf), (hSf, ar 450 Sf), (hEf, ar 450 Ef), (hle, ar 5 L2_17), (hst, ar 80 S2_18)]) rfl ?_
        have hKB := hW2_27
        refine S_iconst X dX12_gift_42 ?_
        refine S_istore_n X dX12_gift_43 rfl (nle rfl) ?_
        refine S_iconst X dX12_gift_44 ?_
        refine S_istore X dX12_gift_45 (nle rfl) ?_
        refine S_iconst X dX12_gift_47 ?_
        refine S_istore X dX12_gift_48 (nle rfl) ?_
        have lp50_3 : ∀ (N : Nat) (q : Int) (be : Int) (le : Int) (Bv : Int → Int) (Aw : Int → Int) (Mw : Int → Int) (Ww : Int → Int) (L : Nat → Option AV), 0 ≤ q ∧ q ≤ pl → -1 ≤ be ∧ be ≤ 6 → Bv = B → q = 0 ∧ be = -1 ∧ le = 0 ∨ 1 ≤ q ∧ be = amI (fun a => -(fun a9 => WO pl n ec mk (c5 Q 3) (c5 Q 4) (paF (c5 Q 2) (c5 Q 1) mt a9 (aDy ho cs mt pl dy) pl B) E) a) q ∧ le = (fun a9 => WO pl n ec mk (c5 Q 3) (c5 Q 4) (paF (c5 Q 2) (c5 Q 1) mt a9 (aDy ho cs mt pl dy) pl B) E) be ∧ 0 ≤ le ∧ le ≤ 7470 ∧ 0 ≤ be → L 0 = some (rv h0) → L 1 = some (iv v) → L 2 = some (iv (aDy ho cs mt pl dy)) → L 3 = some (iv be) → L 4 = some (iv le) → L 5 = some (iv q) → pl + 1 - q < (N : Int) → S_ p l e (rmD 6 0 0) s m args below meth c (MQ below (QcI D G A Po) args s 0 0 A) D G A 7 0 0 50 L [] [(h0, ob 11 f), (hQ, ar 30 Q), (hB, ar 6 Bv), (hE, ar 6 E), (hA, ar 1206 Aw), (hM, ar 180 Mw), (hW, ar 180 Ww), (hwb, ar 42 Wb2_24), (hC, ar 1700 C), (hV, ar 1700 V), (hL, ar 5 Lk), (hTf, ar 450 Tf), (hSf, ar 450 Sf), (hEf, ar 450 Ef), (hle, ar 5 L2_17), (hst, ar 80 S2_18)] := by
          intro N
          induction N with
          | zero =>
            intro q be le Bv Aw Mw Ww L50 hq hbr hBv hbe hL50_0 hL50_1 hL50_2 hL50_3 hL50_4 hL50_5 hN50
            exfalso; omega
          | succ N ih50 =>
            intro q be le Bv Aw Mw Ww L50 hq hbr hBv hbe hL50_0 hL50_1 hL50_2 hL50_3 hL50_4 hL50_5 hN50
            refine S_iload X dX12_gift_50 hL50_5 ?_
            refine S_aload_n X dX12_gift_52 rfl hL50_0 ?_
            refine S_get X fgX12_253_11 0 rfl hf0 dX12_gift_53 ?_
            refine S_icmp_ge (tgt := 102) X dX12_gift_56 (by decide) (by omega) (by omega) (fun c_29 => ?_) (fun c_29 => ?_)
            ·
              refine S_iload_n X dX12_gift_102 rfl hL50_1 ?_
              refine S_if_ne (tgt := 110) X dX12_gift_103 (by decide) (by omega) (fun c_30 => ?_) (fun c_30 => ?_)
              ·
                refine S_iload X dX12_gift_110 hL50_4 ?_
                exact S_iret X (nle rfl) (nle rfl) dX12_gift_112 (hPo _ _ (⟨_, _, _, _, _, _, by unfold aGift; rw [if_pos (by omega), if_neg (by omega)]; rcases hbe with h9 | h9; (exfalso; omega); rw [h9.2.2.1, h9.2.1, show q = pl by omega], by rw [hBv]⟩))
              ·
                refine S_iload_n X dX12_gift_106 rfl hL50_3 ?_
                refine S_goto (tgt := 112) X dX12_gift_107 (by decide) ?_
                exact S_iret X (nle rfl) (nle rfl) dX12_gift_112 (hPo _ _ (⟨_, _, _, _, _, _, by unfold aGift; rw [if_pos (by omega), if_pos (by omega)]; rcases hbe with h9 | h9; (exfalso; omega); rw [h9.2.1, show q = pl by omega], by rw [hBv]⟩))
            ·
              refine S_aload_n X dX12_gift_59 rfl hL50_0 ?_
              refine S_iload X dX12_gift_60 hL50_5 ?_
              refine S_iload_n X dX12_gift_62 rfl hL50_2 ?_
              refine S_callv X (kX12_pass l h0 f pl mt hQ hB Q Bv q (aDy ho cs mt pl dy) hf0 hf4 hf5 hf10 (by omega) hod (by rw [hBv]; exact fun p h0 h1 => (hok.2.2.2.2.2.2 p h0 h1).2.2.1) (by omega) (by omega)) (is := [0, 1, 2]) rfl (run_V X lkX12_300 0 rfl rfl (is := [0, 1, 2]) (avs := [iv q, iv (aDy ho cs mt pl dy)]) (rest := []) rfl rfl (nle rfl) ⟨nle rfl, nle rfl⟩ ⟨nle rfl, nle rfl⟩ dX12_gift_63 (by decide) rfl) (fun u_31 hp_32 => ?_)
              obtain ⟨B2_34, hu_36, hB2_37⟩ := hp_32
              subst hu_36
              refine ⟨rfl, ?_⟩
              refine S_w (ws' := [(h0, ob 11 f), (hQ, ar 30 Q), (hB, ar 6 B2_34), (hE, ar 6 E), (hA, ar 1206 Aw), (hM, ar 180 Mw), (hW, ar 180 Ww), (hwb, ar 42 Wb2_24), (hC, ar 1700 C), (hV, ar 1700 V), (hL, ar 5 Lk), (hTf, ar 450 Tf), (hSf, ar 450 Sf), (hEf, ar 450 Ef), (hle, ar 5 L2_17), (hst, ar 80 S2_18)]) rfl ?_
              have hB9 := hB2_37
              refine S_aload_n X dX12_gift_66 rfl hL50_0 ?_
              refine S_calli X (kX12_worstNow l h0 f pl n ec mk hQ hB hE hA hM hW Q B2_34 E Aw Mw Ww hf0 hf1 hf2 hf3 hf4 hf5 hf6 hf7 hf8 hf9 (by rw [hB9, hBv]; exact hok.pa hod)) (is := [0, 1, 2, 3, 4, 5, 6]) rfl (run_V X lkX12_321 0 rfl rfl (is := [0, 1, 2, 3, 4, 5, 6]) (avs := []) (rest := []) rfl rfl (nle rfl) ⟨nle rfl, nle rfl⟩ ⟨nle rfl, nle rfl⟩ dX12_gift_67 (by decide) rfl) (fun z_40 u_38 hp_39 => ?_)
              obtain ⟨A2_41, M2_42, W2_43, hz_44, hu_45⟩ := hp_39
              subst hz_44
              subst hu_45
              refine ⟨rfl, ?_⟩
              refine S_w (ws' := [(h0, ob 11 f), (hQ, ar 30 Q), (hB, ar 6 B2_34), (hE, ar 6 E), (hA, ar 1206 A2_41), (hM, ar 180 M2_42), (hW, ar 180 W2_43), (hwb, ar 42 Wb2_24), (hC, ar 1700 C), (hV, ar 1700 V), (hL, ar 5 Lk), (hTf, ar 450 Tf), (hSf, ar 450 Sf), (hEf, ar 450 Ef), (hle, ar 5 L2_17), (hst, ar 80 S2_18)]) rfl ?_
              have hv9 : WO pl n ec mk (c5 Q 3) (c5 Q 4) B2_34 E = WO pl n ec mk (c5 Q 3) (c5 Q 4) (paF (c5 Q 2) (c5 Q 1) mt q (aDy ho cs mt pl dy) pl B) E := by rw [hB9, hBv]
              have hwr := (hok.pa (at9 := q) (wet := aDy ho cs mt pl dy) hod).worst (mk := mk)
              refine S_istore X dX12_gift_70 (nle rfl) ?_
              refine S_aload_n X dX12_gift_72 rfl hL50_0 ?_
              refine S_iconst X dX12_gift_73 ?_
              refine S_callv X (kX12_takeBeats l h0 f pl hB B2_34 hwb Wb2_24 0 hf0 hf5 hf13 (by omega) (by omega)) (is := [0, 2, 7]) rfl (run_V X lkX12_342 0 rfl rfl (is := [0, 2, 7]) (avs := [iv 0]) (rest := []) rfl rfl (nle rfl) ⟨nle rfl, nle rfl⟩ ⟨nle rfl, nle rfl⟩ dX12_gift_74 (by decide) rfl) (fun u_46 hp_47 => ?_)
              obtain ⟨B2_49, hu_51, hB2_52, hB3_53⟩ := hp_47
              subst hu_51
              refine ⟨rfl, ?_⟩
              refine S_w (ws' := [(h0, ob 11 f), (hQ, ar 30 Q), (hB, ar 6 B2_49), (hE, ar 6 E), (hA, ar 1206 A2_41), (hM, ar 180 M2_42), (hW, ar 180 W2_43), (hwb, ar 42 Wb2_24), (hC, ar 1700 C), (hV, ar 1700 V), (hL, ar 5 Lk), (hTf, ar 450 Tf), (hSf, ar 450 Sf), (hEf, ar 450 Ef), (hle, ar 5 L2_17), (hst, ar 80 S2_18)]) rfl ?_
              refine S_iload_n X dX12_gift_77 rfl hL50_3 ?_
              refine S_iconst X dX12_gift_78 ?_
              refine S_icmp_eq (tgt := 89) X dX12_gift_79 (by decide) (by omega) (by decide) (fun c_54 => ?_) (fun c_54 => ?_)
              ·
                refine S_iload X dX12_gift_89 hL50_5 ?_
                refine S_istore_n X dX12_gift_91 rfl (nle rfl) ?_
                refine S_iload X dX12_gift_92 rfl ?_
                refine S_istore X dX12_gift_94 (nle rfl) ?_
                refine S_iinc X dX12_gift_96 (nle rfl) hL50_5 ?_
                refine S_goto (tgt := 50) X dX12_gift_99 (by decide) ?_
                exact ih50 (q + 1) q (WO pl n ec mk (c5 Q 3) (c5 Q 4) B2_34 E) B2_49 A2_41 M2_42 W2_43 _ (by omega) (by omega) (pa_back (pl := pl) (W := fun x => Wb2_24 (6 * 0 + x)) (fun x h0 h1 => hB2_52 x h0 h1) (fun x h => by rw [hB3_53 x h, hB9, hBv]) (fun x h0 h1 => hKB x h0 h1)) (am_step (W := (fun a9 => WO pl n ec mk (c5 Q 3) (c5 Q 4) (paF (c5 Q 2) (c5 Q 1) mt a9 (aDy ho cs mt pl dy) pl B) E)) (by omega) hbe hv9 (by omega) (by exact Or.inl ⟨rfl, rfl, by omega⟩)) hL50_0 hL50_1 hL50_2 rfl rfl rfl (by omega)
              ·
                refine S_iload X dX12_gift_82 rfl ?_
                refine S_iload X dX12_gift_84 hL50_4 ?_
                refine S_icmp_ge (tgt := 96) X dX12_gift_86 (by decide) (by omega) (by omega) (fun c_55 => ?_) (fun c_55 => ?_)
                ·
                  refine S_iinc X dX12_gift_96 (nle rfl) hL50_5 ?_
                  refine S_goto (tgt := 50) X dX12_gift_99 (by decide) ?_
                  exact ih50 (q + 1) be le B2_49 A2_41 M2_42 W2_43 _ (by omega) (by omega) (pa_back (pl := pl) (W := fun x => Wb2_24 (6 * 0 + x)) (fun x h0 h1 => hB2_52 x h0 h1) (fun x h => by rw [hB3_53 x h, hB9, hBv]) (fun x h0 h1 => hKB x h0 h1)) (am_step (W := (fun a9 => WO pl n ec mk (c5 Q 3) (c5 Q 4) (paF (c5 Q 2) (c5 Q 1) mt a9 (aDy ho cs mt pl dy) pl B) E)) (by omega) hbe hv9 (by omega) (by exact Or.inr ⟨rfl, rfl, by omega⟩)) hL50_0 hL50_1 hL50_2 hL50_3 hL50_4 rfl (by omega)
                ·
                  refine S_iload X dX12_gift_89 hL50_5 ?_
                  refine S_istore_n X dX12_gift_91 rfl (nle rfl) ?_
                  refine S_iload X dX12_gift_92 rfl ?_
                  refine S_istore X dX12_gift_94 (nle rfl) ?_
                  refine S_iinc X dX12_gift_96 (nle rfl) hL50_5 ?_
                  refine S_goto (tgt := 50) X dX12_gift_99 (by decide) ?_
                  exact ih50 (q + 1) q (WO pl n ec mk (c5 Q 3) (c5 Q 4) B2_34 E) B2_49 A2_41 M2_42 W2_43 _ (by omega) (by omega) (pa_back (pl := pl) (W := fun x => Wb2_24 (6 * 0 + x)) (fun x h0 h1 => hB2_52 x h0 h1) (fun x h => by rw [hB3_53 x h, hB9, hBv]) (fun x h0 h1 => hKB x h0 h1)) (am_step (W := (fun a9 => WO pl n ec mk (c5 Q 3) (c5 Q 4) (paF (c5 Q 2) (c5 Q 1) mt a9 (aDy ho cs mt pl dy) pl B) E)) (by omega) hbe hv9 (by omega) (by exact Or.inl ⟨rfl, rfl, by omega⟩)) hL50_0 hL50_1 hL50_2 rfl rfl rfl (by omega)
        exact lp50_3 (Int.toNat (pl + 1 - 0) + 1) 0 (-1) 0 B Ab Mt Wt _ (by omega) (by omega) (rfl) (Or.inl ⟨rfl, rfl, rfl⟩) rfl rfl rfl rfl rfl rfl (by omega)
      ·
        refine S_iconst X dX12_gift_26 ?_
        exact S_iret X (nle rfl) (nle rfl) dX12_gift_27 (hPo _ _ (⟨_, _, _, _, _, _, by unfold aGift; rw [if_neg (by omega)], rfl⟩))
