theorem ch_in {T : Int → Int} {n a : Int} (hT : okT T n) (ha : 0 ≤ a) : 0 ≤ ch T n a ∧ ch T n a ≤ 255 := by
  unfold ch
  split
  · next h => have := hT.2.2 a ha h; omega
  · omega
theorem ch_0 {T : Int → Int} {n a : Int} (hT : okT T n) (ha : 0 ≤ a) (h : ch T n a = 0) : n ≤ a := by
  unfold ch at h
  split at h
  · next h2 => have := hT.2.2 a ha h2; omega
  · omega
theorem numF_dig {T : Int → Int} {n dg st a v : Int} {k : Nat} (h : a < n ∧ 48 ≤ T a ∧ T a ≤ 57) (h2 : ¬ dg ≤ a - st) : numF T n dg st (k + 1) a v = numF T n dg st k (a + 1) (v * 10 + T a - 48) := by
  rw [numF, if_pos h, if_neg h2]
theorem numF_big {T : Int → Int} {n dg st a v : Int} {k : Nat} (h : a < n ∧ 48 ≤ T a ∧ T a ≤ 57) (h2 : dg ≤ a - st) : numF T n dg st (k + 1) a v = .inl a := by
  rw [numF, if_pos h, if_pos h2]
theorem numF_end {T : Int → Int} {n dg st a v : Int} {k : Nat} (h : ¬ (a < n ∧ 48 ≤ T a ∧ T a ≤ 57)) : numF T n dg st (k + 1) a v = .inr (a, v) := by
  rw [numF, if_neg h]
theorem numE_o {lo hi a v : Int} (h : v < lo ∨ hi < v) : numE lo hi (.inr (a, v)) = .inl (a - 1) := if_pos h
theorem numE_i {lo hi a v : Int} (h : ¬ (v < lo ∨ hi < v)) : numE lo hi (.inr (a, v)) = .inr (a, v) := if_neg h
theorem fuel6 {k : Int} (h0 : 0 ≤ k) (h : k ≤ 5) : 6 - k.toNat = (5 - k.toNat) + 1 := by omega
def colR (R : Int → Int → Int) (k : Int) : Int → Int := fun j => R j k
theorem colR_put {R : Int → Int → Int} {p k : Int} {r : Int → Int} : colR (uZ R p r) k = uZ (colR R k) p (r k) := by
  funext j
  unfold colR uZ
  split <;> rfl
theorem uZ_self {α : Type} {f : Int → α} {k : Int} : uZ f k (f k) = f := by
  funext j
  unfold uZ
  split
  · next h => rw [h]
  · rfl
theorem uZ_same {α : Type} {f : Int → α} {k : Int} {a b : α} : uZ (uZ f k a) k b = uZ f k b := by
  funext j
  unfold uZ
  split <;> rfl
theorem gT_in {i : Int} (h : 0 ≤ i ∧ i ≤ 4) : 0 ≤ gTL i ∧ gTL i ≤ 1 ∧ 3 ≤ gTM i ∧ gTM i ≤ 99 := by
  rcases (by omega : i = 0 ∨ i = 1 ∨ i = 2 ∨ i = 3 ∨ i = 4) with rfl | rfl | rfl | rfl | rfl <;> decide
theorem pIt_s {T : Int → Int} {n : Int} {o : Bool} {k : Nat} {seen a : Int} {r : Int → Int} (h : itemOf (ch T n (sk T n a)) = -1) : pIt T n o (k + 1) seen a r = .inr (sk T n a, r) := by
  rw [pIt, if_pos h]
theorem pIt_f {T : Int → Int} {n : Int} {o : Bool} {k : Nat} {seen a : Int} {r : Int → Int} (h : itemOf (ch T n (sk T n a)) ≠ -1) (h2 : (o = false ∧ itemOf (ch T n (sk T n a)) ≠ 0) ∨ zAnd (zShr seen (itemOf (ch T n (sk T n a)))) 1 ≠ 0) : pIt T n o (k + 1) seen a r = .inl (sk T n a) := by
  rw [pIt, if_neg h, if_pos h2]
theorem pIt_n {T : Int → Int} {n : Int} {o : Bool} {k : Nat} {seen a f : Int} {r : Int → Int} (h : itemOf (ch T n (sk T n a)) ≠ -1) (h2 : ¬ ((o = false ∧ itemOf (ch T n (sk T n a)) ≠ 0) ∨ zAnd (zShr seen (itemOf (ch T n (sk T n a)))) 1 ≠ 0)) (h3 : pNum T n 2 (gTL (itemOf (ch T n (sk T n a)))) (gTM (itemOf (ch T n (sk T n a)))) (sk T n a + 1) = .inl f) : pIt T n o (k + 1) seen a r = .inl f := by
  rw [pIt, if_neg h, if_neg h2, h3]
theorem pIt_g {T : Int → Int} {n : Int} {o : Bool} {k : Nat} {seen a b v : Int} {r : Int → Int} (h : itemOf (ch T n (sk T n a)) ≠ -1) (h2 : ¬ ((o = false ∧ itemOf (ch T n (sk T n a)) ≠ 0) ∨ zAnd (zShr seen (itemOf (ch T n (sk T n a)))) 1 ≠ 0)) (h3 : pNum T n 2 (gTL (itemOf (ch T n (sk T n a)))) (gTM (itemOf (ch T n (sk T n a)))) (sk T n a + 1) = .inr (b, v)) : pIt T n o (k + 1) seen a r = pIt T n o k (zOr seen (zShl 1 (itemOf (ch T n (sk T n a))))) b (uZ r (itemOf (ch T n (sk T n a))) v) := by
  rw [pIt, if_neg h, if_neg h2, h3]
set_option maxHeartbeats 4000000 in
set_option maxRecDepth 100000 in
theorem kX5_isDigit (l : Launch) (x : Int) (hx : inR x) : AMi l yX5_isDigit cX5_isDigit 1 .boolean 0 0 0 [iv x] [] (fun z u => (z = 0 ∧ u = [] ∧ (¬ (48 ≤ x ∧ x ≤ 57))) ∨ (z = 1 ∧ u = [] ∧ (48 ≤ x ∧ x ≤ 57))) := by
  refine AMi.of2 rfl (nle rfl) ?_
  intro D G A p e s m args below meth c Po hPo X
  refine S_iload_n X dX5_isDigit_0 rfl rfl ?_
  refine S_bipush X dX5_isDigit_1 rfl ?_
  refine S_icmp_lt (tgt := 16) X dX5_isDigit_3 (by decide) (by omega) (by decide) (fun c_1 => ?_) (fun c_1 => ?_)
  ·
    refine S_iconst X dX5_isDigit_16 ?_
    exact S_zret X (Or.inl rfl) (nle rfl) (nle rfl) dX5_isDigit_17 (hPo _ _ (Or.inl (⟨by first | rfl | omega, rfl, by first | rfl | assumption | omega⟩)))
  ·
    refine S_iload_n X dX5_isDigit_6 rfl rfl ?_
    refine S_bipush X dX5_isDigit_7 rfl ?_
    refine S_icmp_gt (tgt := 16) X dX5_isDigit_9 (by decide) (by omega) (by decide) (fun c_2 => ?_) (fun c_2 => ?_)
    ·
      refine S_iconst X dX5_isDigit_16 ?_
      exact S_zret X (Or.inl rfl) (nle rfl) (nle rfl) dX5_isDigit_17 (hPo _ _ (Or.inl (⟨by first | rfl | omega, rfl, by first | rfl | assumption | omega⟩)))
    ·
      refine S_iconst X dX5_isDigit_12 ?_
      refine S_goto (tgt := 17) X dX5_isDigit_13 (by decide) ?_
      exact S_zret X (Or.inr rfl) (nle rfl) (nle rfl) dX5_isDigit_17 (hPo _ _ (Or.inr (⟨by first | rfl | omega, rfl, by first | rfl | assumption | omega⟩)))
set_option maxHeartbeats 4000000 in
set_option maxRecDepth 100000 in
theorem kX5_peek_8 (l : Launch) (h0 : Nat) (ht : Nat) (hb : Nat) (f : Nat → AV) (ft : Nat → AV) (T : Int → Int) (n : Int) (a : Int) (w : Int) (x : Int) (hf0 : f 0 = rv ht) (hf1 : ft 0 = rv hb) (hf2 : ft 1 = iv n) (hT : okT T n) (ha : 0 ≤ a ∧ a ≤ n) : AMi l yX5_peek cX5_peek 1 .int 0 0 0 [rv h0] [(h0, ob 8 (uF (uF (uF f 1 (iv a)) 2 (iv w)) 4 (iv x))), (ht, ob 6 ft), (hb, ar 160 T)] (fun z u => z = ch T n (sk T n a) ∧ u = [(h0, ob 8 (uF (uF (uF f 1 (iv (sk T n a))) 2 (iv w)) 4 (iv x))), (ht, ob 6 ft), (hb, ar 160 T)]) := by
  refine AMi.of2 rfl (nle rfl) ?_
  intro D G A p e s m args below meth c Po hPo X
  obtain ⟨hn0, hn1, hT2⟩ := id hT
  have lp0_0 : ∀ (N : Nat) (a1 : Int) (L : Nat → Option AV), a ≤ a1 ∧ a1 ≤ n → sk T n a1 = sk T n a → L 0 = some (rv h0) → 160 - a1 < (N : Int) → S_ p l e (rmD 0 0 0) s m args below meth c (MQ below (QcI D G A Po) args s 0 0 A) D G A 1 0 0 0 L [] [(h0, ob 8 (uF (uF (uF f 1 (iv a1)) 2 (iv w)) 4 (iv x))), (ht, ob 6 ft), (hb, ar 160 T)] := by
    intro N
    induction N with
    | zero =>
      intro a1 L0 hi hk hL0_0 hN0
      exfalso; omega
    | succ N ih0 =>
      intro a1 L0 hi hk hL0_0 hN0
      refine S_aload_n X dX5_peek_0 rfl hL0_0 ?_
      refine S_get (v := iv a1) X fgX5_15_8 0 rfl rfl dX5_peek_1 ?_
      refine S_aload_n X dX5_peek_4 rfl hL0_0 ?_
      refine S_get X fgX5_9_8 0 rfl hf0 dX5_peek_5 ?_
      refine S_get X fgX5_37_6 1 rfl hf2 dX5_peek_8 ?_
      refine S_icmp_ge (tgt := 54) X dX5_peek_11 (by decide) (by omega) (by omega) (fun c_1 => ?_) (fun c_1 => ?_)
      ·
        have hs : sk T n a = a1 := by rw [← hk]; exact sk_stop (by omega)
        refine S_aload_n X dX5_peek_54 rfl hL0_0 ?_
        refine S_get (v := iv a1) X fgX5_15_8 0 rfl rfl dX5_peek_55 ?_
        refine S_aload_n X dX5_peek_58 rfl hL0_0 ?_
        refine S_get X fgX5_9_8 0 rfl hf0 dX5_peek_59 ?_
        refine S_get X fgX5_37_6 1 rfl hf2 dX5_peek_62 ?_
        refine S_icmp_ge (tgt := 93) X dX5_peek_65 (by decide) (by omega) (by omega) (fun c_2 => ?_) (fun c_2 => ?_)
        ·
          refine S_iconst X dX5_peek_93 ?_
          exact S_iret X (nle rfl) (nle rfl) dX5_peek_94 (hPo _ _ (⟨by rw [hs]; unfold ch; rw [if_neg (by omega)], by rw [hs]⟩))
        ·
          refine S_aload_n X dX5_peek_68 rfl hL0_0 ?_
          refine S_get (v := iv a1) X fgX5_15_8 0 rfl rfl dX5_peek_69 ?_
          refine S_sipush X dX5_peek_72 rfl ?_
          refine S_icmp_ge (tgt := 93) X dX5_peek_75 (by decide) (by omega) (by decide) (fun c_3 => by exfalso; omega) (fun c_3 => ?_)
          refine S_aload_n X dX5_peek_78 rfl hL0_0 ?_
          refine S_get X fgX5_9_8 0 rfl hf0 dX5_peek_79 ?_
          refine S_get X fgX5_51_6 1 rfl hf1 dX5_peek_82 ?_
          refine S_aload_n X dX5_peek_85 rfl hL0_0 ?_
          refine S_get (v := iv a1) X fgX5_15_8 0 rfl rfl dX5_peek_86 ?_
          refine S_iald X 2 rfl (by omega) (by omega) (nle rfl) dX5_peek_89 ?_
          have hb_1 := hT2 a1 (by omega) (by omega)
          refine S_goto (tgt := 94) X dX5_peek_90 (by decide) ?_
          exact S_iret X (nle rfl) (nle rfl) dX5_peek_94 (hPo _ _ (⟨by rw [hs]; unfold ch; rw [if_pos (by omega)], by rw [hs]⟩))
      ·
        refine S_aload_n X dX5_peek_14 rfl hL0_0 ?_
        refine S_get (v := iv a1) X fgX5_15_8 0 rfl rfl dX5_peek_15 ?_
        refine S_sipush X dX5_peek_18 rfl ?_
        refine S_icmp_ge (tgt := 54) X dX5_peek_21 (by decide) (by omega) (by decide) (fun c_4 => by exfalso; omega) (fun c_4 => ?_)
        refine S_aload_n X dX5_peek_24 rfl hL0_0 ?_
        refine S_get X fgX5_9_8 0 rfl hf0 dX5_peek_25 ?_
        refine S_get X fgX5_51_6 1 rfl hf1 dX5_peek_28 ?_
        refine S_aload_n X dX5_peek_31 rfl hL0_0 ?_
        refine S_get (v := iv a1) X fgX5_15_8 0 rfl rfl dX5_peek_32 ?_
        refine S_iald X 2 rfl (by omega) (by omega) (nle rfl) dX5_peek_35 ?_
        have hb_2 := hT2 a1 (by omega) (by omega)
        refine S_bipush X dX5_peek_36 rfl ?_
        refine S_icmp_ne (tgt := 54) X dX5_peek_38 (by decide) (by omega) (by decide) (fun c_5 => ?_) (fun c_5 => ?_)
        ·
          have hs : sk T n a = a1 := by rw [← hk]; exact sk_stop (by omega)
          refine S_aload_n X dX5_peek_54 rfl hL0_0 ?_
          refine S_get (v := iv a1) X fgX5_15_8 0 rfl rfl dX5_peek_55 ?_
          refine S_aload_n X dX5_peek_58 rfl hL0_0 ?_
          refine S_get X fgX5_9_8 0 rfl hf0 dX5_peek_59 ?_
          refine S_get X fgX5_37_6 1 rfl hf2 dX5_peek_62 ?_
          refine S_icmp_ge (tgt := 93) X dX5_peek_65 (by decide) (by omega) (by omega) (fun c_6 => ?_) (fun c_6 => ?_)
          ·
            refine S_iconst X dX5_peek_93 ?_
            exact S_iret X (nle rfl) (nle rfl) dX5_peek_94 (hPo _ _ (⟨by rw [hs]; unfold ch; rw [if_neg (by omega)], by rw [hs]⟩))
          ·
            refine S_aload_n X dX5_peek_68 rfl hL0_0 ?_
            refine S_get (v := iv a1) X fgX5_15_8 0 rfl rfl dX5_peek_69 ?_
            refine S_sipush X dX5_peek_72 rfl ?_
            refine S_icmp_ge (tgt := 93) X dX5_peek_75 (by decide) (by omega) (by decide) (fun c_7 => by exfalso; omega) (fun c_7 => ?_)
            refine S_aload_n X dX5_peek_78 rfl hL0_0 ?_
            refine S_get X fgX5_9_8 0 rfl hf0 dX5_peek_79 ?_
            refine S_get X fgX5_51_6 1 rfl hf1 dX5_peek_82 ?_
            refine S_aload_n X dX5_peek_85 rfl hL0_0 ?_
            refine S_get (v := iv a1) X fgX5_15_8 0 rfl rfl dX5_peek_86 ?_
            refine S_iald X 2 rfl (by omega) (by omega) (nle rfl) dX5_peek_89 ?_
            have hb_3 := hT2 a1 (by omega) (by omega)
            refine S_goto (tgt := 94) X dX5_peek_90 (by decide) ?_
            exact S_iret X (nle rfl) (nle rfl) dX5_peek_94 (hPo _ _ (⟨by rw [hs]; unfold ch; rw [if_pos (by omega)], by rw [hs]⟩))
        ·
          refine S_aload_n X dX5_peek_41 rfl hL0_0 ?_
          refine S_dup X dX5_peek_42 ?_
          refine S_get (v := iv a1) X fgX5_15_8 0 rfl rfl dX5_peek_43 ?_
          refine S_iconst X dX5_peek_46 ?_
          refine S_iadd X dX5_peek_47 ?_
          refine S_put X fpX5_15_8 0 rfl FT_i dX5_peek_48 ?_
          refine S_w (ws' := [(h0, ob 8 (uF (uF (uF f 1 (iv (a1 + 1))) 2 (iv w)) 4 (iv x))), (ht, ob 6 ft), (hb, ar 160 T)]) (by simp only [List.set]; rw [uF_mv (j := 4) (k := 1) (by decide), uF_mv (j := 2) (k := 1) (by decide), uF_same (k := 1)]) ?_
          refine S_goto (tgt := 0) X dX5_peek_51 (by decide) ?_
          exact ih0 (a1 + 1) _ (by omega) ((sk_blank (by omega) (by omega)).symm.trans hk) hL0_0 (by omega)
  exact lp0_0 (Int.toNat (160 - a) + 1) a _ (by omega) (rfl) rfl (by omega)
set_option maxHeartbeats 4000000 in
set_option maxRecDepth 100000 in
theorem kX5_take_8 (l : Launch) (h0 : Nat) (ht : Nat) (hb : Nat) (f : Nat → AV) (ft : Nat → AV) (T : Int → Int) (n : Int) (a : Int) (w : Int) (x : Int) (c0 : Int) (hf0 : f 0 = rv ht) (hf1 : ft 0 = rv hb) (hf2 : ft 1 = iv n) (hT : okT T n) (ha : 0 ≤ a ∧ a ≤ n) (hc : inR c0) : AMi l yX5_take cX5_take 2 .boolean 1 0 0 [rv h0, iv c0] [(h0, ob 8 (uF (uF (uF f 1 (iv a)) 2 (iv w)) 4 (iv x))), (ht, ob 6 ft), (hb, ar 160 T)] (fun z u => (z = 0 ∧ u = [(h0, ob 8 (uF (uF (uF f 1 (iv (sk T n a))) 2 (iv w)) 4 (iv x))), (ht, ob 6 ft), (hb, ar 160 T)] ∧ ¬ ch T n (sk T n a) = c0) ∨ (z = 1 ∧ u = [(h0, ob 8 (uF (uF (uF f 1 (iv (sk T n a + 1))) 2 (iv w)) 4 (iv x))), (ht, ob 6 ft), (hb, ar 160 T)] ∧ ch T n (sk T n a) = c0)) := by
  refine AMi.of2 rfl (nle rfl) ?_
  intro D G A p e s m args below meth c Po hPo X
  obtain ⟨hn0, hn1, hT2⟩ := id hT
  have hsk := sk_in (T := T) ha.2
  have hch := ch_in (a := sk T n a) hT (by omega)
  refine S_aload_n X dX5_take_0 rfl rfl ?_
  refine S_calli X (kX5_peek_8 l h0 ht hb f ft T n a w x hf0 hf1 hf2 (by omega) (by omega)) (is := [0, 1, 2]) rfl (run_U X lkX5_40_8 0 rfl rfl (is := [0, 1, 2]) (avs := []) (rest := []) rfl rfl (nle rfl) ⟨nle rfl, nle rfl⟩ ⟨nle rfl, nle rfl⟩ dX5_take_1 (by decide) rfl) (fun z_3 u_1 hp_2 => ?_)
  obtain ⟨hz_4, hu_5⟩ := hp_2
  subst hz_4
  subst hu_5
  refine ⟨rfl, ?_⟩
  refine S_w (ws' := [(h0, ob 8 (uF (uF (uF f 1 (iv (sk T n a))) 2 (iv w)) 4 (iv x))), (ht, ob 6 ft), (hb, ar 160 T)]) rfl ?_
  refine S_iload_n X dX5_take_4 rfl rfl ?_
  refine S_icmp_eq (tgt := 10) X dX5_take_5 (by decide) (by omega) (by omega) (fun c_6 => ?_) (fun c_6 => ?_)
  ·
    refine S_aload_n X dX5_take_10 rfl rfl ?_
    refine S_dup X dX5_take_11 ?_
    refine S_get (v := iv (sk T n a)) X fgX5_15_8 0 rfl rfl dX5_take_12 ?_
    refine S_iconst X dX5_take_15 ?_
    refine S_iadd X dX5_take_16 ?_
    refine S_put X fpX5_15_8 0 rfl FT_i dX5_take_17 ?_
    refine S_w (ws' := [(h0, ob 8 (uF (uF (uF f 1 (iv ((sk T n a) + 1))) 2 (iv w)) 4 (iv x))), (ht, ob 6 ft), (hb, ar 160 T)]) (by simp only [List.set]; rw [uF_mv (j := 4) (k := 1) (by decide), uF_mv (j := 2) (k := 1) (by decide), uF_same (k := 1)]) ?_
    refine S_iconst X dX5_take_20 ?_
    exact S_zret X (Or.inr rfl) (nle rfl) (nle rfl) dX5_take_21 (hPo _ _ (Or.inr (⟨by first | rfl | omega, rfl, by first | rfl | assumption | omega⟩)))
  ·
    refine S_iconst X dX5_take_8 ?_
    exact S_zret X (Or.inl rfl) (nle rfl) (nle rfl) dX5_take_9 (hPo _ _ (Or.inl (⟨by first | rfl | omega, rfl, by first | rfl | assumption | omega⟩)))
set_option maxHeartbeats 4000000 in
set_option maxRecDepth 100000 in
theorem kX5_fail_8 (l : Launch) (h0 : Nat) (ht : Nat) (hb : Nat) (f : Nat → AV) (ft : Nat → AV) (T : Int → Int) (n : Int) (a : Int) (w : Int) (x : Int) (hf0 : f 0 = rv ht) (hf1 : ft 0 = rv hb) (hf2 : ft 1 = iv n) : AMi l yX5_fail cX5_fail 1 .boolean 0 0 0 [rv h0] [(h0, ob 8 (uF (uF (uF f 1 (iv a)) 2 (iv w)) 4 (iv x))), (ht, ob 6 ft), (hb, ar 160 T)] (fun z u => z = 0 ∧ u = [(h0, ob 8 (uF (uF (uF f 1 (iv a)) 2 (iv a)) 4 (iv x))), (ht, ob 6 ft), (hb, ar 160 T)]) := by
  refine AMi.of2 rfl (nle rfl) ?_
  intro D G A p e s m args below meth c Po hPo X
  refine S_aload_n X dX5_fail_0 rfl rfl ?_
  refine S_aload_n X dX5_fail_1 rfl rfl ?_
  refine S_get (v := iv a) X fgX5_15_8 0 rfl rfl dX5_fail_2 ?_
  refine S_put X fpX5_19_8 0 rfl FT_i dX5_fail_5 ?_
  refine S_w (ws' := [(h0, ob 8 (uF (uF (uF f 1 (iv a)) 2 (iv a)) 4 (iv x))), (ht, ob 6 ft), (hb, ar 160 T)]) (by simp only [List.set]; rw [uF_mv (j := 4) (k := 2) (by decide), uF_same (k := 2)]) ?_
  refine S_iconst X dX5_fail_8 ?_
  exact S_zret X (Or.inl rfl) (nle rfl) (nle rfl) dX5_fail_9 (hPo _ _ (⟨by first | rfl | omega, rfl⟩))
set_option maxHeartbeats 4000000 in
set_option maxRecDepth 100000 in
theorem kX5_readNumber_8 (l : Launch) (h0 : Nat) (ht : Nat) (hb : Nat) (f : Nat → AV) (ft : Nat → AV) (T : Int → Int) (n : Int) (a : Int) (w : Int) (x : Int) (dg : Int) (lo : Int) (hi : Int) (hf0 : f 0 = rv ht) (hf1 : ft 0 = rv hb) (hf2 : ft 1 = iv n) (hT : okT T n) (ha : 0 ≤ a ∧ a ≤ n) (hd : 1 ≤ dg ∧ dg ≤ 4 ∧ 0 ≤ lo ∧ lo ≤ 1 ∧ 0 ≤ hi ∧ hi ≤ 9999) : AMi l yX5_readNumber cX5_readNumber 6 .int 1 0 0 [rv h0, iv dg, iv lo, iv hi] [(h0, ob 8 (uF (uF (uF f 1 (iv a)) 2 (iv w)) 4 (iv x))), (ht, ob 6 ft), (hb, ar 160 T)] (fun z u => (∃ a2 : Int, ∃ fl : Int, z = -1 ∧ u = [(h0, ob 8 (uF (uF (uF f 1 (iv a2)) 2 (iv fl)) 4 (iv x))), (ht, ob 6 ft), (hb, ar 160 T)] ∧ pNum T n dg lo hi a = .inl fl ∧ (0 ≤ a2 ∧ a2 ≤ n)) ∨ (∃ a2 : Int, ∃ v2 : Int, z = v2 ∧ u = [(h0, ob 8 (uF (uF (uF f 1 (iv a2)) 2 (iv w)) 4 (iv x))), (ht, ob 6 ft), (hb, ar 160 T)] ∧ pNum T n dg lo hi a = .inr (a2, v2))) := by
  refine AMi.of2 rfl (nle rfl) ?_
  intro D G A p e s m args below meth c Po hPo X
  obtain ⟨hn0, hn1, hT2⟩ := id hT
  have hsk := sk_in (T := T) ha.2
  have hch := ch_in (a := sk T n a) hT (by omega)
  refine S_aload_n X dX5_readNumber_0 rfl rfl ?_
  refine S_calli X (kX5_peek_8 l h0 ht hb f ft T n a w x hf0 hf1 hf2 (by omega) (by omega)) (is := [0, 1, 2]) rfl (run_U X lkX5_40_8 0 rfl rfl (is := [0, 1, 2]) (avs := []) (rest := []) rfl rfl (nle rfl) ⟨nle rfl, nle rfl⟩ ⟨nle rfl, nle rfl⟩ dX5_readNumber_1 (by decide) rfl) (fun z_3 u_1 hp_2 => ?_)
  obtain ⟨hz_4, hu_5⟩ := hp_2
  subst hz_4
  subst hu_5
  refine ⟨rfl, ?_⟩
  refine S_w (ws' := [(h0, ob 8 (uF (uF (uF f 1 (iv (sk T n a))) 2 (iv w)) 4 (iv x))), (ht, ob 6 ft), (hb, ar 160 T)]) rfl ?_
  refine S_calli X (kX5_isDigit l (ch T n (sk T n a)) (by omega)) (is := []) rfl (run_S X lkX5_55 (is := []) (avs := [iv (ch T n (sk T n a))]) (rest := []) rfl rfl (nle rfl) ⟨nle rfl, nle rfl⟩ ⟨nle rfl, nle rfl⟩ dX5_readNumber_4 (by decide) rfl) (fun z_8 u_6 hp_7 => ?_)
  rcases hp_7 with ⟨hz_9, hu_10, hd_11⟩ | ⟨hz_12, hu_13, hd_14⟩
  ·
    subst hz_9
    subst hu_10
    refine ⟨rfl, ?_⟩
    refine S_w (ws' := [(h0, ob 8 (uF (uF (uF f 1 (iv (sk T n a))) 2 (iv w)) 4 (iv x))), (ht, ob 6 ft), (hb, ar 160 T)]) rfl ?_
    refine S_if_ne (tgt := 17) X dX5_readNumber_7 (by decide) (by decide) (fun h9 => absurd h9 (by decide)) (fun _ => ?_)
    refine S_aload_n X dX5_readNumber_10 rfl rfl ?_
    refine S_calli X (kX5_fail_8 l h0 ht hb f ft T n (sk T n a) w x hf0 hf1 hf2) (is := [0, 1, 2]) rfl (run_U X lkX5_48_8 0 rfl rfl (is := [0, 1, 2]) (avs := []) (rest := []) rfl rfl (nle rfl) ⟨nle rfl, nle rfl⟩ ⟨nle rfl, nle rfl⟩ dX5_readNumber_11 (by decide) rfl) (fun z_18 u_16 hp_17 => ?_)
    obtain ⟨hz_19, hu_20⟩ := hp_17
    subst hz_19
    subst hu_20
    refine ⟨rfl, ?_⟩
    refine S_w (ws' := [(h0, ob 8 (uF (uF (uF f 1 (iv (sk T n a))) 2 (iv (sk T n a))) 4 (iv x))), (ht, ob 6 ft), (hb, ar 160 T)]) rfl ?_
    refine S_pop X dX5_readNumber_14 ?_
    refine S_iconst X dX5_readNumber_15 ?_
    exact S_iret X (nle rfl) (nle rfl) dX5_readNumber_16 (hPo _ _ (Or.inl ⟨_, _, rfl, rfl, by unfold pNum; rw [if_neg (by omega)], by omega, by omega⟩))
  ·
    subst hz_12
    subst hu_13
    refine ⟨rfl, ?_⟩
    refine S_w (ws' := [(h0, ob 8 (uF (uF (uF f 1 (iv (sk T n a))) 2 (iv w)) 4 (iv x))), (ht, ob 6 ft), (hb, ar 160 T)]) rfl ?_
    refine S_if_ne (tgt := 17) X dX5_readNumber_7 (by decide) (by decide) (fun _ => ?_) (fun h9 => absurd h9 (by decide))
    have hd0 : 48 ≤ ch T n (sk T n a) ∧ ch T n (sk T n a) ≤ 57 := by assumption
    have hlt : sk T n a < n := ch_lt (T := T) (by omega)
    refine S_iconst X dX5_readNumber_17 ?_
    refine S_istore X dX5_readNumber_18 (nle rfl) ?_
    refine S_aload_n X dX5_readNumber_20 rfl rfl ?_
    refine S_get (v := iv (sk T n a)) X fgX5_15_8 0 rfl rfl dX5_readNumber_21 ?_
    refine S_istore X dX5_readNumber_24 (nle rfl) ?_
    have lp26_1 : ∀ (N : Nat) (a1 : Int) (v : Int) (L : Nat → Option AV), sk T n a ≤ a1 ∧ a1 ≤ n ∧ a1 - sk T n a ≤ dg → (a1 - sk T n a = 0 ∧ v = 0) ∨ (a1 - sk T n a = 1 ∧ 0 ≤ v ∧ v ≤ 9) ∨ (a1 - sk T n a = 2 ∧ 0 ≤ v ∧ v ≤ 99) ∨ (a1 - sk T n a = 3 ∧ 0 ≤ v ∧ v ≤ 999) ∨ (a1 - sk T n a = 4 ∧ 0 ≤ v ∧ v ≤ 9999) → (∀ r, numF T n dg (sk T n a) (6 - (a1 - sk T n a).toNat) a1 v = r → pNum T n dg lo hi a = numE lo hi r) → L 0 = some (rv h0) → L 1 = some (iv dg) → L 2 = some (iv lo) → L 3 = some (iv hi) → L 4 = some (iv v) → L 5 = some (iv (sk T n a)) → 161 - a1 < (N : Int) → S_ p l e (rmD 1 0 0) s m args below meth c (MQ below (QcI D G A Po) args s 0 0 A) D G A 6 0 0 26 L [] [(h0, ob 8 (uF (uF (uF f 1 (iv a1)) 2 (iv w)) 4 (iv x))), (ht, ob 6 ft), (hb, ar 160 T)] := by
      intro N
      induction N with
      | zero =>
        intro a1 v L26 hi1 hv hk hL26_0 hL26_1 hL26_2 hL26_3 hL26_4 hL26_5 hN26
        exfalso; omega
      | succ N ih26 =>
        intro a1 v L26 hi1 hv hk hL26_0 hL26_1 hL26_2 hL26_3 hL26_4 hL26_5 hN26
        refine S_aload_n X dX5_readNumber_26 rfl hL26_0 ?_
        refine S_get (v := iv a1) X fgX5_15_8 0 rfl rfl dX5_readNumber_27 ?_
        refine S_aload_n X dX5_readNumber_30 rfl hL26_0 ?_
        refine S_get X fgX5_9_8 0 rfl hf0 dX5_readNumber_31 ?_
        refine S_get X fgX5_37_6 1 rfl hf2 dX5_readNumber_34 ?_
        refine S_icmp_ge (tgt := 122) X dX5_readNumber_37 (by decide) (by omega) (by omega) (fun c_22 => ?_) (fun c_22 => ?_)
        ·
          refine S_iload X dX5_readNumber_122 hL26_4 ?_
          refine S_iload_n X dX5_readNumber_124 rfl hL26_2 ?_
          refine S_icmp_lt (tgt := 134) X dX5_readNumber_125 (by decide) (by omega) (by omega) (fun c_23 => ?_) (fun c_23 => ?_)
          ·
            refine S_aload_n X dX5_readNumber_134 rfl hL26_0 ?_
            refine S_aload_n X dX5_readNumber_135 rfl hL26_0 ?_
            refine S_get (v := iv a1) X fgX5_15_8 0 rfl rfl dX5_readNumber_136 ?_
            refine S_iconst X dX5_readNumber_139 ?_
            refine S_isub X dX5_readNumber_140 ?_
            refine S_put X fpX5_19_8 0 rfl FT_i dX5_readNumber_141 ?_
            refine S_w (ws' := [(h0, ob 8 (uF (uF (uF f 1 (iv a1)) 2 (iv (a1 - 1))) 4 (iv x))), (ht, ob 6 ft), (hb, ar 160 T)]) (by simp only [List.set]; rw [uF_mv (j := 4) (k := 2) (by decide), uF_same (k := 2)]) ?_
            refine S_iconst X dX5_readNumber_144 ?_
            exact S_iret X (nle rfl) (nle rfl) dX5_readNumber_145 (hPo _ _ (Or.inl ⟨_, _, rfl, rfl, (hk (.inr (a1, v)) (by rw [fuel6 (by omega) (by omega)]; exact numF_end (by omega))).trans (numE_o (by omega)), by omega, by omega⟩))
          ·
            refine S_iload X dX5_readNumber_128 hL26_4 ?_
            refine S_iload_n X dX5_readNumber_130 rfl hL26_3 ?_
            refine S_icmp_le (tgt := 146) X dX5_readNumber_131 (by decide) (by omega) (by omega) (fun c_24 => ?_) (fun c_24 => ?_)
            ·
              refine S_iload X dX5_readNumber_146 hL26_4 ?_
              exact S_iret X (nle rfl) (nle rfl) dX5_readNumber_148 (hPo _ _ (Or.inr ⟨_, _, rfl, rfl, (hk (.inr (a1, v)) (by rw [fuel6 (by omega) (by omega)]; exact numF_end (by omega))).trans (numE_i (by omega))⟩))
            ·
              refine S_aload_n X dX5_readNumber_134 rfl hL26_0 ?_
              refine S_aload_n X dX5_readNumber_135 rfl hL26_0 ?_
              refine S_get (v := iv a1) X fgX5_15_8 0 rfl rfl dX5_readNumber_136 ?_
              refine S_iconst X dX5_readNumber_139 ?_
              refine S_isub X dX5_readNumber_140 ?_
              refine S_put X fpX5_19_8 0 rfl FT_i dX5_readNumber_141 ?_
              refine S_w (ws' := [(h0, ob 8 (uF (uF (uF f 1 (iv a1)) 2 (iv (a1 - 1))) 4 (iv x))), (ht, ob 6 ft), (hb, ar 160 T)]) (by simp only [List.set]; rw [uF_mv (j := 4) (k := 2) (by decide), uF_same (k := 2)]) ?_
              refine S_iconst X dX5_readNumber_144 ?_
              exact S_iret X (nle rfl) (nle rfl) dX5_readNumber_145 (hPo _ _ (Or.inl ⟨_, _, rfl, rfl, (hk (.inr (a1, v)) (by rw [fuel6 (by omega) (by omega)]; exact numF_end (by omega))).trans (numE_o (by omega)), by omega, by omega⟩))
        ·
          refine S_aload_n X dX5_readNumber_40 rfl hL26_0 ?_
          refine S_get (v := iv a1) X fgX5_15_8 0 rfl rfl dX5_readNumber_41 ?_
          refine S_sipush X dX5_readNumber_44 rfl ?_
          refine S_icmp_ge (tgt := 122) X dX5_readNumber_47 (by decide) (by omega) (by decide) (fun c_25 => by exfalso; omega) (fun c_25 => ?_)
          refine S_aload_n X dX5_readNumber_50 rfl hL26_0 ?_
          refine S_get X fgX5_9_8 0 rfl hf0 dX5_readNumber_51 ?_
          refine S_get X fgX5_51_6 1 rfl hf1 dX5_readNumber_54 ?_
          refine S_aload_n X dX5_readNumber_57 rfl hL26_0 ?_
          refine S_get (v := iv a1) X fgX5_15_8 0 rfl rfl dX5_readNumber_58 ?_
          refine S_iald X 2 rfl (by omega) (by omega) (nle rfl) dX5_readNumber_61 ?_
          have hb_4 := hT2 a1 (by omega) (by omega)
          refine S_calli X (kX5_isDigit l (T a1) (by omega)) (is := []) rfl (run_S X lkX5_55 (is := []) (avs := [iv (T a1)]) (rest := []) rfl rfl (nle rfl) ⟨nle rfl, nle rfl⟩ ⟨nle rfl, nle rfl⟩ dX5_readNumber_62 (by decide) rfl) (fun z_28 u_26 hp_27 => ?_)
          rcases hp_27 with ⟨hz_29, hu_30, hd_31⟩ | ⟨hz_32, hu_33, hd_34⟩
          ·
            subst hz_29
            subst hu_30
            refine ⟨rfl, ?_⟩
            refine S_w (ws' := [(h0, ob 8 (uF (uF (uF f 1 (iv a1)) 2 (iv w)) 4 (iv x))), (ht, ob 6 ft), (hb, ar 160 T)]) rfl ?_
            refine S_if_eq (tgt := 122) X dX5_readNumber_65 (by decide) (by decide) (fun _ => ?_) (fun h9 => absurd h9 (by decide))
            refine S_iload X dX5_readNumber_122 hL26_4 ?_
            refine S_iload_n X dX5_readNumber_124 rfl hL26_2 ?_
            refine S_icmp_lt (tgt := 134) X dX5_readNumber_125 (by decide) (by omega) (by omega) (fun c_36 => ?_) (fun c_36 => ?_)
            ·
              refine S_aload_n X dX5_readNumber_134 rfl hL26_0 ?_
              refine S_aload_n X dX5_readNumber_135 rfl hL26_0 ?_
              refine S_get (v := iv a1) X fgX5_15_8 0 rfl rfl dX5_readNumber_136 ?_
              refine S_iconst X dX5_readNumber_139 ?_
              refine S_isub X dX5_readNumber_140 ?_
              refine S_put X fpX5_19_8 0 rfl FT_i dX5_readNumber_141 ?_
              refine S_w (ws' := [(h0, ob 8 (uF (uF (uF f 1 (iv a1)) 2 (iv (a1 - 1))) 4 (iv x))), (ht, ob 6 ft), (hb, ar 160 T)]) (by simp only [List.set]; rw [uF_mv (j := 4) (k := 2) (by decide), uF_same (k := 2)]) ?_
              refine S_iconst X dX5_readNumber_144 ?_
              exact S_iret X (nle rfl) (nle rfl) dX5_readNumber_145 (hPo _ _ (Or.inl ⟨_, _, rfl, rfl, (hk (.inr (a1, v)) (by rw [fuel6 (by omega) (by omega)]; exact numF_end (by omega))).trans (numE_o (by omega)), by omega, by omega⟩))
            ·
              refine S_iload X dX5_readNumber_128 hL26_4 ?_
              refine S_iload_n X dX5_readNumber_130 rfl hL26_3 ?_
              refine S_icmp_le (tgt := 146) X dX5_readNumber_131 (by decide) (by omega) (by omega) (fun c_37 => ?_) (fun c_37 => ?_)
              ·
                refine S_iload X dX5_readNumber_146 hL26_4 ?_
                exact S_iret X (nle rfl) (nle rfl) dX5_readNumber_148 (hPo _ _ (Or.inr ⟨_, _, rfl, rfl, (hk (.inr (a1, v)) (by rw [fuel6 (by omega) (by omega)]; exact numF_end (by omega))).trans (numE_i (by omega))⟩))
              ·
                refine S_aload_n X dX5_readNumber_134 rfl hL26_0 ?_
                refine S_aload_n X dX5_readNumber_135 rfl hL26_0 ?_
                refine S_get (v := iv a1) X fgX5_15_8 0 rfl rfl dX5_readNumber_136 ?_
                refine S_iconst X dX5_readNumber_139 ?_
                refine S_isub X dX5_readNumber_140 ?_
                refine S_put X fpX5_19_8 0 rfl FT_i dX5_readNumber_141 ?_
                refine S_w (ws' := [(h0, ob 8 (uF (uF (uF f 1 (iv a1)) 2 (iv (a1 - 1))) 4 (iv x))), (ht, ob 6 ft), (hb, ar 160 T)]) (by simp only [List.set]; rw [uF_mv (j := 4) (k := 2) (by decide), uF_same (k := 2)]) ?_
                refine S_iconst X dX5_readNumber_144 ?_
                exact S_iret X (nle rfl) (nle rfl) dX5_readNumber_145 (hPo _ _ (Or.inl ⟨_, _, rfl, rfl, (hk (.inr (a1, v)) (by rw [fuel6 (by omega) (by omega)]; exact numF_end (by omega))).trans (numE_o (by omega)), by omega, by omega⟩))
          ·
            subst hz_32
            subst hu_33
            refine ⟨rfl, ?_⟩
            refine S_w (ws' := [(h0, ob 8 (uF (uF (uF f 1 (iv a1)) 2 (iv w)) 4 (iv x))), (ht, ob 6 ft), (hb, ar 160 T)]) rfl ?_
            refine S_if_eq (tgt := 122) X dX5_readNumber_65 (by decide) (by decide) (fun h9 => absurd h9 (by decide)) (fun _ => ?_)
            refine S_aload_n X dX5_readNumber_68 rfl hL26_0 ?_
            refine S_get (v := iv a1) X fgX5_15_8 0 rfl rfl dX5_readNumber_69 ?_
            refine S_iload X dX5_readNumber_72 hL26_5 ?_
            refine S_isub X dX5_readNumber_74 ?_
            refine S_iload_n X dX5_readNumber_75 rfl hL26_1 ?_
            refine S_icmp_lt (tgt := 86) X dX5_readNumber_76 (by decide) (by omega) (by omega) (fun c_39 => ?_) (fun c_39 => ?_)
            ·
              refine S_iload X dX5_readNumber_86 hL26_4 ?_
              refine S_bipush X dX5_readNumber_88 rfl ?_
              refine S_imul X dX5_readNumber_90 ?_
              refine S_aload_n X dX5_readNumber_91 rfl hL26_0 ?_
              refine S_get X fgX5_9_8 0 rfl hf0 dX5_readNumber_92 ?_
              refine S_get X fgX5_51_6 1 rfl hf1 dX5_readNumber_95 ?_
              refine S_aload_n X dX5_readNumber_98 rfl hL26_0 ?_
              refine S_get (v := iv a1) X fgX5_15_8 0 rfl rfl dX5_readNumber_99 ?_
              refine S_iald X 2 rfl (by omega) (by omega) (nle rfl) dX5_readNumber_102 ?_
              have hb_5 := hT2 a1 (by omega) (by omega)
              refine S_iadd X dX5_readNumber_103 ?_
              refine S_bipush X dX5_readNumber_104 rfl ?_
              refine S_isub X dX5_readNumber_106 ?_
              refine S_istore X dX5_readNumber_107 (nle rfl) ?_
              refine S_aload_n X dX5_readNumber_109 rfl hL26_0 ?_
              refine S_dup X dX5_readNumber_110 ?_
              refine S_get (v := iv a1) X fgX5_15_8 0 rfl rfl dX5_readNumber_111 ?_
              refine S_iconst X dX5_readNumber_114 ?_
              refine S_iadd X dX5_readNumber_115 ?_
              refine S_put X fpX5_15_8 0 rfl FT_i dX5_readNumber_116 ?_
              refine S_w (ws' := [(h0, ob 8 (uF (uF (uF f 1 (iv (a1 + 1))) 2 (iv w)) 4 (iv x))), (ht, ob 6 ft), (hb, ar 160 T)]) (by simp only [List.set]; rw [uF_mv (j := 4) (k := 1) (by decide), uF_mv (j := 2) (k := 1) (by decide), uF_same (k := 1)]) ?_
              refine S_goto (tgt := 26) X dX5_readNumber_119 (by decide) ?_
              exact ih26 (a1 + 1) (((v * 10) + (T a1)) - 48) _ (by omega) (by omega) (fun r9 h9 => hk r9 (by rw [show 6 - (a1 - sk T n a).toNat = (6 - (a1 + 1 - sk T n a).toNat) + 1 by omega, numF_dig ⟨by omega, by omega, by omega⟩ (by omega)]; exact h9)) hL26_0 hL26_1 hL26_2 hL26_3 rfl hL26_5 (by omega)
            ·
              refine S_aload_n X dX5_readNumber_79 rfl hL26_0 ?_
              refine S_calli X (kX5_fail_8 l h0 ht hb f ft T n a1 w x hf0 hf1 hf2) (is := [0, 1, 2]) rfl (run_U X lkX5_48_8 0 rfl rfl (is := [0, 1, 2]) (avs := []) (rest := []) rfl rfl (nle rfl) ⟨nle rfl, nle rfl⟩ ⟨nle rfl, nle rfl⟩ dX5_readNumber_80 (by decide) rfl) (fun z_42 u_40 hp_41 => ?_)
              obtain ⟨hz_43, hu_44⟩ := hp_41
              subst hz_43
              subst hu_44
              refine ⟨rfl, ?_⟩
              refine S_w (ws' := [(h0, ob 8 (uF (uF (uF f 1 (iv a1)) 2 (iv a1)) 4 (iv x))), (ht, ob 6 ft), (hb, ar 160 T)]) rfl ?_
              refine S_pop X dX5_readNumber_83 ?_
              refine S_iconst X dX5_readNumber_84 ?_
              exact S_iret X (nle rfl) (nle rfl) dX5_readNumber_85 (hPo _ _ (Or.inl ⟨_, _, rfl, rfl, hk (.inl a1) (by rw [fuel6 (by omega) (by omega)]; exact numF_big ⟨by omega, by omega, by omega⟩ (by omega)), by omega, by omega⟩))
    exact lp26_1 (Int.toNat (161 - (sk T n a)) + 1) (sk T n a) 0 _ (by omega) (by omega) (fun r9 h9 => by rw [Int.sub_self] at h9; unfold pNum; rw [if_pos hd0]; exact congrArg (numE lo hi) h9) rfl rfl rfl rfl rfl rfl (by omega)
set_option maxHeartbeats 4000000 in
set_option maxRecDepth 100000 in
theorem kX5_nextClause_8 (l : Launch) (h0 : Nat) (ht : Nat) (hb : Nat) (f : Nat → AV) (ft : Nat → AV) (T : Int → Int) (n : Int) (a : Int) (w : Int) (x : Int) (hf0 : f 0 = rv ht) (hf1 : ft 0 = rv hb) (hf2 : ft 1 = iv n) (hT : okT T n) (ha : 0 ≤ a ∧ a ≤ n) : AMi l yX5_nextClause cX5_nextClause 1 .boolean 2 0 0 [rv h0] [(h0, ob 8 (uF (uF (uF f 1 (iv a)) 2 (iv w)) 4 (iv x))), (ht, ob 6 ft), (hb, ar 160 T)] (fun z u => (z = 0 ∧ u = [(h0, ob 8 (uF (uF (uF f 1 (iv (sk T n a))) 2 (iv w)) 4 (iv x))), (ht, ob 6 ft), (hb, ar 160 T)] ∧ ch T n (sk T n a) = 0) ∨ (∃ a2 : Int, ∃ fl : Int, z = 0 ∧ u = [(h0, ob 8 (uF (uF (uF f 1 (iv a2)) 2 (iv fl)) 4 (iv x))), (ht, ob 6 ft), (hb, ar 160 T)] ∧ (¬ ch T n (sk T n a) = 0 ∧ ¬ ch T n (sk T n a) = 59) ∧ a2 = sk T n a ∧ fl = sk T n a) ∨ (∃ a2 : Int, z = 1 ∧ u = [(h0, ob 8 (uF (uF (uF f 1 (iv a2)) 2 (iv w)) 4 (iv x))), (ht, ob 6 ft), (hb, ar 160 T)] ∧ ch T n (sk T n a) = 59 ∧ a2 = sk T n a + 1)) := by
  refine AMi.of2 rfl (nle rfl) ?_
  intro D G A p e s m args below meth c Po hPo X
  obtain ⟨hn0, hn1, hT2⟩ := id hT
  have hsk := sk_in (T := T) ha.2
  have hch := ch_in (a := sk T n a) hT (by omega)
  refine S_aload_n X dX5_nextClause_0 rfl rfl ?_
  refine S_calli X (kX5_peek_8 l h0 ht hb f ft T n a w x hf0 hf1 hf2 (by omega) (by omega)) (is := [0, 1, 2]) rfl (run_U X lkX5_40_8 0 rfl rfl (is := [0, 1, 2]) (avs := []) (rest := []) rfl rfl (nle rfl) ⟨nle rfl, nle rfl⟩ ⟨nle rfl, nle rfl⟩ dX5_nextClause_1 (by decide) rfl) (fun z_3 u_1 hp_2 => ?_)
  obtain ⟨hz_4, hu_5⟩ := hp_2
  subst hz_4
  subst hu_5
  refine ⟨rfl, ?_⟩
  refine S_w (ws' := [(h0, ob 8 (uF (uF (uF f 1 (iv (sk T n a))) 2 (iv w)) 4 (iv x))), (ht, ob 6 ft), (hb, ar 160 T)]) rfl ?_
  refine S_if_ne (tgt := 9) X dX5_nextClause_4 (by decide) (by omega) (fun c_6 => ?_) (fun c_6 => ?_)
  ·
    refine S_aload_n X dX5_nextClause_9 rfl rfl ?_
    refine S_bipush X dX5_nextClause_10 rfl ?_
    refine S_calli X (kX5_take_8 l h0 ht hb f ft T n (sk T n a) w x 59 hf0 hf1 hf2 (by omega) (by omega) (by omega)) (is := [0, 1, 2]) rfl (run_U X lkX5_44_8 0 rfl rfl (is := [0, 1, 2]) (avs := [iv 59]) (rest := []) rfl rfl (nle rfl) ⟨nle rfl, nle rfl⟩ ⟨nle rfl, nle rfl⟩ dX5_nextClause_12 (by decide) rfl) (fun z_9 u_7 hp_8 => ?_)
    rcases hp_8 with ⟨hz_10, hu_11, hq_12⟩ | ⟨hz_13, hu_14, hq_15⟩
    ·
      subst hz_10
      subst hu_11
      refine ⟨rfl, ?_⟩
      refine S_w (ws' := [(h0, ob 8 (uF (uF (uF f 1 (iv (sk T n (sk T n a)))) 2 (iv w)) 4 (iv x))), (ht, ob 6 ft), (hb, ar 160 T)]) rfl ?_
      rw [sk_idem] at hq_12
      refine S_if_ne (tgt := 25) X dX5_nextClause_15 (by decide) (by decide) (fun h9 => absurd h9 (by decide)) (fun _ => ?_)
      refine S_aload_n X dX5_nextClause_18 rfl rfl ?_
      refine S_calli X (kX5_fail_8 l h0 ht hb f ft T n (sk T n (sk T n a)) w x hf0 hf1 hf2) (is := [0, 1, 2]) rfl (run_U X lkX5_48_8 0 rfl rfl (is := [0, 1, 2]) (avs := []) (rest := []) rfl rfl (nle rfl) ⟨nle rfl, nle rfl⟩ ⟨nle rfl, nle rfl⟩ dX5_nextClause_19 (by decide) rfl) (fun z_19 u_17 hp_18 => ?_)
      obtain ⟨hz_20, hu_21⟩ := hp_18
      subst hz_20
      subst hu_21
      refine ⟨rfl, ?_⟩
      refine S_w (ws' := [(h0, ob 8 (uF (uF (uF f 1 (iv (sk T n (sk T n a)))) 2 (iv (sk T n (sk T n a)))) 4 (iv x))), (ht, ob 6 ft), (hb, ar 160 T)]) rfl ?_
      refine S_if_eq (tgt := 29) X dX5_nextClause_22 (by decide) (by decide) (fun _ => ?_) (fun h9 => absurd h9 (by decide))
      refine S_iconst X dX5_nextClause_29 ?_
      exact S_zret X (Or.inl rfl) (nle rfl) (nle rfl) dX5_nextClause_30 (hPo _ _ (Or.inr (Or.inl (⟨_, _, by first | rfl | omega, rfl, by omega, by rw [sk_idem], by rw [sk_idem]⟩))))
    ·
      subst hz_13
      subst hu_14
      refine ⟨rfl, ?_⟩
      refine S_w (ws' := [(h0, ob 8 (uF (uF (uF f 1 (iv (sk T n (sk T n a) + 1))) 2 (iv w)) 4 (iv x))), (ht, ob 6 ft), (hb, ar 160 T)]) rfl ?_
      rw [sk_idem] at hq_15
      refine S_if_ne (tgt := 25) X dX5_nextClause_15 (by decide) (by decide) (fun _ => ?_) (fun h9 => absurd h9 (by decide))
      refine S_iconst X dX5_nextClause_25 ?_
      refine S_goto (tgt := 30) X dX5_nextClause_26 (by decide) ?_
      exact S_zret X (Or.inr rfl) (nle rfl) (nle rfl) dX5_nextClause_30 (hPo _ _ (Or.inr (Or.inr (⟨_, by first | rfl | omega, rfl, by omega, by rw [sk_idem]⟩))))
  ·
    refine S_iconst X dX5_nextClause_7 ?_
    exact S_zret X (Or.inl rfl) (nle rfl) (nle rfl) dX5_nextClause_8 (hPo _ _ (Or.inl (⟨by first | rfl | omega, rfl, by omega⟩)))
set_option maxHeartbeats 4000000 in
set_option maxRecDepth 100000 in
theorem kX5_peek_2 (l : Launch) (h0 : Nat) (ht : Nat) (hb : Nat) (f : Nat → AV) (ft : Nat → AV) (T : Int → Int) (n : Int) (a : Int) (w : Int) (x : Int) (hf0 : f 0 = rv ht) (hf1 : ft 0 = rv hb) (hf2 : ft 1 = iv n) (hT : okT T n) (ha : 0 ≤ a ∧ a ≤ n) : AMi l yX5_peek cX5_peek 1 .int 0 0 0 [rv h0] [(h0, ob 2 (uF (uF (uF f 1 (iv a)) 2 (iv w)) 4 (iv x))), (ht, ob 6 ft), (hb, ar 160 T)] (fun z u => z = ch T n (sk T n a) ∧ u = [(h0, ob 2 (uF (uF (uF f 1 (iv (sk T n a))) 2 (iv w)) 4 (iv x))), (ht, ob 6 ft), (hb, ar 160 T)]) := by
  refine AMi.of2 rfl (nle rfl) ?_
  intro D G A p e s m args below meth c Po hPo X
  obtain ⟨hn0, hn1, hT2⟩ := id hT
  have lp0_0 : ∀ (N : Nat) (a1 : Int) (L : Nat → Option AV), a ≤ a1 ∧ a1 ≤ n → sk T n a1 = sk T n a → L 0 = some (rv h0) → 160 - a1 < (N : Int) → S_ p l e (rmD 0 0 0) s m args below meth c (MQ below (QcI D G A Po) args s 0 0 A) D G A 1 0 0 0 L [] [(h0, ob 2 (uF (uF (uF f 1 (iv a1)) 2 (iv w)) 4 (iv x))), (ht, ob 6 ft), (hb, ar 160 T)] := by
    intro N
    induction N with
    | zero =>
      intro a1 L0 hi hk hL0_0 hN0
      exfalso; omega
    | succ N ih0 =>
      intro a1 L0 hi hk hL0_0 hN0
      refine S_aload_n X dX5_peek_0 rfl hL0_0 ?_
      refine S_get (v := iv a1) X fgX5_15_2 0 rfl rfl dX5_peek_1 ?_
      refine S_aload_n X dX5_peek_4 rfl hL0_0 ?_
      refine S_get X fgX5_9_2 0 rfl hf0 dX5_peek_5 ?_
      refine S_get X fgX5_37_6 1 rfl hf2 dX5_peek_8 ?_
      refine S_icmp_ge (tgt := 54) X dX5_peek_11 (by decide) (by omega) (by omega) (fun c_1 => ?_) (fun c_1 => ?_)
      ·
        have hs : sk T n a = a1 := by rw [← hk]; exact sk_stop (by omega)
        refine S_aload_n X dX5_peek_54 rfl hL0_0 ?_
        refine S_get (v := iv a1) X fgX5_15_2 0 rfl rfl dX5_peek_55 ?_
        refine S_aload_n X dX5_peek_58 rfl hL0_0 ?_
        refine S_get X fgX5_9_2 0 rfl hf0 dX5_peek_59 ?_
        refine S_get X fgX5_37_6 1 rfl hf2 dX5_peek_62 ?_
        refine S_icmp_ge (tgt := 93) X dX5_peek_65 (by decide) (by omega) (by omega) (fun c_2 => ?_) (fun c_2 => ?_)
        ·
          refine S_iconst X dX5_peek_93 ?_
          exact S_iret X (nle rfl) (nle rfl) dX5_peek_94 (hPo _ _ (⟨by rw [hs]; unfold ch; rw [if_neg (by omega)], by rw [hs]⟩))
        ·
          refine S_aload_n X dX5_peek_68 rfl hL0_0 ?_
          refine S_get (v := iv a1) X fgX5_15_2 0 rfl rfl dX5_peek_69 ?_
          refine S_sipush X dX5_peek_72 rfl ?_
          refine S_icmp_ge (tgt := 93) X dX5_peek_75 (by decide) (by omega) (by decide) (fun c_3 => by exfalso; omega) (fun c_3 => ?_)
          refine S_aload_n X dX5_peek_78 rfl hL0_0 ?_
          refine S_get X fgX5_9_2 0 rfl hf0 dX5_peek_79 ?_
          refine S_get X fgX5_51_6 1 rfl hf1 dX5_peek_82 ?_
          refine S_aload_n X dX5_peek_85 rfl hL0_0 ?_
          refine S_get (v := iv a1) X fgX5_15_2 0 rfl rfl dX5_peek_86 ?_
          refine S_iald X 2 rfl (by omega) (by omega) (nle rfl) dX5_peek_89 ?_
          have hb_6 := hT2 a1 (by omega) (by omega)
          refine S_goto (tgt := 94) X dX5_peek_90 (by decide) ?_
          exact S_iret X (nle rfl) (nle rfl) dX5_peek_94 (hPo _ _ (⟨by rw [hs]; unfold ch; rw [if_pos (by omega)], by rw [hs]⟩))
      ·
        refine S_aload_n X dX5_peek_14 rfl hL0_0 ?_
        refine S_get (v := iv a1) X fgX5_15_2 0 rfl rfl dX5_peek_15 ?_
        refine S_sipush X dX5_peek_18 rfl ?_
        refine S_icmp_ge (tgt := 54) X dX5_peek_21 (by decide) (by omega) (by decide) (fun c_4 => by exfalso; omega) (fun c_4 => ?_)
        refine S_aload_n X dX5_peek_24 rfl hL0_0 ?_
        refine S_get X fgX5_9_2 0 rfl hf0 dX5_peek_25 ?_
        refine S_get X fgX5_51_6 1 rfl hf1 dX5_peek_28 ?_
        refine S_aload_n X dX5_peek_31 rfl hL0_0 ?_
        refine S_get (v := iv a1) X fgX5_15_2 0 rfl rfl dX5_peek_32 ?_
        refine S_iald X 2 rfl (by omega) (by omega) (nle rfl) dX5_peek_35 ?_
        have hb_7 := hT2 a1 (by omega) (by omega)
        refine S_bipush X dX5_peek_36 rfl ?_
        refine S_icmp_ne (tgt := 54) X dX5_peek_38 (by decide) (by omega) (by decide) (fun c_5 => ?_) (fun c_5 => ?_)
        ·
          have hs : sk T n a = a1 := by rw [← hk]; exact sk_stop (by omega)
          refine S_aload_n X dX5_peek_54 rfl hL0_0 ?_
          refine S_get (v := iv a1) X fgX5_15_2 0 rfl rfl dX5_peek_55 ?_
          refine S_aload_n X dX5_peek_58 rfl hL0_0 ?_
          refine S_get X fgX5_9_2 0 rfl hf0 dX5_peek_59 ?_
          refine S_get X fgX5_37_6 1 rfl hf2 dX5_peek_62 ?_
          refine S_icmp_ge (tgt := 93) X dX5_peek_65 (by decide) (by omega) (by omega) (fun c_6 => ?_) (fun c_6 => ?_)
          ·
            refine S_iconst X dX5_peek_93 ?_
            exact S_iret X (nle rfl) (nle rfl) dX5_peek_94 (hPo _ _ (⟨by rw [hs]; unfold ch; rw [if_neg (by omega)], by rw [hs]⟩))
          ·
            refine S_aload_n X dX5_peek_68 rfl hL0_0 ?_
            refine S_get (v := iv a1) X fgX5_15_2 0 rfl rfl dX5_peek_69 ?_
            refine S_sipush X dX5_peek_72 rfl ?_
            refine S_icmp_ge (tgt := 93) X dX5_peek_75 (by decide) (by omega) (by decide) (fun c_7 => by exfalso; omega) (fun c_7 => ?_)
            refine S_aload_n X dX5_peek_78 rfl hL0_0 ?_
            refine S_get X fgX5_9_2 0 rfl hf0 dX5_peek_79 ?_
            refine S_get X fgX5_51_6 1 rfl hf1 dX5_peek_82 ?_
            refine S_aload_n X dX5_peek_85 rfl hL0_0 ?_
            refine S_get (v := iv a1) X fgX5_15_2 0 rfl rfl dX5_peek_86 ?_
            refine S_iald X 2 rfl (by omega) (by omega) (nle rfl) dX5_peek_89 ?_
            have hb_8 := hT2 a1 (by omega) (by omega)
            refine S_goto (tgt := 94) X dX5_peek_90 (by decide) ?_
            exact S_iret X (nle rfl) (nle rfl) dX5_peek_94 (hPo _ _ (⟨by rw [hs]; unfold ch; rw [if_pos (by omega)], by rw [hs]⟩))
        ·
          refine S_aload_n X dX5_peek_41 rfl hL0_0 ?_
          refine S_dup X dX5_peek_42 ?_
          refine S_get (v := iv a1) X fgX5_15_2 0 rfl rfl dX5_peek_43 ?_
          refine S_iconst X dX5_peek_46 ?_
          refine S_iadd X dX5_peek_47 ?_
          refine S_put X fpX5_15_2 0 rfl FT_i dX5_peek_48 ?_
          refine S_w (ws' := [(h0, ob 2 (uF (uF (uF f 1 (iv (a1 + 1))) 2 (iv w)) 4 (iv x))), (ht, ob 6 ft), (hb, ar 160 T)]) (by simp only [List.set]; rw [uF_mv (j := 4) (k := 1) (by decide), uF_mv (j := 2) (k := 1) (by decide), uF_same (k := 1)]) ?_
          refine S_goto (tgt := 0) X dX5_peek_51 (by decide) ?_
          exact ih0 (a1 + 1) _ (by omega) ((sk_blank (by omega) (by omega)).symm.trans hk) hL0_0 (by omega)
  exact lp0_0 (Int.toNat (160 - a) + 1) a _ (by omega) (rfl) rfl (by omega)
set_option maxHeartbeats 4000000 in
set_option maxRecDepth 100000 in
theorem kX5_take_2 (l : Launch) (h0 : Nat) (ht : Nat) (hb : Nat) (f : Nat → AV) (ft : Nat → AV) (T : Int → Int) (n : Int) (a : Int) (w : Int) (x : Int) (c0 : Int) (hf0 : f 0 = rv ht) (hf1 : ft 0 = rv hb) (hf2 : ft 1 = iv n) (hT : okT T n) (ha : 0 ≤ a ∧ a ≤ n) (hc : inR c0) : AMi l yX5_take cX5_take 2 .boolean 1 0 0 [rv h0, iv c0] [(h0, ob 2 (uF (uF (uF f 1 (iv a)) 2 (iv w)) 4 (iv x))), (ht, ob 6 ft), (hb, ar 160 T)] (fun z u => (z = 0 ∧ u = [(h0, ob 2 (uF (uF (uF f 1 (iv (sk T n a))) 2 (iv w)) 4 (iv x))), (ht, ob 6 ft), (hb, ar 160 T)] ∧ ¬ ch T n (sk T n a) = c0) ∨ (z = 1 ∧ u = [(h0, ob 2 (uF (uF (uF f 1 (iv (sk T n a + 1))) 2 (iv w)) 4 (iv x))), (ht, ob 6 ft), (hb, ar 160 T)] ∧ ch T n (sk T n a) = c0)) := by
  refine AMi.of2 rfl (nle rfl) ?_
  intro D G A p e s m args below meth c Po hPo X
  obtain ⟨hn0, hn1, hT2⟩ := id hT
  have hsk := sk_in (T := T) ha.2
  have hch := ch_in (a := sk T n a) hT (by omega)
  refine S_aload_n X dX5_take_0 rfl rfl ?_
  refine S_calli X (kX5_peek_2 l h0 ht hb f ft T n a w x hf0 hf1 hf2 (by omega) (by omega)) (is := [0, 1, 2]) rfl (run_U X lkX5_40_2 0 rfl rfl (is := [0, 1, 2]) (avs := []) (rest := []) rfl rfl (nle rfl) ⟨nle rfl, nle rfl⟩ ⟨nle rfl, nle rfl⟩ dX5_take_1 (by decide) rfl) (fun z_3 u_1 hp_2 => ?_)
  obtain ⟨hz_4, hu_5⟩ := hp_2
  subst hz_4
  subst hu_5
  refine ⟨rfl, ?_⟩
  refine S_w (ws' := [(h0, ob 2 (uF (uF (uF f 1 (iv (sk T n a))) 2 (iv w)) 4 (iv x))), (ht, ob 6 ft), (hb, ar 160 T)]) rfl ?_
  refine S_iload_n X dX5_take_4 rfl rfl ?_
  refine S_icmp_eq (tgt := 10) X dX5_take_5 (by decide) (by omega) (by omega) (fun c_6 => ?_) (fun c_6 => ?_)
  ·
    refine S_aload_n X dX5_take_10 rfl rfl ?_
    refine S_dup X dX5_take_11 ?_
    refine S_get (v := iv (sk T n a)) X fgX5_15_2 0 rfl rfl dX5_take_12 ?_
    refine S_iconst X dX5_take_15 ?_
    refine S_iadd X dX5_take_16 ?_
    refine S_put X fpX5_15_2 0 rfl FT_i dX5_take_17 ?_
    refine S_w (ws' := [(h0, ob 2 (uF (uF (uF f 1 (iv ((sk T n a) + 1))) 2 (iv w)) 4 (iv x))), (ht, ob 6 ft), (hb, ar 160 T)]) (by simp only [List.set]; rw [uF_mv (j := 4) (k := 1) (by decide), uF_mv (j := 2) (k := 1) (by decide), uF_same (k := 1)]) ?_
    refine S_iconst X dX5_take_20 ?_
    exact S_zret X (Or.inr rfl) (nle rfl) (nle rfl) dX5_take_21 (hPo _ _ (Or.inr (⟨by first | rfl | omega, rfl, by first | rfl | assumption | omega⟩)))
  ·
    refine S_iconst X dX5_take_8 ?_
    exact S_zret X (Or.inl rfl) (nle rfl) (nle rfl) dX5_take_9 (hPo _ _ (Or.inl (⟨by first | rfl | omega, rfl, by first | rfl | assumption | omega⟩)))
set_option maxHeartbeats 4000000 in
set_option maxRecDepth 100000 in
theorem kX5_fail_2 (l : Launch) (h0 : Nat) (ht : Nat) (hb : Nat) (f : Nat → AV) (ft : Nat → AV) (T : Int → Int) (n : Int) (a : Int) (w : Int) (x : Int) (hf0 : f 0 = rv ht) (hf1 : ft 0 = rv hb) (hf2 : ft 1 = iv n) : AMi l yX5_fail cX5_fail 1 .boolean 0 0 0 [rv h0] [(h0, ob 2 (uF (uF (uF f 1 (iv a)) 2 (iv w)) 4 (iv x))), (ht, ob 6 ft), (hb, ar 160 T)] (fun z u => z = 0 ∧ u = [(h0, ob 2 (uF (uF (uF f 1 (iv a)) 2 (iv a)) 4 (iv x))), (ht, ob 6 ft), (hb, ar 160 T)]) := by
  refine AMi.of2 rfl (nle rfl) ?_
  intro D G A p e s m args below meth c Po hPo X
  refine S_aload_n X dX5_fail_0 rfl rfl ?_
  refine S_aload_n X dX5_fail_1 rfl rfl ?_
  refine S_get (v := iv a) X fgX5_15_2 0 rfl rfl dX5_fail_2 ?_
  refine S_put X fpX5_19_2 0 rfl FT_i dX5_fail_5 ?_
  refine S_w (ws' := [(h0, ob 2 (uF (uF (uF f 1 (iv a)) 2 (iv a)) 4 (iv x))), (ht, ob 6 ft), (hb, ar 160 T)]) (by simp only [List.set]; rw [uF_mv (j := 4) (k := 2) (by decide), uF_same (k := 2)]) ?_
  refine S_iconst X dX5_fail_8 ?_
  exact S_zret X (Or.inl rfl) (nle rfl) (nle rfl) dX5_fail_9 (hPo _ _ (⟨by first | rfl | omega, rfl⟩))
set_option maxHeartbeats 4000000 in
set_option maxRecDepth 100000 in
theorem kX5_readNumber_2 (l : Launch) (h0 : Nat) (ht : Nat) (hb : Nat) (f : Nat → AV) (ft : Nat → AV) (T : Int → Int) (n : Int) (a : Int) (w : Int) (x : Int) (dg : Int) (lo : Int) (hi : Int) (hf0 : f 0 = rv ht) (hf1 : ft 0 = rv hb) (hf2 : ft 1 = iv n) (hT : okT T n) (ha : 0 ≤ a ∧ a ≤ n) (hd : 1 ≤ dg ∧ dg ≤ 4 ∧ 0 ≤ lo ∧ lo ≤ 1 ∧ 0 ≤ hi ∧ hi ≤ 9999) : AMi l yX5_readNumber cX5_readNumber 6 .int 1 0 0 [rv h0, iv dg, iv lo, iv hi] [(h0, ob 2 (uF (uF (uF f 1 (iv a)) 2 (iv w)) 4 (iv x))), (ht, ob 6 ft), (hb, ar 160 T)] (fun z u => (∃ a2 : Int, ∃ fl : Int, z = -1 ∧ u = [(h0, ob 2 (uF (uF (uF f 1 (iv a2)) 2 (iv fl)) 4 (iv x))), (ht, ob 6 ft), (hb, ar 160 T)] ∧ pNum T n dg lo hi a = .inl fl ∧ (0 ≤ a2 ∧ a2 ≤ n)) ∨ (∃ a2 : Int, ∃ v2 : Int, z = v2 ∧ u = [(h0, ob 2 (uF (uF (uF f 1 (iv a2)) 2 (iv w)) 4 (iv x))), (ht, ob 6 ft), (hb, ar 160 T)] ∧ pNum T n dg lo hi a = .inr (a2, v2))) := by
  refine AMi.of2 rfl (nle rfl) ?_
  intro D G A p e s m args below meth c Po hPo X
  obtain ⟨hn0, hn1, hT2⟩ := id hT
  have hsk := sk_in (T := T) ha.2
  have hch := ch_in (a := sk T n a) hT (by omega)
  refine S_aload_n X dX5_readNumber_0 rfl rfl ?_
  refine S_calli X (kX5_peek_2 l h0 ht hb f ft T n a w x hf0 hf1 hf2 (by omega) (by omega)) (is := [0, 1, 2]) rfl (run_U X lkX5_40_2 0 rfl rfl (is := [0, 1, 2]) (avs := []) (rest := []) rfl rfl (nle rfl) ⟨nle rfl, nle rfl⟩ ⟨nle rfl, nle rfl⟩ dX5_readNumber_1 (by decide) rfl) (fun z_3 u_1 hp_2 => ?_)
  obtain ⟨hz_4, hu_5⟩ := hp_2
  subst hz_4
  subst hu_5
  refine ⟨rfl, ?_⟩
  refine S_w (ws' := [(h0, ob 2 (uF (uF (uF f 1 (iv (sk T n a))) 2 (iv w)) 4 (iv x))), (ht, ob 6 ft), (hb, ar 160 T)]) rfl ?_
  refine S_calli X (kX5_isDigit l (ch T n (sk T n a)) (by omega)) (is := []) rfl (run_S X lkX5_55 (is := []) (avs := [iv (ch T n (sk T n a))]) (rest := []) rfl rfl (nle rfl) ⟨nle rfl, nle rfl⟩ ⟨nle rfl, nle rfl⟩ dX5_readNumber_4 (by decide) rfl) (fun z_8 u_6 hp_7 => ?_)
  rcases hp_7 with ⟨hz_9, hu_10, hd_11⟩ | ⟨hz_12, hu_13, hd_14⟩
  ·
    subst hz_9
    subst hu_10
    refine ⟨rfl, ?_⟩
    refine S_w (ws' := [(h0, ob 2 (uF (uF (uF f 1 (iv (sk T n a))) 2 (iv w)) 4 (iv x))), (ht, ob 6 ft), (hb, ar 160 T)]) rfl ?_
    refine S_if_ne (tgt := 17) X dX5_readNumber_7 (by decide) (by decide) (fun h9 => absurd h9 (by decide)) (fun _ => ?_)
    refine S_aload_n X dX5_readNumber_10 rfl rfl ?_
    refine S_calli X (kX5_fail_2 l h0 ht hb f ft T n (sk T n a) w x hf0 hf1 hf2) (is := [0, 1, 2]) rfl (run_U X lkX5_48_2 0 rfl rfl (is := [0, 1, 2]) (avs := []) (rest := []) rfl rfl (nle rfl) ⟨nle rfl, nle rfl⟩ ⟨nle rfl, nle rfl⟩ dX5_readNumber_11 (by decide) rfl) (fun z_18 u_16 hp_17 => ?_)
    obtain ⟨hz_19, hu_20⟩ := hp_17
    subst hz_19
    subst hu_20
    refine ⟨rfl, ?_⟩
    refine S_w (ws' := [(h0, ob 2 (uF (uF (uF f 1 (iv (sk T n a))) 2 (iv (sk T n a))) 4 (iv x))), (ht, ob 6 ft), (hb, ar 160 T)]) rfl ?_
    refine S_pop X dX5_readNumber_14 ?_
    refine S_iconst X dX5_readNumber_15 ?_
    exact S_iret X (nle rfl) (nle rfl) dX5_readNumber_16 (hPo _ _ (Or.inl ⟨_, _, rfl, rfl, by unfold pNum; rw [if_neg (by omega)], by omega, by omega⟩))
  ·
    subst hz_12
    subst hu_13
    refine ⟨rfl, ?_⟩
    refine S_w (ws' := [(h0, ob 2 (uF (uF (uF f 1 (iv (sk T n a))) 2 (iv w)) 4 (iv x))), (ht, ob 6 ft), (hb, ar 160 T)]) rfl ?_
    refine S_if_ne (tgt := 17) X dX5_readNumber_7 (by decide) (by decide) (fun _ => ?_) (fun h9 => absurd h9 (by decide))
    have hd0 : 48 ≤ ch T n (sk T n a) ∧ ch T n (sk T n a) ≤ 57 := by assumption
    have hlt : sk T n a < n := ch_lt (T := T) (by omega)
    refine S_iconst X dX5_readNumber_17 ?_
    refine S_istore X dX5_readNumber_18 (nle rfl) ?_
    refine S_aload_n X dX5_readNumber_20 rfl rfl ?_
    refine S_get (v := iv (sk T n a)) X fgX5_15_2 0 rfl rfl dX5_readNumber_21 ?_
    refine S_istore X dX5_readNumber_24 (nle rfl) ?_
    have lp26_1 : ∀ (N : Nat) (a1 : Int) (v : Int) (L : Nat → Option AV), sk T n a ≤ a1 ∧ a1 ≤ n ∧ a1 - sk T n a ≤ dg → (a1 - sk T n a = 0 ∧ v = 0) ∨ (a1 - sk T n a = 1 ∧ 0 ≤ v ∧ v ≤ 9) ∨ (a1 - sk T n a = 2 ∧ 0 ≤ v ∧ v ≤ 99) ∨ (a1 - sk T n a = 3 ∧ 0 ≤ v ∧ v ≤ 999) ∨ (a1 - sk T n a = 4 ∧ 0 ≤ v ∧ v ≤ 9999) → (∀ r, numF T n dg (sk T n a) (6 - (a1 - sk T n a).toNat) a1 v = r → pNum T n dg lo hi a = numE lo hi r) → L 0 = some (rv h0) → L 1 = some (iv dg) → L 2 = some (iv lo) → L 3 = some (iv hi) → L 4 = some (iv v) → L 5 = some (iv (sk T n a)) → 161 - a1 < (N : Int) → S_ p l e (rmD 1 0 0) s m args below meth c (MQ below (QcI D G A Po) args s 0 0 A) D G A 6 0 0 26 L [] [(h0, ob 2 (uF (uF (uF f 1 (iv a1)) 2 (iv w)) 4 (iv x))), (ht, ob 6 ft), (hb, ar 160 T)] := by
      intro N
      induction N with
      | zero =>
        intro a1 v L26 hi1 hv hk hL26_0 hL26_1 hL26_2 hL26_3 hL26_4 hL26_5 hN26
        exfalso; omega
      | succ N ih26 =>
        intro a1 v L26 hi1 hv hk hL26_0 hL26_1 hL26_2 hL26_3 hL26_4 hL26_5 hN26
        refine S_aload_n X dX5_readNumber_26 rfl hL26_0 ?_
        refine S_get (v := iv a1) X fgX5_15_2 0 rfl rfl dX5_readNumber_27 ?_
        refine S_aload_n X dX5_readNumber_30 rfl hL26_0 ?_
        refine S_get X fgX5_9_2 0 rfl hf0 dX5_readNumber_31 ?_
        refine S_get X fgX5_37_6 1 rfl hf2 dX5_readNumber_34 ?_
        refine S_icmp_ge (tgt := 122) X dX5_readNumber_37 (by decide) (by omega) (by omega) (fun c_22 => ?_) (fun c_22 => ?_)
        ·
          refine S_iload X dX5_readNumber_122 hL26_4 ?_
          refine S_iload_n X dX5_readNumber_124 rfl hL26_2 ?_
          refine S_icmp_lt (tgt := 134) X dX5_readNumber_125 (by decide) (by omega) (by omega) (fun c_23 => ?_) (fun c_23 => ?_)
          ·
            refine S_aload_n X dX5_readNumber_134 rfl hL26_0 ?_
            refine S_aload_n X dX5_readNumber_135 rfl hL26_0 ?_
            refine S_get (v := iv a1) X fgX5_15_2 0 rfl rfl dX5_readNumber_136 ?_
            refine S_iconst X dX5_readNumber_139 ?_
            refine S_isub X dX5_readNumber_140 ?_
            refine S_put X fpX5_19_2 0 rfl FT_i dX5_readNumber_141 ?_
            refine S_w (ws' := [(h0, ob 2 (uF (uF (uF f 1 (iv a1)) 2 (iv (a1 - 1))) 4 (iv x))), (ht, ob 6 ft), (hb, ar 160 T)]) (by simp only [List.set]; rw [uF_mv (j := 4) (k := 2) (by decide), uF_same (k := 2)]) ?_
            refine S_iconst X dX5_readNumber_144 ?_
            exact S_iret X (nle rfl) (nle rfl) dX5_readNumber_145 (hPo _ _ (Or.inl ⟨_, _, rfl, rfl, (hk (.inr (a1, v)) (by rw [fuel6 (by omega) (by omega)]; exact numF_end (by omega))).trans (numE_o (by omega)), by omega, by omega⟩))
          ·
            refine S_iload X dX5_readNumber_128 hL26_4 ?_
            refine S_iload_n X dX5_readNumber_130 rfl hL26_3 ?_
            refine S_icmp_le (tgt := 146) X dX5_readNumber_131 (by decide) (by omega) (by omega) (fun c_24 => ?_) (fun c_24 => ?_)
            ·
              refine S_iload X dX5_readNumber_146 hL26_4 ?_
              exact S_iret X (nle rfl) (nle rfl) dX5_readNumber_148 (hPo _ _ (Or.inr ⟨_, _, rfl, rfl, (hk (.inr (a1, v)) (by rw [fuel6 (by omega) (by omega)]; exact numF_end (by omega))).trans (numE_i (by omega))⟩))
            ·
              refine S_aload_n X dX5_readNumber_134 rfl hL26_0 ?_
              refine S_aload_n X dX5_readNumber_135 rfl hL26_0 ?_
              refine S_get (v := iv a1) X fgX5_15_2 0 rfl rfl dX5_readNumber_136 ?_
              refine S_iconst X dX5_readNumber_139 ?_
              refine S_isub X dX5_readNumber_140 ?_
              refine S_put X fpX5_19_2 0 rfl FT_i dX5_readNumber_141 ?_
              refine S_w (ws' := [(h0, ob 2 (uF (uF (uF f 1 (iv a1)) 2 (iv (a1 - 1))) 4 (iv x))), (ht, ob 6 ft), (hb, ar 160 T)]) (by simp only [List.set]; rw [uF_mv (j := 4) (k := 2) (by decide), uF_same (k := 2)]) ?_
              refine S_iconst X dX5_readNumber_144 ?_
              exact S_iret X (nle rfl) (nle rfl) dX5_readNumber_145 (hPo _ _ (Or.inl ⟨_, _, rfl, rfl, (hk (.inr (a1, v)) (by rw [fuel6 (by omega) (by omega)]; exact numF_end (by omega))).trans (numE_o (by omega)), by omega, by omega⟩))
        ·
          refine S_aload_n X dX5_readNumber_40 rfl hL26_0 ?_
          refine S_get (v := iv a1) X fgX5_15_2 0 rfl rfl dX5_readNumber_41 ?_
          refine S_sipush X dX5_readNumber_44 rfl ?_
          refine S_icmp_ge (tgt := 122) X dX5_readNumber_47 (by decide) (by omega) (by decide) (fun c_25 => by exfalso; omega) (fun c_25 => ?_)
          refine S_aload_n X dX5_readNumber_50 rfl hL26_0 ?_
          refine S_get X fgX5_9_2 0 rfl hf0 dX5_readNumber_51 ?_
          refine S_get X fgX5_51_6 1 rfl hf1 dX5_readNumber_54 ?_
          refine S_aload_n X dX5_readNumber_57 rfl hL26_0 ?_
          refine S_get (v := iv a1) X fgX5_15_2 0 rfl rfl dX5_readNumber_58 ?_
          refine S_iald X 2 rfl (by omega) (by omega) (nle rfl) dX5_readNumber_61 ?_
          have hb_9 := hT2 a1 (by omega) (by omega)
          refine S_calli X (kX5_isDigit l (T a1) (by omega)) (is := []) rfl (run_S X lkX5_55 (is := []) (avs := [iv (T a1)]) (rest := []) rfl rfl (nle rfl) ⟨nle rfl, nle rfl⟩ ⟨nle rfl, nle rfl⟩ dX5_readNumber_62 (by decide) rfl) (fun z_28 u_26 hp_27 => ?_)
          rcases hp_27 with ⟨hz_29, hu_30, hd_31⟩ | ⟨hz_32, hu_33, hd_34⟩
          ·
            subst hz_29
            subst hu_30
            refine ⟨rfl, ?_⟩
            refine S_w (ws' := [(h0, ob 2 (uF (uF (uF f 1 (iv a1)) 2 (iv w)) 4 (iv x))), (ht, ob 6 ft), (hb, ar 160 T)]) rfl ?_
            refine S_if_eq (tgt := 122) X dX5_readNumber_65 (by decide) (by decide) (fun _ => ?_) (fun h9 => absurd h9 (by decide))
            refine S_iload X dX5_readNumber_122 hL26_4 ?_
            refine S_iload_n X dX5_readNumber_124 rfl hL26_2 ?_
            refine S_icmp_lt (tgt := 134) X dX5_readNumber_125 (by decide) (by omega) (by omega) (fun c_36 => ?_) (fun c_36 => ?_)
            ·
              refine S_aload_n X dX5_readNumber_134 rfl hL26_0 ?_
              refine S_aload_n X dX5_readNumber_135 rfl hL26_0 ?_
              refine S_get (v := iv a1) X fgX5_15_2 0 rfl rfl dX5_readNumber_136 ?_
              refine S_iconst X dX5_readNumber_139 ?_
              refine S_isub X dX5_readNumber_140 ?_
              refine S_put X fpX5_19_2 0 rfl FT_i dX5_readNumber_141 ?_
              refine S_w (ws' := [(h0, ob 2 (uF (uF (uF f 1 (iv a1)) 2 (iv (a1 - 1))) 4 (iv x))), (ht, ob 6 ft), (hb, ar 160 T)]) (by simp only [List.set]; rw [uF_mv (j := 4) (k := 2) (by decide), uF_same (k := 2)]) ?_
              refine S_iconst X dX5_readNumber_144 ?_
              exact S_iret X (nle rfl) (nle rfl) dX5_readNumber_145 (hPo _ _ (Or.inl ⟨_, _, rfl, rfl, (hk (.inr (a1, v)) (by rw [fuel6 (by omega) (by omega)]; exact numF_end (by omega))).trans (numE_o (by omega)), by omega, by omega⟩))
            ·
              refine S_iload X dX5_readNumber_128 hL26_4 ?_
              refine S_iload_n X dX5_readNumber_130 rfl hL26_3 ?_
              refine S_icmp_le (tgt := 146) X dX5_readNumber_131 (by decide) (by omega) (by omega) (fun c_37 => ?_) (fun c_37 => ?_)
              ·
                refine S_iload X dX5_readNumber_146 hL26_4 ?_
                exact S_iret X (nle rfl) (nle rfl) dX5_readNumber_148 (hPo _ _ (Or.inr ⟨_, _, rfl, rfl, (hk (.inr (a1, v)) (by rw [fuel6 (by omega) (by omega)]; exact numF_end (by omega))).trans (numE_i (by omega))⟩))
              ·
                refine S_aload_n X dX5_readNumber_134 rfl hL26_0 ?_
                refine S_aload_n X dX5_readNumber_135 rfl hL26_0 ?_
                refine S_get (v := iv a1) X fgX5_15_2 0 rfl rfl dX5_readNumber_136 ?_
                refine S_iconst X dX5_readNumber_139 ?_
                refine S_isub X dX5_readNumber_140 ?_
                refine S_put X fpX5_19_2 0 rfl FT_i dX5_readNumber_141 ?_
                refine S_w (ws' := [(h0, ob 2 (uF (uF (uF f 1 (iv a1)) 2 (iv (a1 - 1))) 4 (iv x))), (ht, ob 6 ft), (hb, ar 160 T)]) (by simp only [List.set]; rw [uF_mv (j := 4) (k := 2) (by decide), uF_same (k := 2)]) ?_
                refine S_iconst X dX5_readNumber_144 ?_
                exact S_iret X (nle rfl) (nle rfl) dX5_readNumber_145 (hPo _ _ (Or.inl ⟨_, _, rfl, rfl, (hk (.inr (a1, v)) (by rw [fuel6 (by omega) (by omega)]; exact numF_end (by omega))).trans (numE_o (by omega)), by omega, by omega⟩))
          ·
            subst hz_32
            subst hu_33
            refine ⟨rfl, ?_⟩
            refine S_w (ws' := [(h0, ob 2 (uF (uF (uF f 1 (iv a1)) 2 (iv w)) 4 (iv x))), (ht, ob 6 ft), (hb, ar 160 T)]) rfl ?_
            refine S_if_eq (tgt := 122) X dX5_readNumber_65 (by decide) (by decide) (fun h9 => absurd h9 (by decide)) (fun _ => ?_)
            refine S_aload_n X dX5_readNumber_68 rfl hL26_0 ?_
            refine S_get (v := iv a1) X fgX5_15_2 0 rfl rfl dX5_readNumber_69 ?_
            refine S_iload X dX5_readNumber_72 hL26_5 ?_
            refine S_isub X dX5_readNumber_74 ?_
            refine S_iload_n X dX5_readNumber_75 rfl hL26_1 ?_
            refine S_icmp_lt (tgt := 86) X dX5_readNumber_76 (by decide) (by omega) (by omega) (fun c_39 => ?_) (fun c_39 => ?_)
            ·
              refine S_iload X dX5_readNumber_86 hL26_4 ?_
              refine S_bipush X dX5_readNumber_88 rfl ?_
              refine S_imul X dX5_readNumber_90 ?_
              refine S_aload_n X dX5_readNumber_91 rfl hL26_0 ?_
              refine S_get X fgX5_9_2 0 rfl hf0 dX5_readNumber_92 ?_
              refine S_get X fgX5_51_6 1 rfl hf1 dX5_readNumber_95 ?_
              refine S_aload_n X dX5_readNumber_98 rfl hL26_0 ?_
              refine S_get (v := iv a1) X fgX5_15_2 0 rfl rfl dX5_readNumber_99 ?_
              refine S_iald X 2 rfl (by omega) (by omega) (nle rfl) dX5_readNumber_102 ?_
              have hb_10 := hT2 a1 (by omega) (by omega)
              refine S_iadd X dX5_readNumber_103 ?_
              refine S_bipush X dX5_readNumber_104 rfl ?_
              refine S_isub X dX5_readNumber_106 ?_
              refine S_istore X dX5_readNumber_107 (nle rfl) ?_
              refine S_aload_n X dX5_readNumber_109 rfl hL26_0 ?_
              refine S_dup X dX5_readNumber_110 ?_
              refine S_get (v := iv a1) X fgX5_15_2 0 rfl rfl dX5_readNumber_111 ?_
              refine S_iconst X dX5_readNumber_114 ?_
              refine S_iadd X dX5_readNumber_115 ?_
              refine S_put X fpX5_15_2 0 rfl FT_i dX5_readNumber_116 ?_
              refine S_w (ws' := [(h0, ob 2 (uF (uF (uF f 1 (iv (a1 + 1))) 2 (iv w)) 4 (iv x))), (ht, ob 6 ft), (hb, ar 160 T)]) (by simp only [List.set]; rw [uF_mv (j := 4) (k := 1) (by decide), uF_mv (j := 2) (k := 1) (by decide), uF_same (k := 1)]) ?_
              refine S_goto (tgt := 26) X dX5_readNumber_119 (by decide) ?_
              exact ih26 (a1 + 1) (((v * 10) + (T a1)) - 48) _ (by omega) (by omega) (fun r9 h9 => hk r9 (by rw [show 6 - (a1 - sk T n a).toNat = (6 - (a1 + 1 - sk T n a).toNat) + 1 by omega, numF_dig ⟨by omega, by omega, by omega⟩ (by omega)]; exact h9)) hL26_0 hL26_1 hL26_2 hL26_3 rfl hL26_5 (by omega)
            ·
              refine S_aload_n X dX5_readNumber_79 rfl hL26_0 ?_
              refine S_calli X (kX5_fail_2 l h0 ht hb f ft T n a1 w x hf0 hf1 hf2) (is := [0, 1, 2]) rfl (run_U X lkX5_48_2 0 rfl rfl (is := [0, 1, 2]) (avs := []) (rest := []) rfl rfl (nle rfl) ⟨nle rfl, nle rfl⟩ ⟨nle rfl, nle rfl⟩ dX5_readNumber_80 (by decide) rfl) (fun z_42 u_40 hp_41 => ?_)
              obtain ⟨hz_43, hu_44⟩ := hp_41
              subst hz_43
              subst hu_44
              refine ⟨rfl, ?_⟩
              refine S_w (ws' := [(h0, ob 2 (uF (uF (uF f 1 (iv a1)) 2 (iv a1)) 4 (iv x))), (ht, ob 6 ft), (hb, ar 160 T)]) rfl ?_
              refine S_pop X dX5_readNumber_83 ?_
              refine S_iconst X dX5_readNumber_84 ?_
              exact S_iret X (nle rfl) (nle rfl) dX5_readNumber_85 (hPo _ _ (Or.inl ⟨_, _, rfl, rfl, hk (.inl a1) (by rw [fuel6 (by omega) (by omega)]; exact numF_big ⟨by omega, by omega, by omega⟩ (by omega)), by omega, by omega⟩))
    exact lp26_1 (Int.toNat (161 - (sk T n a)) + 1) (sk T n a) 0 _ (by omega) (by omega) (fun r9 h9 => by rw [Int.sub_self] at h9; unfold pNum; rw [if_pos hd0]; exact congrArg (numE lo hi) h9) rfl rfl rfl rfl rfl rfl (by omega)
set_option maxHeartbeats 4000000 in
set_option maxRecDepth 100000 in
theorem kX5_nextClause_2 (l : Launch) (h0 : Nat) (ht : Nat) (hb : Nat) (f : Nat → AV) (ft : Nat → AV) (T : Int → Int) (n : Int) (a : Int) (w : Int) (x : Int) (hf0 : f 0 = rv ht) (hf1 : ft 0 = rv hb) (hf2 : ft 1 = iv n) (hT : okT T n) (ha : 0 ≤ a ∧ a ≤ n) : AMi l yX5_nextClause cX5_nextClause 1 .boolean 2 0 0 [rv h0] [(h0, ob 2 (uF (uF (uF f 1 (iv a)) 2 (iv w)) 4 (iv x))), (ht, ob 6 ft), (hb, ar 160 T)] (fun z u => (z = 0 ∧ u = [(h0, ob 2 (uF (uF (uF f 1 (iv (sk T n a))) 2 (iv w)) 4 (iv x))), (ht, ob 6 ft), (hb, ar 160 T)] ∧ ch T n (sk T n a) = 0) ∨ (∃ a2 : Int, ∃ fl : Int, z = 0 ∧ u = [(h0, ob 2 (uF (uF (uF f 1 (iv a2)) 2 (iv fl)) 4 (iv x))), (ht, ob 6 ft), (hb, ar 160 T)] ∧ (¬ ch T n (sk T n a) = 0 ∧ ¬ ch T n (sk T n a) = 59) ∧ a2 = sk T n a ∧ fl = sk T n a) ∨ (∃ a2 : Int, z = 1 ∧ u = [(h0, ob 2 (uF (uF (uF f 1 (iv a2)) 2 (iv w)) 4 (iv x))), (ht, ob 6 ft), (hb, ar 160 T)] ∧ ch T n (sk T n a) = 59 ∧ a2 = sk T n a + 1)) := by
  refine AMi.of2 rfl (nle rfl) ?_
  intro D G A p e s m args below meth c Po hPo X
  obtain ⟨hn0, hn1, hT2⟩ := id hT
  have hsk := sk_in (T := T) ha.2
  have hch := ch_in (a := sk T n a) hT (by omega)
  refine S_aload_n X dX5_nextClause_0 rfl rfl ?_
  refine S_calli X (kX5_peek_2 l h0 ht hb f ft T n a w x hf0 hf1 hf2 (by omega) (by omega)) (is := [0, 1, 2]) rfl (run_U X lkX5_40_2 0 rfl rfl (is := [0, 1, 2]) (avs := []) (rest := []) rfl rfl (nle rfl) ⟨nle rfl, nle rfl⟩ ⟨nle rfl, nle rfl⟩ dX5_nextClause_1 (by decide) rfl) (fun z_3 u_1 hp_2 => ?_)
  obtain ⟨hz_4, hu_5⟩ := hp_2
  subst hz_4
  subst hu_5
  refine ⟨rfl, ?_⟩
  refine S_w (ws' := [(h0, ob 2 (uF (uF (uF f 1 (iv (sk T n a))) 2 (iv w)) 4 (iv x))), (ht, ob 6 ft), (hb, ar 160 T)]) rfl ?_
  refine S_if_ne (tgt := 9) X dX5_nextClause_4 (by decide) (by omega) (fun c_6 => ?_) (fun c_6 => ?_)
  ·
    refine S_aload_n X dX5_nextClause_9 rfl rfl ?_
    refine S_bipush X dX5_nextClause_10 rfl ?_
    refine S_calli X (kX5_take_2 l h0 ht hb f ft T n (sk T n a) w x 59 hf0 hf1 hf2 (by omega) (by omega) (by omega)) (is := [0, 1, 2]) rfl (run_U X lkX5_44_2 0 rfl rfl (is := [0, 1, 2]) (avs := [iv 59]) (rest := []) rfl rfl (nle rfl) ⟨nle rfl, nle rfl⟩ ⟨nle rfl, nle rfl⟩ dX5_nextClause_12 (by decide) rfl) (fun z_9 u_7 hp_8 => ?_)
    rcases hp_8 with ⟨hz_10, hu_11, hq_12⟩ | ⟨hz_13, hu_14, hq_15⟩
    ·
      subst hz_10
      subst hu_11
      refine ⟨rfl, ?_⟩
      refine S_w (ws' := [(h0, ob 2 (uF (uF (uF f 1 (iv (sk T n (sk T n a)))) 2 (iv w)) 4 (iv x))), (ht, ob 6 ft), (hb, ar 160 T)]) rfl ?_
      rw [sk_idem] at hq_12
      refine S_if_ne (tgt := 25) X dX5_nextClause_15 (by decide) (by decide) (fun h9 => absurd h9 (by decide)) (fun _ => ?_)
      refine S_aload_n X dX5_nextClause_18 rfl rfl ?_
      refine S_calli X (kX5_fail_2 l h0 ht hb f ft T n (sk T n (sk T n a)) w x hf0 hf1 hf2) (is := [0, 1, 2]) rfl (run_U X lkX5_48_2 0 rfl rfl (is := [0, 1, 2]) (avs := []) (rest := []) rfl rfl (nle rfl) ⟨nle rfl, nle rfl⟩ ⟨nle rfl, nle rfl⟩ dX5_nextClause_19 (by decide) rfl) (fun z_19 u_17 hp_18 => ?_)
      obtain ⟨hz_20, hu_21⟩ := hp_18
      subst hz_20
      subst hu_21
      refine ⟨rfl, ?_⟩
      refine S_w (ws' := [(h0, ob 2 (uF (uF (uF f 1 (iv (sk T n (sk T n a)))) 2 (iv (sk T n (sk T n a)))) 4 (iv x))), (ht, ob 6 ft), (hb, ar 160 T)]) rfl ?_
      refine S_if_eq (tgt := 29) X dX5_nextClause_22 (by decide) (by decide) (fun _ => ?_) (fun h9 => absurd h9 (by decide))
      refine S_iconst X dX5_nextClause_29 ?_
      exact S_zret X (Or.inl rfl) (nle rfl) (nle rfl) dX5_nextClause_30 (hPo _ _ (Or.inr (Or.inl (⟨_, _, by first | rfl | omega, rfl, by omega, by rw [sk_idem], by rw [sk_idem]⟩))))
    ·
      subst hz_13
      subst hu_14
      refine ⟨rfl, ?_⟩
      refine S_w (ws' := [(h0, ob 2 (uF (uF (uF f 1 (iv (sk T n (sk T n a) + 1))) 2 (iv w)) 4 (iv x))), (ht, ob 6 ft), (hb, ar 160 T)]) rfl ?_
      rw [sk_idem] at hq_15
      refine S_if_ne (tgt := 25) X dX5_nextClause_15 (by decide) (by decide) (fun _ => ?_) (fun h9 => absurd h9 (by decide))
      refine S_iconst X dX5_nextClause_25 ?_
      refine S_goto (tgt := 30) X dX5_nextClause_26 (by decide) ?_
      exact S_zret X (Or.inr rfl) (nle rfl) (nle rfl) dX5_nextClause_30 (hPo _ _ (Or.inr (Or.inr (⟨_, by first | rfl | omega, rfl, by omega, by rw [sk_idem]⟩))))
  ·
    refine S_iconst X dX5_nextClause_7 ?_
    exact S_zret X (Or.inl rfl) (nle rfl) (nle rfl) dX5_nextClause_8 (hPo _ _ (Or.inl (⟨by first | rfl | omega, rfl, by omega⟩)))
