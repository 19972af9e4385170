/- 39.rq3.lean.txt -/
section pt_39rq3
theorem nb6_0 (s : Int) : 0 ≤ nb6 s := by unfold nb6; (repeat' split) <;> omega
theorem ring_end {F : Int → Int} {k a x pl : Int} (hk : 0 ≤ k ∧ k ≤ pl) (hit : a = itI F k x) (h : k = pl ∨ a = -1) : a = itI F pl x := by
  rcases h with h | h
  · rw [hit, h]
  · rw [h, itI_end hk.1 (by rw [← hit]; exact h) pl (by omega) hk.2]
def plR (Q B E : Int → Int) (p v : Int) : Int := if v = 0 then B p else if v = 1 then Q (5 * p + 0) else if v = 2 then Q (5 * p + 1) else if v = 3 then Q (5 * p + 2) else if v = 4 then Q (5 * p + 3) else if v = 5 then Q (5 * p + 4) else E p
set_option maxHeartbeats 4000000 in
set_option maxRecDepth 100000 in
theorem kX12_ring (l : Launch) (h0 : Nat) (f : Nat → AV) (pl : Int) (n : Int) (ec : Int) (hQ : Nat) (Q : Int → Int) (B : Int → Int) (E : Int → Int) (pp : Int) (hf0 : f 21 = iv pl) (hf1 : f 20 = rv hQ) (hz : okZ pl n ec (c5 Q 3) (c5 Q 4) B E) (hx_pp : inR pp) : AMi l yX12_ring cX12_ring 4 .int 2 0 0 [rv h0, iv pp] [(h0, ob 11 f), (hQ, ar 30 Q)] (fun z u => z = aRingR pl (c5 Q 3) pp ∧ u = [(h0, ob 11 f), (hQ, ar 30 Q)]) := by
  refine AMi.of2 rfl (nle rfl) ?_
  intro D G A p e s m args below meth c Po hPo X
  have hz6 := hz.2.1
  have hz0 := hz.1
  have hzn := hz.2.2.1
  have hzm := hz.2.2.2.1
  have hze := hz.2.2.2.2
  refine S_aload_n X dX12_ring_0 rfl rfl ?_
  refine S_iload_n X dX12_ring_1 rfl rfl ?_
  refine S_calli X (kX12_isPlayer l h0 f pl pp hf0 (by omega) (by omega)) (is := [0]) rfl (run_V X lkX12_281 0 rfl rfl (is := [0]) (avs := [iv pp]) (rest := []) rfl rfl (nle rfl) ⟨nle rfl, nle rfl⟩ ⟨nle rfl, nle rfl⟩ dX12_ring_2 (by decide) rfl) (fun z_3 u_1 hp_2 => ?_)
  rcases hp_2 with ⟨hz_4, hu_5, hq_6⟩ | ⟨hz_7, hu_8, hq_9⟩
  ·
    subst hz_4
    subst hu_5
    refine ⟨rfl, ?_⟩
    refine S_w (ws' := [(h0, ob 11 f), (hQ, ar 30 Q)]) rfl ?_
    refine S_if_ne (tgt := 10) X dX12_ring_5 (by decide) (by decide) (fun h9 => absurd h9 (by decide)) (fun _ => ?_)
    refine S_iconst X dX12_ring_8 ?_
    exact S_iret X (nle rfl) (nle rfl) dX12_ring_9 (hPo _ _ (⟨by unfold aRingR; rw [if_neg (by omega)], rfl⟩))
  ·
    subst hz_7
    subst hu_8
    refine ⟨rfl, ?_⟩
    refine S_w (ws' := [(h0, ob 11 f), (hQ, ar 30 Q)]) rfl ?_
    refine S_if_ne (tgt := 10) X dX12_ring_5 (by decide) (by decide) (fun _ => ?_) (fun h9 => absurd h9 (by decide))
    have hok := hz.s (by omega)
    have hpl := hok.2.1
    have hpl1 := hok.1
    have hn1 := hok.2.2.1
    have hn2 := hok.2.2.2.1
    have hec := hok.2.2.2.2
    refine S_iload_n X dX12_ring_10 rfl rfl ?_
    refine S_istore_n X dX12_ring_11 rfl (nle rfl) ?_
    refine S_iconst X dX12_ring_12 ?_
    refine S_istore_n X dX12_ring_13 rfl (nle rfl) ?_
    have lp14_1 : ∀ (N : Nat) (k : Int) (at9 : Int) (L : Nat → Option AV), 0 ≤ k ∧ k ≤ pl → -1 ≤ at9 ∧ at9 < pl → at9 = itI (c5 Q 3) k pp → L 0 = some (rv h0) → L 1 = some (iv pp) → L 2 = some (iv at9) → L 3 = some (iv k) → pl + 1 - k < (N : Int) → S_ p l e (rmD 2 0 0) s m args below meth c (MQ below (QcI D G A Po) args s 0 0 A) D G A 4 0 0 14 L [] [(h0, ob 11 f), (hQ, ar 30 Q)] := by
      intro N
      induction N with
      | zero =>
        intro k at9 L14 hk ha hit hL14_0 hL14_1 hL14_2 hL14_3 hN14
        exfalso; omega
      | succ N ih14 =>
        intro k at9 L14 hk ha hit hL14_0 hL14_1 hL14_2 hL14_3 hN14
        refine S_iload_n X dX12_ring_14 rfl hL14_3 ?_
        refine S_aload_n X dX12_ring_15 rfl hL14_0 ?_
        refine S_get X fgX12_253_11 0 rfl hf0 dX12_ring_16 ?_
        refine S_icmp_ge (tgt := 40) X dX12_ring_19 (by decide) (by omega) (by omega) (fun c_12 => ?_) (fun c_12 => ?_)
        ·
          have hitp := ring_end hk hit (by omega)
          refine S_iconst X dX12_ring_40 ?_
          refine S_istore_n X dX12_ring_41 rfl (nle rfl) ?_
          have lp42_4 : ∀ (N : Nat) (st : Int) (at9 : Int) (L : Nat → Option AV), 0 ≤ st ∧ st < 64 → 0 ≤ nb6 st → -1 ≤ at9 ∧ at9 < pl → rgN (c5 Q 3) ((nb6 st).toNat + 1) st at9 = rgN (c5 Q 3) 7 0 (itI (c5 Q 3) pl pp) → L 0 = some (rv h0) → L 1 = some (iv pp) → L 2 = some (iv at9) → L 3 = some (iv st) → nb6 st < (N : Int) → S_ p l e (rmD 2 0 0) s m args below meth c (MQ below (QcI D G A Po) args s 0 0 A) D G A 4 0 0 42 L [] [(h0, ob 11 f), (hQ, ar 30 Q)] := by
            intro N
            induction N with
            | zero =>
              intro st at9 L42 hst hnb ha hrg hL42_0 hL42_1 hL42_2 hL42_3 hN42
              exfalso; omega
            | succ N ih42 =>
              intro st at9 L42 hst hnb ha hrg hL42_0 hL42_1 hL42_2 hL42_3 hN42
              refine S_iload_n X dX12_ring_42 rfl hL42_2 ?_
              refine S_iconst X dX12_ring_43 ?_
              refine S_icmp_eq (tgt := 71) X dX12_ring_44 (by decide) (by omega) (by decide) (fun c_13 => ?_) (fun c_13 => ?_)
              ·
                refine S_iload_n X dX12_ring_71 rfl hL42_3 ?_
                exact S_iret X (nle rfl) (nle rfl) dX12_ring_72 (hPo _ _ (⟨by unfold aRingR; rw [if_pos (by omega), ← hrg, rgN, if_pos (by first | exact Or.inl (by assumption) | exact Or.inr hv9)], rfl⟩))
              ·
                refine S_iload_n X dX12_ring_47 rfl hL42_3 ?_
                refine S_iload_n X dX12_ring_48 rfl hL42_2 ?_
                refine S_calli X (kX12_has l st at9 ) (is := []) rfl (run_S X lkX12_226 (is := []) (avs := [iv st, iv at9]) (rest := []) rfl rfl (nle rfl) ⟨nle rfl, nle rfl⟩ ⟨nle rfl, nle rfl⟩ dX12_ring_49 (by decide) rfl) (fun z_16 u_14 hp_15 => ?_)
                rcases hp_15 with ⟨hz_17, hu_18, hq_19⟩ | ⟨hz_20, hu_21, hq_22⟩
                ·
                  subst hz_17
                  subst hu_18
                  refine ⟨rfl, ?_⟩
                  refine S_w (ws' := [(h0, ob 11 f), (hQ, ar 30 Q)]) rfl ?_
                  have hv9 := zMk_0 (mk := st) (b := at9) (by have := zAnd1 (zShr st at9); omega)
                  refine S_if_ne (tgt := 71) X dX12_ring_52 (by decide) (by decide) (fun h9 => absurd h9 (by decide)) (fun _ => ?_)
                  have h9 := sb6 hst (by omega) hv9
                  refine S_iload_n X dX12_ring_55 rfl hL42_3 ?_
                  refine S_iconst X dX12_ring_56 ?_
                  refine S_iload_n X dX12_ring_57 rfl hL42_2 ?_
                  refine S_ishl X dX12_ring_58 ?_
                  refine S_ior X dX12_ring_59 ?_
                  refine S_istore_n X dX12_ring_60 rfl (nle rfl) ?_
                  have hfo := (hok.2.2.2.2.2.2 at9 (by omega) (by omega)).1
                  unfold c5 at hfo
                  refine S_aload_n X dX12_ring_61 rfl hL42_0 ?_
                  refine S_iload_n X dX12_ring_62 rfl hL42_2 ?_
                  refine S_iconst X dX12_ring_63 ?_
                  refine S_calli X (kX12_of l h0 f hQ Q at9 3 hf1 (by omega) (by omega)) (is := [0, 1]) rfl (run_V X lkX12_284 0 rfl rfl (is := [0, 1]) (avs := [iv at9, iv 3]) (rest := []) rfl rfl (nle rfl) ⟨nle rfl, nle rfl⟩ ⟨nle rfl, nle rfl⟩ dX12_ring_64 (by decide) rfl) (fun z_26 u_24 hp_25 => ?_)
                  obtain ⟨hz_27, hu_28⟩ := hp_25
                  subst hz_27
                  subst hu_28
                  refine ⟨rfl, ?_⟩
                  refine S_w (ws' := [(h0, ob 11 f), (hQ, ar 30 Q)]) rfl ?_
                  refine S_istore_n X dX12_ring_67 rfl (nle rfl) ?_
                  refine S_goto (tgt := 42) X dX12_ring_68 (by decide) ?_
                  exact ih42 (zOr st (zShl 1 at9)) (Q (5 * at9 + 3)) _ (h9.2.1) (nb6_0 _) (by omega) (by have h8 := nb6_0 (zOr st (zShl 1 at9)); rw [rgN, if_neg (fun h7 => h7.elim (fun h6 => by omega) (fun h6 => by rw [hv9] at h6; cases h6))] at hrg; rw [h9.1, show (nb6 st - 1).toNat + 1 = (nb6 st).toNat by omega]; exact hrg) hL42_0 hL42_1 rfl rfl (by omega)
                ·
                  subst hz_20
                  subst hu_21
                  refine ⟨rfl, ?_⟩
                  refine S_w (ws' := [(h0, ob 11 f), (hQ, ar 30 Q)]) rfl ?_
                  have hv9 := zMk_1 (mk := st) (b := at9) (by have := zAnd1 (zShr st at9); omega)
                  refine S_if_ne (tgt := 71) X dX12_ring_52 (by decide) (by decide) (fun _ => ?_) (fun h9 => absurd h9 (by decide))
                  refine S_iload_n X dX12_ring_71 rfl hL42_3 ?_
                  exact S_iret X (nle rfl) (nle rfl) dX12_ring_72 (hPo _ _ (⟨by unfold aRingR; rw [if_pos (by omega), ← hrg, rgN, if_pos (by first | exact Or.inl (by assumption) | exact Or.inr hv9)], rfl⟩))
          exact lp42_4 (Int.toNat (nb6 0) + 1) 0 at9 _ (by decide) (nb6_0 _) (by omega) (by rw [show (nb6 0).toNat + 1 = 7 from by decide, ← hitp]) hL14_0 hL14_1 hL14_2 rfl (by omega)
        ·
          refine S_iload_n X dX12_ring_22 rfl hL14_2 ?_
          refine S_iconst X dX12_ring_23 ?_
          refine S_icmp_eq (tgt := 40) X dX12_ring_24 (by decide) (by omega) (by decide) (fun c_30 => ?_) (fun c_30 => ?_)
          ·
            have hitp := ring_end hk hit (by omega)
            refine S_iconst X dX12_ring_40 ?_
            refine S_istore_n X dX12_ring_41 rfl (nle rfl) ?_
            have lp42_5 : ∀ (N : Nat) (st : Int) (at9 : Int) (L : Nat → Option AV), 0 ≤ st ∧ st < 64 → 0 ≤ nb6 st → -1 ≤ at9 ∧ at9 < pl → rgN (c5 Q 3) ((nb6 st).toNat + 1) st at9 = rgN (c5 Q 3) 7 0 (itI (c5 Q 3) pl pp) → L 0 = some (rv h0) → L 1 = some (iv pp) → L 2 = some (iv at9) → L 3 = some (iv st) → nb6 st < (N : Int) → S_ p l e (rmD 2 0 0) s m args below meth c (MQ below (QcI D G A Po) args s 0 0 A) D G A 4 0 0 42 L [] [(h0, ob 11 f), (hQ, ar 30 Q)] := by
              intro N
              induction N with
              | zero =>
                intro st at9 L42 hst hnb ha hrg hL42_0 hL42_1 hL42_2 hL42_3 hN42
                exfalso; omega
              | succ N ih42 =>
                intro st at9 L42 hst hnb ha hrg hL42_0 hL42_1 hL42_2 hL42_3 hN42
                refine S_iload_n X dX12_ring_42 rfl hL42_2 ?_
                refine S_iconst X dX12_ring_43 ?_
                refine S_icmp_eq (tgt := 71) X dX12_ring_44 (by decide) (by omega) (by decide) (fun c_31 => ?_) (fun c_31 => ?_)
                ·
                  refine S_iload_n X dX12_ring_71 rfl hL42_3 ?_
                  exact S_iret X (nle rfl) (nle rfl) dX12_ring_72 (hPo _ _ (⟨by unfold aRingR; rw [if_pos (by omega), ← hrg, rgN, if_pos (by first | exact Or.inl (by assumption) | exact Or.inr hv9)], rfl⟩))
                ·
                  refine S_iload_n X dX12_ring_47 rfl hL42_3 ?_
                  refine S_iload_n X dX12_ring_48 rfl hL42_2 ?_
                  refine S_calli X (kX12_has l st at9 ) (is := []) rfl (run_S X lkX12_226 (is := []) (avs := [iv st, iv at9]) (rest := []) rfl rfl (nle rfl) ⟨nle rfl, nle rfl⟩ ⟨nle rfl, nle rfl⟩ dX12_ring_49 (by decide) rfl) (fun z_34 u_32 hp_33 => ?_)
                  rcases hp_33 with ⟨hz_35, hu_36, hq_37⟩ | ⟨hz_38, hu_39, hq_40⟩
                  ·
                    subst hz_35
                    subst hu_36
                    refine ⟨rfl, ?_⟩
                    refine S_w (ws' := [(h0, ob 11 f), (hQ, ar 30 Q)]) rfl ?_
                    have hv9 := zMk_0 (mk := st) (b := at9) (by have := zAnd1 (zShr st at9); omega)
                    refine S_if_ne (tgt := 71) X dX12_ring_52 (by decide) (by decide) (fun h9 => absurd h9 (by decide)) (fun _ => ?_)
                    have h9 := sb6 hst (by omega) hv9
                    refine S_iload_n X dX12_ring_55 rfl hL42_3 ?_
                    refine S_iconst X dX12_ring_56 ?_
                    refine S_iload_n X dX12_ring_57 rfl hL42_2 ?_
                    refine S_ishl X dX12_ring_58 ?_
                    refine S_ior X dX12_ring_59 ?_
                    refine S_istore_n X dX12_ring_60 rfl (nle rfl) ?_
                    have hfo := (hok.2.2.2.2.2.2 at9 (by omega) (by omega)).1
                    unfold c5 at hfo
                    refine S_aload_n X dX12_ring_61 rfl hL42_0 ?_
                    refine S_iload_n X dX12_ring_62 rfl hL42_2 ?_
                    refine S_iconst X dX12_ring_63 ?_
                    refine S_calli X (kX12_of l h0 f hQ Q at9 3 hf1 (by omega) (by omega)) (is := [0, 1]) rfl (run_V X lkX12_284 0 rfl rfl (is := [0, 1]) (avs := [iv at9, iv 3]) (rest := []) rfl rfl (nle rfl) ⟨nle rfl, nle rfl⟩ ⟨nle rfl, nle rfl⟩ dX12_ring_64 (by decide) rfl) (fun z_44 u_42 hp_43 => ?_)
                    obtain ⟨hz_45, hu_46⟩ := hp_43
                    subst hz_45
                    subst hu_46
                    refine ⟨rfl, ?_⟩
                    refine S_w (ws' := [(h0, ob 11 f), (hQ, ar 30 Q)]) rfl ?_
                    refine S_istore_n X dX12_ring_67 rfl (nle rfl) ?_
                    refine S_goto (tgt := 42) X dX12_ring_68 (by decide) ?_
                    exact ih42 (zOr st (zShl 1 at9)) (Q (5 * at9 + 3)) _ (h9.2.1) (nb6_0 _) (by omega) (by have h8 := nb6_0 (zOr st (zShl 1 at9)); rw [rgN, if_neg (fun h7 => h7.elim (fun h6 => by omega) (fun h6 => by rw [hv9] at h6; cases h6))] at hrg; rw [h9.1, show (nb6 st - 1).toNat + 1 = (nb6 st).toNat by omega]; exact hrg) hL42_0 hL42_1 rfl rfl (by omega)
                  ·
                    subst hz_38
                    subst hu_39
                    refine ⟨rfl, ?_⟩
                    refine S_w (ws' := [(h0, ob 11 f), (hQ, ar 30 Q)]) rfl ?_
                    have hv9 := zMk_1 (mk := st) (b := at9) (by have := zAnd1 (zShr st at9); omega)
                    refine S_if_ne (tgt := 71) X dX12_ring_52 (by decide) (by decide) (fun _ => ?_) (fun h9 => absurd h9 (by decide))
                    refine S_iload_n X dX12_ring_71 rfl hL42_3 ?_
                    exact S_iret X (nle rfl) (nle rfl) dX12_ring_72 (hPo _ _ (⟨by unfold aRingR; rw [if_pos (by omega), ← hrg, rgN, if_pos (by first | exact Or.inl (by assumption) | exact Or.inr hv9)], rfl⟩))
            exact lp42_5 (Int.toNat (nb6 0) + 1) 0 at9 _ (by decide) (nb6_0 _) (by omega) (by rw [show (nb6 0).toNat + 1 = 7 from by decide, ← hitp]) hL14_0 hL14_1 hL14_2 rfl (by omega)
          ·
            have hfo := (hok.2.2.2.2.2.2 at9 (by omega) (by omega)).1
            unfold c5 at hfo
            refine S_aload_n X dX12_ring_27 rfl hL14_0 ?_
            refine S_iload_n X dX12_ring_28 rfl hL14_2 ?_
            refine S_iconst X dX12_ring_29 ?_
            refine S_calli X (kX12_of l h0 f hQ Q at9 3 hf1 (by omega) (by omega)) (is := [0, 1]) rfl (run_V X lkX12_284 0 rfl rfl (is := [0, 1]) (avs := [iv at9, iv 3]) (rest := []) rfl rfl (nle rfl) ⟨nle rfl, nle rfl⟩ ⟨nle rfl, nle rfl⟩ dX12_ring_30 (by decide) rfl) (fun z_50 u_48 hp_49 => ?_)
            obtain ⟨hz_51, hu_52⟩ := hp_49
            subst hz_51
            subst hu_52
            refine ⟨rfl, ?_⟩
            refine S_w (ws' := [(h0, ob 11 f), (hQ, ar 30 Q)]) rfl ?_
            refine S_istore_n X dX12_ring_33 rfl (nle rfl) ?_
            refine S_iinc X dX12_ring_34 (nle rfl) hL14_3 ?_
            refine S_goto (tgt := 14) X dX12_ring_37 (by decide) ?_
            exact ih14 (k + 1) (Q (5 * at9 + 3)) _ (by omega) (by omega) (by rw [itI_S (by omega), ← hit, if_neg (by omega)]; rfl) hL14_0 hL14_1 rfl rfl (by omega)
    exact lp14_1 (Int.toNat (pl + 1 - 0) + 1) 0 pp _ (by omega) (by omega) (itI_0 (F := c5 Q 3)) rfl rfl rfl rfl (by omega)
set_option maxHeartbeats 4000000 in
set_option maxRecDepth 100000 in
theorem kX12_head (l : Launch) (h0 : Nat) (f : Nat → AV) (pl : Int) (n : Int) (ec : Int) (hQ : Nat) (Q : Int → Int) (B : Int → Int) (E : Int → Int) (pp : Int) (hf0 : f 21 = iv pl) (hf1 : f 20 = rv hQ) (hz : okZ pl n ec (c5 Q 3) (c5 Q 4) B E) (hx_pp : inR pp) : AMi l yX12_head cX12_head 4 .int 2 0 0 [rv h0, iv pp] [(h0, ob 11 f), (hQ, ar 30 Q)] (fun z u => z = aHeadR pl (c5 Q 3) pp ∧ u = [(h0, ob 11 f), (hQ, ar 30 Q)]) := by
  refine AMi.of2 rfl (nle rfl) ?_
  intro D G A p e s m args below meth c Po hPo X
  have hz6 := hz.2.1
  have hz0 := hz.1
  have hzn := hz.2.2.1
  have hzm := hz.2.2.2.1
  have hze := hz.2.2.2.2
  refine S_aload_n X dX12_head_0 rfl rfl ?_
  refine S_iload_n X dX12_head_1 rfl rfl ?_
  refine S_calli X (kX12_isPlayer l h0 f pl pp hf0 (by omega) (by omega)) (is := [0]) rfl (run_V X lkX12_281 0 rfl rfl (is := [0]) (avs := [iv pp]) (rest := []) rfl rfl (nle rfl) ⟨nle rfl, nle rfl⟩ ⟨nle rfl, nle rfl⟩ dX12_head_2 (by decide) rfl) (fun z_3 u_1 hp_2 => ?_)
  rcases hp_2 with ⟨hz_4, hu_5, hq_6⟩ | ⟨hz_7, hu_8, hq_9⟩
  ·
    subst hz_4
    subst hu_5
    refine ⟨rfl, ?_⟩
    refine S_w (ws' := [(h0, ob 11 f), (hQ, ar 30 Q)]) rfl ?_
    refine S_if_ne (tgt := 10) X dX12_head_5 (by decide) (by decide) (fun h9 => absurd h9 (by decide)) (fun _ => ?_)
    refine S_iconst X dX12_head_8 ?_
    exact S_iret X (nle rfl) (nle rfl) dX12_head_9 (hPo _ _ (⟨by unfold aHeadR; rw [if_neg (by omega)], rfl⟩))
  ·
    subst hz_7
    subst hu_8
    refine ⟨rfl, ?_⟩
    refine S_w (ws' := [(h0, ob 11 f), (hQ, ar 30 Q)]) rfl ?_
    refine S_if_ne (tgt := 10) X dX12_head_5 (by decide) (by decide) (fun _ => ?_) (fun h9 => absurd h9 (by decide))
    have hok := hz.s (by omega)
    have hpl := hok.2.1
    have hpl1 := hok.1
    have hn1 := hok.2.2.1
    have hn2 := hok.2.2.2.1
    have hec := hok.2.2.2.2
    refine S_iload_n X dX12_head_10 rfl rfl ?_
    refine S_istore_n X dX12_head_11 rfl (nle rfl) ?_
    refine S_iconst X dX12_head_12 ?_
    refine S_istore_n X dX12_head_13 rfl (nle rfl) ?_
    have lp14_1 : ∀ (N : Nat) (k : Int) (at9 : Int) (L : Nat → Option AV), 0 ≤ k ∧ k ≤ pl → 0 ≤ at9 ∧ at9 < pl → hdN (c5 Q 3) (pl - k).toNat at9 = hdN (c5 Q 3) pl.toNat pp → L 0 = some (rv h0) → L 1 = some (iv pp) → L 2 = some (iv at9) → L 3 = some (iv k) → pl + 1 - k < (N : Int) → S_ p l e (rmD 2 0 0) s m args below meth c (MQ below (QcI D G A Po) args s 0 0 A) D G A 4 0 0 14 L [] [(h0, ob 11 f), (hQ, ar 30 Q)] := by
      intro N
      induction N with
      | zero =>
        intro k at9 L14 hk ha hh hL14_0 hL14_1 hL14_2 hL14_3 hN14
        exfalso; omega
      | succ N ih14 =>
        intro k at9 L14 hk ha hh hL14_0 hL14_1 hL14_2 hL14_3 hN14
        refine S_iload_n X dX12_head_14 rfl hL14_3 ?_
        refine S_aload_n X dX12_head_15 rfl hL14_0 ?_
        refine S_get X fgX12_253_11 0 rfl hf0 dX12_head_16 ?_
        refine S_icmp_ge (tgt := 47) X dX12_head_19 (by decide) (by omega) (by omega) (fun c_12 => ?_) (fun c_12 => ?_)
        ·
          refine S_iconst X dX12_head_47 ?_
          exact S_iret X (nle rfl) (nle rfl) dX12_head_48 (hPo _ _ (⟨by unfold aHeadR; rw [if_pos (by omega), ← hh, show (pl - k).toNat = 0 by omega, hdN], rfl⟩))
        ·
          have hfo := (hok.2.2.2.2.2.2 at9 (by omega) (by omega)).1
          have hfe : c5 Q 3 at9 = Q (5 * at9 + 3) := rfl
          unfold c5 at hfo
          refine S_aload_n X dX12_head_22 rfl hL14_0 ?_
          refine S_iload_n X dX12_head_23 rfl hL14_2 ?_
          refine S_iconst X dX12_head_24 ?_
          refine S_calli X (kX12_of l h0 f hQ Q at9 3 hf1 (by omega) (by omega)) (is := [0, 1]) rfl (run_V X lkX12_284 0 rfl rfl (is := [0, 1]) (avs := [iv at9, iv 3]) (rest := []) rfl rfl (nle rfl) ⟨nle rfl, nle rfl⟩ ⟨nle rfl, nle rfl⟩ dX12_head_25 (by decide) rfl) (fun z_15 u_13 hp_14 => ?_)
          obtain ⟨hz_16, hu_17⟩ := hp_14
          subst hz_16
          subst hu_17
          refine ⟨rfl, ?_⟩
          refine S_w (ws' := [(h0, ob 11 f), (hQ, ar 30 Q)]) rfl ?_
          refine S_iconst X dX12_head_28 ?_
          refine S_icmp_ne (tgt := 34) X dX12_head_29 (by decide) (by omega) (by decide) (fun c_18 => ?_) (fun c_18 => ?_)
          ·
            refine S_aload_n X dX12_head_34 rfl hL14_0 ?_
            refine S_iload_n X dX12_head_35 rfl hL14_2 ?_
            refine S_iconst X dX12_head_36 ?_
            refine S_calli X (kX12_of l h0 f hQ Q at9 3 hf1 (by omega) (by omega)) (is := [0, 1]) rfl (run_V X lkX12_284 0 rfl rfl (is := [0, 1]) (avs := [iv at9, iv 3]) (rest := []) rfl rfl (nle rfl) ⟨nle rfl, nle rfl⟩ ⟨nle rfl, nle rfl⟩ dX12_head_37 (by decide) rfl) (fun z_21 u_19 hp_20 => ?_)
            obtain ⟨hz_22, hu_23⟩ := hp_20
            subst hz_22
            subst hu_23
            refine ⟨rfl, ?_⟩
            refine S_w (ws' := [(h0, ob 11 f), (hQ, ar 30 Q)]) rfl ?_
            refine S_istore_n X dX12_head_40 rfl (nle rfl) ?_
            refine S_iinc X dX12_head_41 (nle rfl) hL14_3 ?_
            refine S_goto (tgt := 14) X dX12_head_44 (by decide) ?_
            exact ih14 (k + 1) (Q (5 * at9 + 3)) _ (by omega) (by omega) (by rw [← hh, show (pl - k).toNat = (pl - (k + 1)).toNat + 1 by omega, hdN, if_neg (by omega)]; rfl) hL14_0 hL14_1 rfl rfl (by omega)
          ·
            refine S_iload_n X dX12_head_32 rfl hL14_2 ?_
            exact S_iret X (nle rfl) (nle rfl) dX12_head_33 (hPo _ _ (⟨by unfold aHeadR; rw [if_pos (by omega), ← hh, show (pl - k).toNat = (pl - (k + 1)).toNat + 1 by omega, hdN, if_pos (by omega)], rfl⟩))
    exact lp14_1 (Int.toNat (pl + 1 - 0) + 1) 0 pp _ (by omega) (by omega) (by rw [Int.sub_zero]) rfl rfl rfl rfl (by omega)
set_option maxHeartbeats 4000000 in
set_option maxRecDepth 100000 in
theorem kX12_player (l : Launch) (h0 : Nat) (f : Nat → AV) (pl : Int) (hQ : Nat) (hB : Nat) (hE : Nat) (Q : Int → Int) (B : Int → Int) (E : Int → Int) (th : Int) (pp : Int) (v : Int) (hf0 : f 21 = iv pl) (hf1 : f 20 = rv hQ) (hf2 : f 23 = rv hB) (hf3 : f 24 = rv hE) (hpl : 0 ≤ pl ∧ pl ≤ 6) (hx_pp : inR pp) (hx_v : inR v) : AMi l yX12_player cX12_player 3 .int 2 0 0 [rv h0, iv pp, iv v] [(h0, ob 11 (uF f 0 (iv th))), (hQ, ar 30 Q), (hB, ar 6 B), (hE, ar 6 E)] (fun z u => (z = 0 ∧ u = [(h0, ob 11 (uF f 0 (iv 1))), (hQ, ar 30 Q), (hB, ar 6 B), (hE, ar 6 E)] ∧ (¬ ((0 ≤ pp ∧ pp < pl) ∧ 0 ≤ v ∧ v ≤ 6))) ∨ (∃ z9 : Int, z = z9 ∧ u = [(h0, ob 11 (uF f 0 (iv 0))), (hQ, ar 30 Q), (hB, ar 6 B), (hE, ar 6 E)] ∧ ((0 ≤ pp ∧ pp < pl) ∧ 0 ≤ v ∧ v ≤ 6) ∧ z9 = plR Q B E pp v)) := by
  refine AMi.of2 rfl (nle rfl) ?_
  intro D G A p e s m args below meth c Po hPo X
  refine S_aload_n X dX12_player_0 rfl rfl ?_
  refine S_aload_n X dX12_player_1 rfl rfl ?_
  refine S_iload_n X dX12_player_2 rfl rfl ?_
  refine S_calli X (kX12_isPlayer l h0 (uF f 0 (iv th)) pl pp hf0 (by omega) (by omega)) (is := [0]) rfl (run_V X lkX12_281 0 rfl rfl (is := [0]) (avs := [iv pp]) (rest := [rv h0]) rfl rfl (nle rfl) ⟨nle rfl, nle rfl⟩ ⟨nle rfl, nle rfl⟩ dX12_player_3 (by decide) rfl) (fun z_3 u_1 hp_2 => ?_)
  rcases hp_2 with ⟨hz_4, hu_5, hq_6⟩ | ⟨hz_7, hu_8, hq_9⟩
  ·
    subst hz_4
    subst hu_5
    refine ⟨rfl, ?_⟩
    refine S_w (ws' := [(h0, ob 11 (uF f 0 (iv th))), (hQ, ar 30 Q), (hB, ar 6 B), (hE, ar 6 E)]) rfl ?_
    refine S_if_eq (tgt := 23) X dX12_player_6 (by decide) (by decide) (fun _ => ?_) (fun h9 => absurd h9 (by decide))
    refine S_iconst X dX12_player_23 ?_
    refine S_put X fpX12_101_11 0 rfl FT_i dX12_player_24 ?_
    refine S_w (ws' := [(h0, ob 11 (uF f 0 (iv 1))), (hQ, ar 30 Q), (hB, ar 6 B), (hE, ar 6 E)]) (by simp only [List.set]; rw [uF_same (k := 0)]) ?_
    refine S_aload_n X dX12_player_27 rfl rfl ?_
    refine S_get (v := iv 1) X fgX12_101_11 0 rfl rfl dX12_player_28 ?_
    refine S_iconst X dX12_player_31 ?_
    refine S_icmp_ne (tgt := 37) X dX12_player_32 (by decide) (by decide) (by decide) (fun h9 => absurd h9 (by decide)) (fun _ => ?_)
    refine S_iconst X dX12_player_35 ?_
    exact S_iret X (nle rfl) (nle rfl) dX12_player_36 (hPo _ _ (Or.inl ⟨rfl, rfl, by omega⟩))
  ·
    subst hz_7
    subst hu_8
    refine ⟨rfl, ?_⟩
    refine S_w (ws' := [(h0, ob 11 (uF f 0 (iv th))), (hQ, ar 30 Q), (hB, ar 6 B), (hE, ar 6 E)]) rfl ?_
    refine S_if_eq (tgt := 23) X dX12_player_6 (by decide) (by decide) (fun h9 => absurd h9 (by decide)) (fun _ => ?_)
    refine S_iload_n X dX12_player_9 rfl rfl ?_
    refine S_iconst X dX12_player_10 ?_
    refine S_bipush X dX12_player_11 rfl ?_
    refine S_calli X (kX12_in l v 0 6 (by omega) (by omega) (by omega)) (is := []) rfl (run_S X lkX12_216 (is := []) (avs := [iv v, iv 0, iv 6]) (rest := [rv h0]) rfl rfl (nle rfl) ⟨nle rfl, nle rfl⟩ ⟨nle rfl, nle rfl⟩ dX12_player_13 (by decide) rfl) (fun z_15 u_13 hp_14 => ?_)
    rcases hp_14 with ⟨hz_16, hu_17, hq_18⟩ | ⟨hz_19, hu_20, hq_21⟩
    ·
      subst hz_16
      subst hu_17
      refine ⟨rfl, ?_⟩
      refine S_w (ws' := [(h0, ob 11 (uF f 0 (iv th))), (hQ, ar 30 Q), (hB, ar 6 B), (hE, ar 6 E)]) rfl ?_
      refine S_if_eq (tgt := 23) X dX12_player_16 (by decide) (by decide) (fun _ => ?_) (fun h9 => absurd h9 (by decide))
      refine S_iconst X dX12_player_23 ?_
      refine S_put X fpX12_101_11 0 rfl FT_i dX12_player_24 ?_
      refine S_w (ws' := [(h0, ob 11 (uF f 0 (iv 1))), (hQ, ar 30 Q), (hB, ar 6 B), (hE, ar 6 E)]) (by simp only [List.set]; rw [uF_same (k := 0)]) ?_
      refine S_aload_n X dX12_player_27 rfl rfl ?_
      refine S_get (v := iv 1) X fgX12_101_11 0 rfl rfl dX12_player_28 ?_
      refine S_iconst X dX12_player_31 ?_
      refine S_icmp_ne (tgt := 37) X dX12_player_32 (by decide) (by decide) (by decide) (fun h9 => absurd h9 (by decide)) (fun _ => ?_)
      refine S_iconst X dX12_player_35 ?_
      exact S_iret X (nle rfl) (nle rfl) dX12_player_36 (hPo _ _ (Or.inl ⟨rfl, rfl, by omega⟩))
    ·
      subst hz_19
      subst hu_20
      refine ⟨rfl, ?_⟩
      refine S_w (ws' := [(h0, ob 11 (uF f 0 (iv th))), (hQ, ar 30 Q), (hB, ar 6 B), (hE, ar 6 E)]) rfl ?_
      refine S_if_eq (tgt := 23) X dX12_player_16 (by decide) (by decide) (fun h9 => absurd h9 (by decide)) (fun _ => ?_)
      refine S_iconst X dX12_player_19 ?_
      refine S_goto (tgt := 24) X dX12_player_20 (by decide) ?_
      refine S_put X fpX12_101_11 0 rfl FT_i dX12_player_24 ?_
      refine S_w (ws' := [(h0, ob 11 (uF f 0 (iv 0))), (hQ, ar 30 Q), (hB, ar 6 B), (hE, ar 6 E)]) (by simp only [List.set]; rw [uF_same (k := 0)]) ?_
      refine S_aload_n X dX12_player_27 rfl rfl ?_
      refine S_get (v := iv 0) X fgX12_101_11 0 rfl rfl dX12_player_28 ?_
      refine S_iconst X dX12_player_31 ?_
      refine S_icmp_ne (tgt := 37) X dX12_player_32 (by decide) (by decide) (by decide) (fun _ => ?_) (fun h9 => absurd h9 (by decide))
      refine S_iload_n X dX12_player_37 rfl rfl ?_
      by_cases hs_26 : v = 0
      · refine S_tswIn (j := 0) (tgt := 76) X dX12_player_38 hs_26 rfl (by decide) (by decide) ?_
        refine S_aload_n X dX12_player_76 rfl rfl ?_
        refine S_get X fgX12_46_11 0 rfl hf2 dX12_player_77 ?_
        refine S_iload_n X dX12_player_80 rfl rfl ?_
        refine S_iald X 2 rfl (by omega) (by omega) (nle rfl) dX12_player_81 ?_
        exact S_iret X (nle rfl) (nle rfl) dX12_player_82 (hPo _ _ (Or.inr ⟨_, rfl, rfl, by omega, by unfold plR; first | (rw [if_pos (by omega)]) | (rw [if_neg (by omega), if_pos (by omega)]) | (rw [if_neg (by omega), if_neg (by omega), if_pos (by omega)]) | (rw [if_neg (by omega), if_neg (by omega), if_neg (by omega), if_pos (by omega)]) | (rw [if_neg (by omega), if_neg (by omega), if_neg (by omega), if_neg (by omega), if_pos (by omega)]) | (rw [if_neg (by omega), if_neg (by omega), if_neg (by omega), if_neg (by omega), if_neg (by omega), if_pos (by omega)]) | (rw [if_neg (by omega), if_neg (by omega), if_neg (by omega), if_neg (by omega), if_neg (by omega), if_neg (by omega)])⟩))
      by_cases hs_27 : v = 1
      · refine S_tswIn (j := 1) (tgt := 83) X dX12_player_38 hs_27 rfl (by decide) (by decide) ?_
        refine S_aload_n X dX12_player_83 rfl rfl ?_
        refine S_iload_n X dX12_player_84 rfl rfl ?_
        refine S_iconst X dX12_player_85 ?_
        refine S_calli X (kX12_of l h0 (uF f 0 (iv 0)) hQ Q pp 0 hf1 (by omega) (by omega)) (is := [0, 1]) rfl (run_V X lkX12_284 0 rfl rfl (is := [0, 1]) (avs := [iv pp, iv 0]) (rest := []) rfl rfl (nle rfl) ⟨nle rfl, nle rfl⟩ ⟨nle rfl, nle rfl⟩ dX12_player_86 (by decide) rfl) (fun z_30 u_28 hp_29 => ?_)
        obtain ⟨hz_31, hu_32⟩ := hp_29
        subst hz_31
        subst hu_32
        refine ⟨rfl, ?_⟩
        refine S_w (ws' := [(h0, ob 11 (uF f 0 (iv 0))), (hQ, ar 30 Q), (hB, ar 6 B), (hE, ar 6 E)]) rfl ?_
        exact S_iret X (nle rfl) (nle rfl) dX12_player_89 (hPo _ _ (Or.inr ⟨_, rfl, rfl, by omega, by unfold plR; first | (rw [if_pos (by omega)]) | (rw [if_neg (by omega), if_pos (by omega)]) | (rw [if_neg (by omega), if_neg (by omega), if_pos (by omega)]) | (rw [if_neg (by omega), if_neg (by omega), if_neg (by omega), if_pos (by omega)]) | (rw [if_neg (by omega), if_neg (by omega), if_neg (by omega), if_neg (by omega), if_pos (by omega)]) | (rw [if_neg (by omega), if_neg (by omega), if_neg (by omega), if_neg (by omega), if_neg (by omega), if_pos (by omega)]) | (rw [if_neg (by omega), if_neg (by omega), if_neg (by omega), if_neg (by omega), if_neg (by omega), if_neg (by omega)])⟩))
      by_cases hs_33 : v = 2
      · refine S_tswIn (j := 2) (tgt := 90) X dX12_player_38 hs_33 rfl (by decide) (by decide) ?_
        refine S_aload_n X dX12_player_90 rfl rfl ?_
        refine S_iload_n X dX12_player_91 rfl rfl ?_
        refine S_iconst X dX12_player_92 ?_
        refine S_calli X (kX12_of l h0 (uF f 0 (iv 0)) hQ Q pp 1 hf1 (by omega) (by omega)) (is := [0, 1]) rfl (run_V X lkX12_284 0 rfl rfl (is := [0, 1]) (avs := [iv pp, iv 1]) (rest := []) rfl rfl (nle rfl) ⟨nle rfl, nle rfl⟩ ⟨nle rfl, nle rfl⟩ dX12_player_93 (by decide) rfl) (fun z_36 u_34 hp_35 => ?_)
        obtain ⟨hz_37, hu_38⟩ := hp_35
        subst hz_37
        subst hu_38
        refine ⟨rfl, ?_⟩
        refine S_w (ws' := [(h0, ob 11 (uF f 0 (iv 0))), (hQ, ar 30 Q), (hB, ar 6 B), (hE, ar 6 E)]) rfl ?_
        exact S_iret X (nle rfl) (nle rfl) dX12_player_96 (hPo _ _ (Or.inr ⟨_, rfl, rfl, by omega, by unfold plR; first | (rw [if_pos (by omega)]) | (rw [if_neg (by omega), if_pos (by omega)]) | (rw [if_neg (by omega), if_neg (by omega), if_pos (by omega)]) | (rw [if_neg (by omega), if_neg (by omega), if_neg (by omega), if_pos (by omega)]) | (rw [if_neg (by omega), if_neg (by omega), if_neg (by omega), if_neg (by omega), if_pos (by omega)]) | (rw [if_neg (by omega), if_neg (by omega), if_neg (by omega), if_neg (by omega), if_neg (by omega), if_pos (by omega)]) | (rw [if_neg (by omega), if_neg (by omega), if_neg (by omega), if_neg (by omega), if_neg (by omega), if_neg (by omega)])⟩))
      by_cases hs_39 : v = 3
      · refine S_tswIn (j := 3) (tgt := 97) X dX12_player_38 hs_39 rfl (by decide) (by decide) ?_
        refine S_aload_n X dX12_player_97 rfl rfl ?_
        refine S_iload_n X dX12_player_98 rfl rfl ?_
        refine S_iconst X dX12_player_99 ?_
        refine S_calli X (kX12_of l h0 (uF f 0 (iv 0)) hQ Q pp 2 hf1 (by omega) (by omega)) (is := [0, 1]) rfl (run_V X lkX12_284 0 rfl rfl (is := [0, 1]) (avs := [iv pp, iv 2]) (rest := []) rfl rfl (nle rfl) ⟨nle rfl, nle rfl⟩ ⟨nle rfl, nle rfl⟩ dX12_player_100 (by decide) rfl) (fun z_42 u_40 hp_41 => ?_)
        obtain ⟨hz_43, hu_44⟩ := hp_41
        subst hz_43
        subst hu_44
        refine ⟨rfl, ?_⟩
        refine S_w (ws' := [(h0, ob 11 (uF f 0 (iv 0))), (hQ, ar 30 Q), (hB, ar 6 B), (hE, ar 6 E)]) rfl ?_
        exact S_iret X (nle rfl) (nle rfl) dX12_player_103 (hPo _ _ (Or.inr ⟨_, rfl, rfl, by omega, by unfold plR; first | (rw [if_pos (by omega)]) | (rw [if_neg (by omega), if_pos (by omega)]) | (rw [if_neg (by omega), if_neg (by omega), if_pos (by omega)]) | (rw [if_neg (by omega), if_neg (by omega), if_neg (by omega), if_pos (by omega)]) | (rw [if_neg (by omega), if_neg (by omega), if_neg (by omega), if_neg (by omega), if_pos (by omega)]) | (rw [if_neg (by omega), if_neg (by omega), if_neg (by omega), if_neg (by omega), if_neg (by omega), if_pos (by omega)]) | (rw [if_neg (by omega), if_neg (by omega), if_neg (by omega), if_neg (by omega), if_neg (by omega), if_neg (by omega)])⟩))
      by_cases hs_45 : v = 4
      · refine S_tswIn (j := 4) (tgt := 104) X dX12_player_38 hs_45 rfl (by decide) (by decide) ?_
        refine S_aload_n X dX12_player_104 rfl rfl ?_
        refine S_iload_n X dX12_player_105 rfl rfl ?_
        refine S_iconst X dX12_player_106 ?_
        refine S_calli X (kX12_of l h0 (uF f 0 (iv 0)) hQ Q pp 3 hf1 (by omega) (by omega)) (is := [0, 1]) rfl (run_V X lkX12_284 0 rfl rfl (is := [0, 1]) (avs := [iv pp, iv 3]) (rest := []) rfl rfl (nle rfl) ⟨nle rfl, nle rfl⟩ ⟨nle rfl, nle rfl⟩ dX12_player_107 (by decide) rfl) (fun z_48 u_46 hp_47 => ?_)
        obtain ⟨hz_49, hu_50⟩ := hp_47
        subst hz_49
        subst hu_50
        refine ⟨rfl, ?_⟩
        refine S_w (ws' := [(h0, ob 11 (uF f 0 (iv 0))), (hQ, ar 30 Q), (hB, ar 6 B), (hE, ar 6 E)]) rfl ?_
        exact S_iret X (nle rfl) (nle rfl) dX12_player_110 (hPo _ _ (Or.inr ⟨_, rfl, rfl, by omega, by unfold plR; first | (rw [if_pos (by omega)]) | (rw [if_neg (by omega), if_pos (by omega)]) | (rw [if_neg (by omega), if_neg (by omega), if_pos (by omega)]) | (rw [if_neg (by omega), if_neg (by omega), if_neg (by omega), if_pos (by omega)]) | (rw [if_neg (by omega), if_neg (by omega), if_neg (by omega), if_neg (by omega), if_pos (by omega)]) | (rw [if_neg (by omega), if_neg (by omega), if_neg (by omega), if_neg (by omega), if_neg (by omega), if_pos (by omega)]) | (rw [if_neg (by omega), if_neg (by omega), if_neg (by omega), if_neg (by omega), if_neg (by omega), if_neg (by omega)])⟩))
      by_cases hs_51 : v = 5
      · refine S_tswIn (j := 5) (tgt := 111) X dX12_player_38 hs_51 rfl (by decide) (by decide) ?_
        refine S_aload_n X dX12_player_111 rfl rfl ?_
        refine S_iload_n X dX12_player_112 rfl rfl ?_
        refine S_iconst X dX12_player_113 ?_
        refine S_calli X (kX12_of l h0 (uF f 0 (iv 0)) hQ Q pp 4 hf1 (by omega) (by omega)) (is := [0, 1]) rfl (run_V X lkX12_284 0 rfl rfl (is := [0, 1]) (avs := [iv pp, iv 4]) (rest := []) rfl rfl (nle rfl) ⟨nle rfl, nle rfl⟩ ⟨nle rfl, nle rfl⟩ dX12_player_114 (by decide) rfl) (fun z_54 u_52 hp_53 => ?_)
        obtain ⟨hz_55, hu_56⟩ := hp_53
        subst hz_55
        subst hu_56
        refine ⟨rfl, ?_⟩
        refine S_w (ws' := [(h0, ob 11 (uF f 0 (iv 0))), (hQ, ar 30 Q), (hB, ar 6 B), (hE, ar 6 E)]) rfl ?_
        exact S_iret X (nle rfl) (nle rfl) dX12_player_117 (hPo _ _ (Or.inr ⟨_, rfl, rfl, by omega, by unfold plR; first | (rw [if_pos (by omega)]) | (rw [if_neg (by omega), if_pos (by omega)]) | (rw [if_neg (by omega), if_neg (by omega), if_pos (by omega)]) | (rw [if_neg (by omega), if_neg (by omega), if_neg (by omega), if_pos (by omega)]) | (rw [if_neg (by omega), if_neg (by omega), if_neg (by omega), if_neg (by omega), if_pos (by omega)]) | (rw [if_neg (by omega), if_neg (by omega), if_neg (by omega), if_neg (by omega), if_neg (by omega), if_pos (by omega)]) | (rw [if_neg (by omega), if_neg (by omega), if_neg (by omega), if_neg (by omega), if_neg (by omega), if_neg (by omega)])⟩))
      refine S_tswOut (tgt := 118) X dX12_player_38 (by omega) (by omega) (by decide) ?_
      refine S_aload_n X dX12_player_118 rfl rfl ?_
      refine S_get X fgX12_49_11 0 rfl hf3 dX12_player_119 ?_
      refine S_iload_n X dX12_player_122 rfl rfl ?_
      refine S_iald X 3 rfl (by omega) (by omega) (nle rfl) dX12_player_123 ?_
      exact S_iret X (nle rfl) (nle rfl) dX12_player_124 (hPo _ _ (Or.inr ⟨_, rfl, rfl, by omega, by unfold plR; first | (rw [if_pos (by omega)]) | (rw [if_neg (by omega), if_pos (by omega)]) | (rw [if_neg (by omega), if_neg (by omega), if_pos (by omega)]) | (rw [if_neg (by omega), if_neg (by omega), if_neg (by omega), if_pos (by omega)]) | (rw [if_neg (by omega), if_neg (by omega), if_neg (by omega), if_neg (by omega), if_pos (by omega)]) | (rw [if_neg (by omega), if_neg (by omega), if_neg (by omega), if_neg (by omega), if_neg (by omega), if_pos (by omega)]) | (rw [if_neg (by omega), if_neg (by omega), if_neg (by omega), if_neg (by omega), if_neg (by omega), if_neg (by omega)])⟩))
set_option maxHeartbeats 4000000 in
set_option maxRecDepth 100000 in
theorem kX12_set (l : Launch) (h0 : Nat) (f : Nat → AV) (ho : Int) (n : Int) (ec : Int) (lim : Int) (lw : Int) (v : Int) (x : Int) (hf0 : f 13 = iv lw) (hlw : 0 ≤ lw ∧ lw ≤ 4) (hx_v : inR v) (hx_x : inR x) : AMi l yX12_set cX12_set 3 .boolean 1 0 0 [rv h0, iv v, iv x] [(h0, ob 11 (uF (uF (uF (uF f 27 (iv ho)) 28 (iv n)) 29 (iv ec)) 30 (iv lim)))] (fun z u => (z = 0 ∧ u = [(h0, ob 11 (uF (uF (uF (uF f 27 (iv ho)) 28 (iv n)) 29 (iv ec)) 30 (iv lim)))] ∧ (¬ ((v = 0 ∧ -1 ≤ x ∧ x < lw) ∨ (v = 1 ∧ 1 ≤ x ∧ x ≤ 30) ∨ (v = 2 ∧ 0 ≤ x ∧ x ≤ 3) ∨ (v = 3 ∧ 0 ≤ x ∧ x ≤ 999)))) ∨ (z = 1 ∧ u = [(h0, ob 11 (uF (uF (uF (uF f 27 (iv x)) 28 (iv n)) 29 (iv ec)) 30 (iv lim)))] ∧ (v = 0 ∧ -1 ≤ x ∧ x < lw)) ∨ (z = 1 ∧ u = [(h0, ob 11 (uF (uF (uF (uF f 27 (iv ho)) 28 (iv x)) 29 (iv ec)) 30 (iv lim)))] ∧ (v = 1 ∧ 1 ≤ x ∧ x ≤ 30)) ∨ (z = 1 ∧ u = [(h0, ob 11 (uF (uF (uF (uF f 27 (iv ho)) 28 (iv n)) 29 (iv x)) 30 (iv lim)))] ∧ (v = 2 ∧ 0 ≤ x ∧ x ≤ 3)) ∨ (z = 1 ∧ u = [(h0, ob 11 (uF (uF (uF (uF f 27 (iv ho)) 28 (iv n)) 29 (iv ec)) 30 (iv x)))] ∧ (v = 3 ∧ 0 ≤ x ∧ x ≤ 999))) := by
  refine AMi.of2 rfl (nle rfl) ?_
  intro D G A p e s m args below meth c Po hPo X
  refine S_iload_n X dX12_set_0 rfl rfl ?_
  refine S_iconst X dX12_set_1 ?_
  refine S_iconst X dX12_set_2 ?_
  refine S_calli X (kX12_in l v 0 3 (by omega) (by omega) (by omega)) (is := []) rfl (run_S X lkX12_216 (is := []) (avs := [iv v, iv 0, iv 3]) (rest := []) rfl rfl (nle rfl) ⟨nle rfl, nle rfl⟩ ⟨nle rfl, nle rfl⟩ dX12_set_3 (by decide) rfl) (fun z_3 u_1 hp_2 => ?_)
  rcases hp_2 with ⟨hz_4, hu_5, hq_6⟩ | ⟨hz_7, hu_8, hq_9⟩
  ·
    subst hz_4
    subst hu_5
    refine ⟨rfl, ?_⟩
    refine S_w (ws' := [(h0, ob 11 (uF (uF (uF (uF f 27 (iv ho)) 28 (iv n)) 29 (iv ec)) 30 (iv lim)))]) rfl ?_
    refine S_if_eq (tgt := 69) X dX12_set_6 (by decide) (by decide) (fun _ => ?_) (fun h9 => absurd h9 (by decide))
    refine S_iconst X dX12_set_69 ?_
    exact S_zret X (Or.inl rfl) (nle rfl) (nle rfl) dX12_set_70 (hPo _ _ (Or.inl ⟨rfl, rfl, by omega⟩))
  ·
    subst hz_7
    subst hu_8
    refine ⟨rfl, ?_⟩
    refine S_w (ws' := [(h0, ob 11 (uF (uF (uF (uF f 27 (iv ho)) 28 (iv n)) 29 (iv ec)) 30 (iv lim)))]) rfl ?_
    refine S_if_eq (tgt := 69) X dX12_set_6 (by decide) (by decide) (fun h9 => absurd h9 (by decide)) (fun _ => ?_)
    refine S_iload_n X dX12_set_9 rfl rfl ?_
    refine S_iload_n X dX12_set_10 rfl rfl ?_
    refine S_if_ne (tgt := 18) X dX12_set_11 (by decide) (by omega) (fun c_12 => ?_) (fun c_12 => ?_)
    ·
      refine S_iload_n X dX12_set_18 rfl rfl ?_
      refine S_iconst X dX12_set_19 ?_
      refine S_icmp_ne (tgt := 27) X dX12_set_20 (by decide) (by omega) (by decide) (fun c_13 => ?_) (fun c_13 => ?_)
      ·
        refine S_iconst X dX12_set_27 ?_
        refine S_iload_n X dX12_set_28 rfl rfl ?_
        refine S_if_ne (tgt := 41) X dX12_set_29 (by decide) (by omega) (fun c_14 => ?_) (fun c_14 => ?_)
        ·
          refine S_iload_n X dX12_set_41 rfl rfl ?_
          refine S_iconst X dX12_set_42 ?_
          refine S_icmp_ne (tgt := 51) X dX12_set_43 (by decide) (by omega) (by decide) (fun c_15 => ?_) (fun c_15 => ?_)
          ·
            refine S_iload_n X dX12_set_51 rfl rfl ?_
            refine S_iconst X dX12_set_52 ?_
            refine S_icmp_ne (tgt := 60) X dX12_set_53 (by decide) (by omega) (by decide) (fun c_16 => ?_) (fun c_16 => ?_)
            ·
              refine S_sipush X dX12_set_60 rfl ?_
              refine S_calli X (kX12_in l x 0 999 (by omega) (by omega) (by omega)) (is := []) rfl (run_S X lkX12_216 (is := []) (avs := [iv x, iv 0, iv 999]) (rest := []) rfl rfl (nle rfl) ⟨nle rfl, nle rfl⟩ ⟨nle rfl, nle rfl⟩ dX12_set_63 (by decide) rfl) (fun z_19 u_17 hp_18 => ?_)
              rcases hp_18 with ⟨hz_20, hu_21, hq_22⟩ | ⟨hz_23, hu_24, hq_25⟩
              ·
                subst hz_20
                subst hu_21
                refine ⟨rfl, ?_⟩
                refine S_w (ws' := [(h0, ob 11 (uF (uF (uF (uF f 27 (iv ho)) 28 (iv n)) 29 (iv ec)) 30 (iv lim)))]) rfl ?_
                refine S_if_ne (tgt := 71) X dX12_set_66 (by decide) (by decide) (fun h9 => absurd h9 (by decide)) (fun _ => ?_)
                refine S_iconst X dX12_set_69 ?_
                exact S_zret X (Or.inl rfl) (nle rfl) (nle rfl) dX12_set_70 (hPo _ _ (Or.inl ⟨rfl, rfl, by omega⟩))
              ·
                subst hz_23
                subst hu_24
                refine ⟨rfl, ?_⟩
                refine S_w (ws' := [(h0, ob 11 (uF (uF (uF (uF f 27 (iv ho)) 28 (iv n)) 29 (iv ec)) 30 (iv lim)))]) rfl ?_
                refine S_if_ne (tgt := 71) X dX12_set_66 (by decide) (by decide) (fun _ => ?_) (fun h9 => absurd h9 (by decide))
                refine S_aload_n X dX12_set_71 rfl rfl ?_
                refine S_iload_n X dX12_set_72 rfl rfl ?_
                refine S_if_ne (tgt := 80) X dX12_set_73 (by decide) (by omega) (fun c_28 => ?_) (fun c_28 => ?_)
                ·
                  refine S_aload_n X dX12_set_80 rfl rfl ?_
                  refine S_get (v := iv ho) X fgX12_52_11 0 rfl rfl dX12_set_81 ?_
                  refine S_put X fpX12_52_11 0 rfl FT_i dX12_set_84 ?_
                  refine S_w (ws' := [(h0, ob 11 (uF (uF (uF (uF f 27 (iv ho)) 28 (iv n)) 29 (iv ec)) 30 (iv lim)))]) (by simp only [List.set]; rw [uF_mv (j := 30) (k := 27) (by decide), uF_mv (j := 29) (k := 27) (by decide), uF_mv (j := 28) (k := 27) (by decide), uF_same (k := 27)]) ?_
                  refine S_aload_n X dX12_set_87 rfl rfl ?_
                  refine S_iload_n X dX12_set_88 rfl rfl ?_
                  refine S_iconst X dX12_set_89 ?_
                  refine S_icmp_ne (tgt := 97) X dX12_set_90 (by decide) (by omega) (by decide) (fun c_29 => ?_) (fun c_29 => ?_)
                  ·
                    refine S_aload_n X dX12_set_97 rfl rfl ?_
                    refine S_get (v := iv n) X fgX12_56_11 0 rfl rfl dX12_set_98 ?_
                    refine S_put X fpX12_56_11 0 rfl FT_i dX12_set_101 ?_
                    refine S_w (ws' := [(h0, ob 11 (uF (uF (uF (uF f 27 (iv ho)) 28 (iv n)) 29 (iv ec)) 30 (iv lim)))]) (by simp only [List.set]; rw [uF_mv (j := 30) (k := 28) (by decide), uF_mv (j := 29) (k := 28) (by decide), uF_same (k := 28)]) ?_
                    refine S_aload_n X dX12_set_104 rfl rfl ?_
                    refine S_iload_n X dX12_set_105 rfl rfl ?_
                    refine S_iconst X dX12_set_106 ?_
                    refine S_icmp_ne (tgt := 114) X dX12_set_107 (by decide) (by omega) (by decide) (fun c_30 => ?_) (fun c_30 => ?_)
                    ·
                      refine S_aload_n X dX12_set_114 rfl rfl ?_
                      refine S_get (v := iv ec) X fgX12_287_11 0 rfl rfl dX12_set_115 ?_
                      refine S_put X fpX12_287_11 0 rfl FT_i dX12_set_118 ?_
                      refine S_w (ws' := [(h0, ob 11 (uF (uF (uF (uF f 27 (iv ho)) 28 (iv n)) 29 (iv ec)) 30 (iv lim)))]) (by simp only [List.set]; rw [uF_mv (j := 30) (k := 29) (by decide), uF_same (k := 29)]) ?_
                      refine S_aload_n X dX12_set_121 rfl rfl ?_
                      refine S_iload_n X dX12_set_122 rfl rfl ?_
                      refine S_iconst X dX12_set_123 ?_
                      refine S_icmp_ne (tgt := 131) X dX12_set_124 (by decide) (by omega) (by decide) (fun c_31 => ?_) (fun c_31 => ?_)
                      ·
                        refine S_aload_n X dX12_set_131 rfl rfl ?_
                        refine S_get (v := iv lim) X fgX12_59_11 0 rfl rfl dX12_set_132 ?_
                        refine S_put X fpX12_59_11 0 rfl FT_i dX12_set_135 ?_
                        refine S_w (ws' := [(h0, ob 11 (uF (uF (uF (uF f 27 (iv ho)) 28 (iv n)) 29 (iv ec)) 30 (iv lim)))]) (by simp only [List.set]; rw [uF_same (k := 30)]) ?_
                        refine S_iconst X dX12_set_138 ?_
                        exact S_zret X (Or.inr rfl) (nle rfl) (nle rfl) dX12_set_139 (hPo _ _ ((by exfalso; omega)))
                      ·
                        refine S_iload_n X dX12_set_127 rfl rfl ?_
                        refine S_goto (tgt := 135) X dX12_set_128 (by decide) ?_
                        refine S_put X fpX12_59_11 0 rfl FT_i dX12_set_135 ?_
                        refine S_w (ws' := [(h0, ob 11 (uF (uF (uF (uF f 27 (iv ho)) 28 (iv n)) 29 (iv ec)) 30 (iv x)))]) (by simp only [List.set]; rw [uF_same (k := 30)]) ?_
                        refine S_iconst X dX12_set_138 ?_
                        exact S_zret X (Or.inr rfl) (nle rfl) (nle rfl) dX12_set_139 (hPo _ _ (Or.inr (Or.inr (Or.inr (Or.inr (⟨rfl, rfl, by omega⟩))))))
                    ·
                      refine S_iload_n X dX12_set_110 rfl rfl ?_
                      refine S_goto (tgt := 118) X dX12_set_111 (by decide) ?_
                      refine S_put X fpX12_287_11 0 rfl FT_i dX12_set_118 ?_
                      refine S_w (ws' := [(h0, ob 11 (uF (uF (uF (uF f 27 (iv ho)) 28 (iv n)) 29 (iv x)) 30 (iv lim)))]) (by simp only [List.set]; rw [uF_mv (j := 30) (k := 29) (by decide), uF_same (k := 29)]) ?_
                      refine S_aload_n X dX12_set_121 rfl rfl ?_
                      refine S_iload_n X dX12_set_122 rfl rfl ?_
                      refine S_iconst X dX12_set_123 ?_
                      refine S_icmp_ne (tgt := 131) X dX12_set_124 (by decide) (by omega) (by decide) (fun c_32 => ?_) (fun c_32 => ?_)
                      ·
                        refine S_aload_n X dX12_set_131 rfl rfl ?_
                        refine S_get (v := iv lim) X fgX12_59_11 0 rfl rfl dX12_set_132 ?_
                        refine S_put X fpX12_59_11 0 rfl FT_i dX12_set_135 ?_
                        refine S_w (ws' := [(h0, ob 11 (uF (uF (uF (uF f 27 (iv ho)) 28 (iv n)) 29 (iv x)) 30 (iv lim)))]) (by simp only [List.set]; rw [uF_same (k := 30)]) ?_
                        refine S_iconst X dX12_set_138 ?_
                        exact S_zret X (Or.inr rfl) (nle rfl) (nle rfl) dX12_set_139 (hPo _ _ (Or.inr (Or.inr (Or.inr (Or.inl (⟨rfl, rfl, by omega⟩))))))
                      ·
                        refine S_iload_n X dX12_set_127 rfl rfl ?_
                        refine S_goto (tgt := 135) X dX12_set_128 (by decide) ?_
                        refine S_put X fpX12_59_11 0 rfl FT_i dX12_set_135 ?_
                        refine S_w (ws' := [(h0, ob 11 (uF (uF (uF (uF f 27 (iv ho)) 28 (iv n)) 29 (iv x)) 30 (iv x)))]) (by simp only [List.set]; rw [uF_same (k := 30)]) ?_
                        refine S_iconst X dX12_set_138 ?_
                        exact S_zret X (Or.inr rfl) (nle rfl) (nle rfl) dX12_set_139 (hPo _ _ ((by exfalso; omega)))
                  ·
                    refine S_iload_n X dX12_set_93 rfl rfl ?_
                    refine S_goto (tgt := 101) X dX12_set_94 (by decide) ?_
                    refine S_put X fpX12_56_11 0 rfl FT_i dX12_set_101 ?_
                    refine S_w (ws' := [(h0, ob 11 (uF (uF (uF (uF f 27 (iv ho)) 28 (iv x)) 29 (iv ec)) 30 (iv lim)))]) (by simp only [List.set]; rw [uF_mv (j := 30) (k := 28) (by decide), uF_mv (j := 29) (k := 28) (by decide), uF_same (k := 28)]) ?_
                    refine S_aload_n X dX12_set_104 rfl rfl ?_
                    refine S_iload_n X dX12_set_105 rfl rfl ?_
                    refine S_iconst X dX12_set_106 ?_
                    refine S_icmp_ne (tgt := 114) X dX12_set_107 (by decide) (by omega) (by decide) (fun c_33 => ?_) (fun c_33 => ?_)
                    ·
                      refine S_aload_n X dX12_set_114 rfl rfl ?_
                      refine S_get (v := iv ec) X fgX12_287_11 0 rfl rfl dX12_set_115 ?_
                      refine S_put X fpX12_287_11 0 rfl FT_i dX12_set_118 ?_
                      refine S_w (ws' := [(h0, ob 11 (uF (uF (uF (uF f 27 (iv ho)) 28 (iv x)) 29 (iv ec)) 30 (iv lim)))]) (by simp only [List.set]; rw [uF_mv (j := 30) (k := 29) (by decide), uF_same (k := 29)]) ?_
                      refine S_aload_n X dX12_set_121 rfl rfl ?_
                      refine S_iload_n X dX12_set_122 rfl rfl ?_
                      refine S_iconst X dX12_set_123 ?_
                      refine S_icmp_ne (tgt := 131) X dX12_set_124 (by decide) (by omega) (by decide) (fun c_34 => ?_) (fun c_34 => ?_)
                      ·
                        refine S_aload_n X dX12_set_131 rfl rfl ?_
                        refine S_get (v := iv lim) X fgX12_59_11 0 rfl rfl dX12_set_132 ?_
                        refine S_put X fpX12_59_11 0 rfl FT_i dX12_set_135 ?_
                        refine S_w (ws' := [(h0, ob 11 (uF (uF (uF (uF f 27 (iv ho)) 28 (iv x)) 29 (iv ec)) 30 (iv lim)))]) (by simp only [List.set]; rw [uF_same (k := 30)]) ?_
                        refine S_iconst X dX12_set_138 ?_
                        exact S_zret X (Or.inr rfl) (nle rfl) (nle rfl) dX12_set_139 (hPo _ _ (Or.inr (Or.inr (Or.inl (⟨rfl, rfl, by omega⟩)))))
                      ·
                        refine S_iload_n X dX12_set_127 rfl rfl ?_
                        refine S_goto (tgt := 135) X dX12_set_128 (by decide) ?_
                        refine S_put X fpX12_59_11 0 rfl FT_i dX12_set_135 ?_
                        refine S_w (ws' := [(h0, ob 11 (uF (uF (uF (uF f 27 (iv ho)) 28 (iv x)) 29 (iv ec)) 30 (iv x)))]) (by simp only [List.set]; rw [uF_same (k := 30)]) ?_
                        refine S_iconst X dX12_set_138 ?_
                        exact S_zret X (Or.inr rfl) (nle rfl) (nle rfl) dX12_set_139 (hPo _ _ ((by exfalso; omega)))
                    ·
                      refine S_iload_n X dX12_set_110 rfl rfl ?_
                      refine S_goto (tgt := 118) X dX12_set_111 (by decide) ?_
                      refine S_put X fpX12_287_11 0 rfl FT_i dX12_set_118 ?_
                      refine S_w (ws' := [(h0, ob 11 (uF (uF (uF (uF f 27 (iv ho)) 28 (iv x)) 29 (iv x)) 30 (iv lim)))]) (by simp only [List.set]; rw [uF_mv (j := 30) (k := 29) (by decide), uF_same (k := 29)]) ?_
                      refine S_aload_n X dX12_set_121 rfl rfl ?_
                      refine S_iload_n X dX12_set_122 rfl rfl ?_
                      refine S_iconst X dX12_set_123 ?_
                      refine S_icmp_ne (tgt := 131) X dX12_set_124 (by decide) (by omega) (by decide) (fun c_35 => ?_) (fun c_35 => ?_)
                      ·
                        refine S_aload_n X dX12_set_131 rfl rfl ?_
                        refine S_get (v := iv lim) X fgX12_59_11 0 rfl rfl dX12_set_132 ?_
                        refine S_put X fpX12_59_11 0 rfl FT_i dX12_set_135 ?_
                        refine S_w (ws' := [(h0, ob 11 (uF (uF (uF (uF f 27 (iv ho)) 28 (iv x)) 29 (iv x)) 30 (iv lim)))]) (by simp only [List.set]; rw [uF_same (k := 30)]) ?_
                        refine S_iconst X dX12_set_138 ?_
                        exact S_zret X (Or.inr rfl) (nle rfl) (nle rfl) dX12_set_139 (hPo _ _ ((by exfalso; omega)))
                      ·
                        refine S_iload_n X dX12_set_127 rfl rfl ?_
                        refine S_goto (tgt := 135) X dX12_set_128 (by decide) ?_
                        refine S_put X fpX12_59_11 0 rfl FT_i dX12_set_135 ?_
                        refine S_w (ws' := [(h0, ob 11 (uF (uF (uF (uF f 27 (iv ho)) 28 (iv x)) 29 (iv x)) 30 (iv x)))]) (by simp only [List.set]; rw [uF_same (k := 30)]) ?_
                        refine S_iconst X dX12_set_138 ?_
                        exact S_zret X (Or.inr rfl) (nle rfl) (nle rfl) dX12_set_139 (hPo _ _ ((by exfalso; omega)))
                ·
                  refine S_iload_n X dX12_set_76 rfl rfl ?_
                  refine S_goto (tgt := 84) X dX12_set_77 (by decide) ?_
                  refine S_put X fpX12_52_11 0 rfl FT_i dX12_set_84 ?_
                  refine S_w (ws' := [(h0, ob 11 (uF (uF (uF (uF f 27 (iv x)) 28 (iv n)) 29 (iv ec)) 30 (iv lim)))]) (by simp only [List.set]; rw [uF_mv (j := 30) (k := 27) (by decide), uF_mv (j := 29) (k := 27) (by decide), uF_mv (j := 28) (k := 27) (by decide), uF_same (k := 27)]) ?_
                  refine S_aload_n X dX12_set_87 rfl rfl ?_
                  refine S_iload_n X dX12_set_88 rfl rfl ?_
                  refine S_iconst X dX12_set_89 ?_
                  refine S_icmp_ne (tgt := 97) X dX12_set_90 (by decide) (by omega) (by decide) (fun c_36 => ?_) (fun c_36 => ?_)
                  ·
                    refine S_aload_n X dX12_set_97 rfl rfl ?_
                    refine S_get (v := iv n) X fgX12_56_11 0 rfl rfl dX12_set_98 ?_
                    refine S_put X fpX12_56_11 0 rfl FT_i dX12_set_101 ?_
                    refine S_w (ws' := [(h0, ob 11 (uF (uF (uF (uF f 27 (iv x)) 28 (iv n)) 29 (iv ec)) 30 (iv lim)))]) (by simp only [List.set]; rw [uF_mv (j := 30) (k := 28) (by decide), uF_mv (j := 29) (k := 28) (by decide), uF_same (k := 28)]) ?_
                    refine S_aload_n X dX12_set_104 rfl rfl ?_
                    refine S_iload_n X dX12_set_105 rfl rfl ?_
                    refine S_iconst X dX12_set_106 ?_
                    refine S_icmp_ne (tgt := 114) X dX12_set_107 (by decide) (by omega) (by decide) (fun c_37 => ?_) (fun c_37 => ?_)
                    ·
                      refine S_aload_n X dX12_set_114 rfl rfl ?_
                      refine S_get (v := iv ec) X fgX12_287_11 0 rfl rfl dX12_set_115 ?_
                      refine S_put X fpX12_287_11 0 rfl FT_i dX12_set_118 ?_
                      refine S_w (ws' := [(h0, ob 11 (uF (uF (uF (uF f 27 (iv x)) 28 (iv n)) 29 (iv ec)) 30 (iv lim)))]) (by simp only [List.set]; rw [uF_mv (j := 30) (k := 29) (by decide), uF_same (k := 29)]) ?_
                      refine S_aload_n X dX12_set_121 rfl rfl ?_
                      refine S_iload_n X dX12_set_122 rfl rfl ?_
                      refine S_iconst X dX12_set_123 ?_
                      refine S_icmp_ne (tgt := 131) X dX12_set_124 (by decide) (by omega) (by decide) (fun c_38 => ?_) (fun c_38 => ?_)
                      ·
                        refine S_aload_n X dX12_set_131 rfl rfl ?_
                        refine S_get (v := iv lim) X fgX12_59_11 0 rfl rfl dX12_set_132 ?_
                        refine S_put X fpX12_59_11 0 rfl FT_i dX12_set_135 ?_
                        refine S_w (ws' := [(h0, ob 11 (uF (uF (uF (uF f 27 (iv x)) 28 (iv n)) 29 (iv ec)) 30 (iv lim)))]) (by simp only [List.set]; rw [uF_same (k := 30)]) ?_
                        refine S_iconst X dX12_set_138 ?_
                        exact S_zret X (Or.inr rfl) (nle rfl) (nle rfl) dX12_set_139 (hPo _ _ (Or.inr (Or.inl (⟨rfl, rfl, by omega⟩))))
                      ·
                        refine S_iload_n X dX12_set_127 rfl rfl ?_
                        refine S_goto (tgt := 135) X dX12_set_128 (by decide) ?_
                        refine S_put X fpX12_59_11 0 rfl FT_i dX12_set_135 ?_
                        refine S_w (ws' := [(h0, ob 11 (uF (uF (uF (uF f 27 (iv x)) 28 (iv n)) 29 (iv ec)) 30 (iv x)))]) (by simp only [List.set]; rw [uF_same (k := 30)]) ?_
                        refine S_iconst X dX12_set_138 ?_
                        exact S_zret X (Or.inr rfl) (nle rfl) (nle rfl) dX12_set_139 (hPo _ _ ((by exfalso; omega)))
                    ·
                      refine S_iload_n X dX12_set_110 rfl rfl ?_
                      refine S_goto (tgt := 118) X dX12_set_111 (by decide) ?_
                      refine S_put X fpX12_287_11 0 rfl FT_i dX12_set_118 ?_
                      refine S_w (ws' := [(h0, ob 11 (uF (uF (uF (uF f 27 (iv x)) 28 (iv n)) 29 (iv x)) 30 (iv lim)))]) (by simp only [List.set]; rw [uF_mv (j := 30) (k := 29) (by decide), uF_same (k := 29)]) ?_
                      refine S_aload_n X dX12_set_121 rfl rfl ?_
                      refine S_iload_n X dX12_set_122 rfl rfl ?_
                      refine S_iconst X dX12_set_123 ?_
                      refine S_icmp_ne (tgt := 131) X dX12_set_124 (by decide) (by omega) (by decide) (fun c_39 => ?_) (fun c_39 => ?_)
                      ·
                        refine S_aload_n X dX12_set_131 rfl rfl ?_
                        refine S_get (v := iv lim) X fgX12_59_11 0 rfl rfl dX12_set_132 ?_
                        refine S_put X fpX12_59_11 0 rfl FT_i dX12_set_135 ?_
                        refine S_w (ws' := [(h0, ob 11 (uF (uF (uF (uF f 27 (iv x)) 28 (iv n)) 29 (iv x)) 30 (iv lim)))]) (by simp only [List.set]; rw [uF_same (k := 30)]) ?_
                        refine S_iconst X dX12_set_138 ?_
                        exact S_zret X (Or.inr rfl) (nle rfl) (nle rfl) dX12_set_139 (hPo _ _ ((by exfalso; omega)))
                      ·
                        refine S_iload_n X dX12_set_127 rfl rfl ?_
                        refine S_goto (tgt := 135) X dX12_set_128 (by decide) ?_
                        refine S_put X fpX12_59_11 0 rfl FT_i dX12_set_135 ?_
                        refine S_w (ws' := [(h0, ob 11 (uF (uF (uF (uF f 27 (iv x)) 28 (iv n)) 29 (iv x)) 30 (iv x)))]) (by simp only [List.set]; rw [uF_same (k := 30)]) ?_
                        refine S_iconst X dX12_set_138 ?_
                        exact S_zret X (Or.inr rfl) (nle rfl) (nle rfl) dX12_set_139 (hPo _ _ ((by exfalso; omega)))
                  ·
                    refine S_iload_n X dX12_set_93 rfl rfl ?_
                    refine S_goto (tgt := 101) X dX12_set_94 (by decide) ?_
                    refine S_put X fpX12_56_11 0 rfl FT_i dX12_set_101 ?_
                    refine S_w (ws' := [(h0, ob 11 (uF (uF (uF (uF f 27 (iv x)) 28 (iv x)) 29 (iv ec)) 30 (iv lim)))]) (by simp only [List.set]; rw [uF_mv (j := 30) (k := 28) (by decide), uF_mv (j := 29) (k := 28) (by decide), uF_same (k := 28)]) ?_
                    refine S_aload_n X dX12_set_104 rfl rfl ?_
                    refine S_iload_n X dX12_set_105 rfl rfl ?_
                    refine S_iconst X dX12_set_106 ?_
                    refine S_icmp_ne (tgt := 114) X dX12_set_107 (by decide) (by omega) (by decide) (fun c_40 => ?_) (fun c_40 => ?_)
                    ·
                      refine S_aload_n X dX12_set_114 rfl rfl ?_
                      refine S_get (v := iv ec) X fgX12_287_11 0 rfl rfl dX12_set_115 ?_
                      refine S_put X fpX12_287_11 0 rfl FT_i dX12_set_118 ?_
                      refine S_w (ws' := [(h0, ob 11 (uF (uF (uF (uF f 27 (iv x)) 28 (iv x)) 29 (iv ec)) 30 (iv lim)))]) (by simp only [List.set]; rw [uF_mv (j := 30) (k := 29) (by decide), uF_same (k := 29)]) ?_
                      refine S_aload_n X dX12_set_121 rfl rfl ?_
                      refine S_iload_n X dX12_set_122 rfl rfl ?_
                      refine S_iconst X dX12_set_123 ?_
                      refine S_icmp_ne (tgt := 131) X dX12_set_124 (by decide) (by omega) (by decide) (fun c_41 => ?_) (fun c_41 => ?_)
                      ·
                        refine S_aload_n X dX12_set_131 rfl rfl ?_
                        refine S_get (v := iv lim) X fgX12_59_11 0 rfl rfl dX12_set_132 ?_
                        refine S_put X fpX12_59_11 0 rfl FT_i dX12_set_135 ?_
                        refine S_w (ws' := [(h0, ob 11 (uF (uF (uF (uF f 27 (iv x)) 28 (iv x)) 29 (iv ec)) 30 (iv lim)))]) (by simp only [List.set]; rw [uF_same (k := 30)]) ?_
                        refine S_iconst X dX12_set_138 ?_
                        exact S_zret X (Or.inr rfl) (nle rfl) (nle rfl) dX12_set_139 (hPo _ _ ((by exfalso; omega)))
                      ·
                        refine S_iload_n X dX12_set_127 rfl rfl ?_
                        refine S_goto (tgt := 135) X dX12_set_128 (by decide) ?_
                        refine S_put X fpX12_59_11 0 rfl FT_i dX12_set_135 ?_
                        refine S_w (ws' := [(h0, ob 11 (uF (uF (uF (uF f 27 (iv x)) 28 (iv x)) 29 (iv ec)) 30 (iv x)))]) (by simp only [List.set]; rw [uF_same (k := 30)]) ?_
                        refine S_iconst X dX12_set_138 ?_
                        exact S_zret X (Or.inr rfl) (nle rfl) (nle rfl) dX12_set_139 (hPo _ _ ((by exfalso; omega)))
                    ·
                      refine S_iload_n X dX12_set_110 rfl rfl ?_
                      refine S_goto (tgt := 118) X dX12_set_111 (by decide) ?_
                      refine S_put X fpX12_287_11 0 rfl FT_i dX12_set_118 ?_
                      refine S_w (ws' := [(h0, ob 11 (uF (uF (uF (uF f 27 (iv x)) 28 (iv x)) 29 (iv x)) 30 (iv lim)))]) (by simp only [List.set]; rw [uF_mv (j := 30) (k := 29) (by decide), uF_same (k := 29)]) ?_
                      refine S_aload_n X dX12_set_121 rfl rfl ?_
                      refine S_iload_n X dX12_set_122 rfl rfl ?_
                      refine S_iconst X dX12_set_123 ?_
                      refine S_icmp_ne (tgt := 131) X dX12_set_124 (by decide) (by omega) (by decide) (fun c_42 => ?_) (fun c_42 => ?_)
                      ·
                        refine S_aload_n X dX12_set_131 rfl rfl ?_
                        refine S_get (v := iv lim) X fgX12_59_11 0 rfl rfl dX12_set_132 ?_
                        refine S_put X fpX12_59_11 0 rfl FT_i dX12_set_135 ?_
                        refine S_w (ws' := [(h0, ob 11 (uF (uF (uF (uF f 27 (iv x)) 28 (iv x)) 29 (iv x)) 30 (iv lim)))]) (by simp only [List.set]; rw [uF_same (k := 30)]) ?_
                        refine S_iconst X dX12_set_138 ?_
                        exact S_zret X (Or.inr rfl) (nle rfl) (nle rfl) dX12_set_139 (hPo _ _ ((by exfalso; omega)))
                      ·
                        refine S_iload_n X dX12_set_127 rfl rfl ?_
                        refine S_goto (tgt := 135) X dX12_set_128 (by decide) ?_
                        refine S_put X fpX12_59_11 0 rfl FT_i dX12_set_135 ?_
                        refine S_w (ws' := [(h0, ob 11 (uF (uF (uF (uF f 27 (iv x)) 28 (iv x)) 29 (iv x)) 30 (iv x)))]) (by simp only [List.set]; rw [uF_same (k := 30)]) ?_
                        refine S_iconst X dX12_set_138 ?_
                        exact S_zret X (Or.inr rfl) (nle rfl) (nle rfl) dX12_set_139 (hPo _ _ ((by exfalso; omega)))
            ·
              refine S_iconst X dX12_set_56 ?_
              refine S_goto (tgt := 63) X dX12_set_57 (by decide) ?_
              refine S_calli X (kX12_in l x 0 3 (by omega) (by omega) (by omega)) (is := []) rfl (run_S X lkX12_216 (is := []) (avs := [iv x, iv 0, iv 3]) (rest := []) rfl rfl (nle rfl) ⟨nle rfl, nle rfl⟩ ⟨nle rfl, nle rfl⟩ dX12_set_63 (by decide) rfl) (fun z_45 u_43 hp_44 => ?_)
              rcases hp_44 with ⟨hz_46, hu_47, hq_48⟩ | ⟨hz_49, hu_50, hq_51⟩
              ·
                subst hz_46
                subst hu_47
                refine ⟨rfl, ?_⟩
                refine S_w (ws' := [(h0, ob 11 (uF (uF (uF (uF f 27 (iv ho)) 28 (iv n)) 29 (iv ec)) 30 (iv lim)))]) rfl ?_
                refine S_if_ne (tgt := 71) X dX12_set_66 (by decide) (by decide) (fun h9 => absurd h9 (by decide)) (fun _ => ?_)
                refine S_iconst X dX12_set_69 ?_
                exact S_zret X (Or.inl rfl) (nle rfl) (nle rfl) dX12_set_70 (hPo _ _ (Or.inl ⟨rfl, rfl, by omega⟩))
              ·
                subst hz_49
                subst hu_50
                refine ⟨rfl, ?_⟩
                refine S_w (ws' := [(h0, ob 11 (uF (uF (uF (uF f 27 (iv ho)) 28 (iv n)) 29 (iv ec)) 30 (iv lim)))]) rfl ?_
                refine S_if_ne (tgt := 71) X dX12_set_66 (by decide) (by decide) (fun _ => ?_) (fun h9 => absurd h9 (by decide))
                refine S_aload_n X dX12_set_71 rfl rfl ?_
                refine S_iload_n X dX12_set_72 rfl rfl ?_
                refine S_if_ne (tgt := 80) X dX12_set_73 (by decide) (by omega) (fun c_54 => ?_) (fun c_54 => ?_)
                ·
                  refine S_aload_n X dX12_set_80 rfl rfl ?_
                  refine S_get (v := iv ho) X fgX12_52_11 0 rfl rfl dX12_set_81 ?_
                  refine S_put X fpX12_52_11 0 rfl FT_i dX12_set_84 ?_
                  refine S_w (ws' := [(h0, ob 11 (uF (uF (uF (uF f 27 (iv ho)) 28 (iv n)) 29 (iv ec)) 30 (iv lim)))]) (by simp only [List.set]; rw [uF_mv (j := 30) (k := 27) (by decide), uF_mv (j := 29) (k := 27) (by decide), uF_mv (j := 28) (k := 27) (by decide), uF_same (k := 27)]) ?_
                  refine S_aload_n X dX12_set_87 rfl rfl ?_
                  refine S_iload_n X dX12_set_88 rfl rfl ?_
                  refine S_iconst X dX12_set_89 ?_
                  refine S_icmp_ne (tgt := 97) X dX12_set_90 (by decide) (by omega) (by decide) (fun c_55 => ?_) (fun c_55 => ?_)
                  ·
                    refine S_aload_n X dX12_set_97 rfl rfl ?_
                    refine S_get (v := iv n) X fgX12_56_11 0 rfl rfl dX12_set_98 ?_
                    refine S_put X fpX12_56_11 0 rfl FT_i dX12_set_101 ?_
                    refine S_w (ws' := [(h0, ob 11 (uF (uF (uF (uF f 27 (iv ho)) 28 (iv n)) 29 (iv ec)) 30 (iv lim)))]) (by simp only [List.set]; rw [uF_mv (j := 30) (k := 28) (by decide), uF_mv (j := 29) (k := 28) (by decide), uF_same (k := 28)]) ?_
                    refine S_aload_n X dX12_set_104 rfl rfl ?_
                    refine S_iload_n X dX12_set_105 rfl rfl ?_
                    refine S_iconst X dX12_set_106 ?_
                    refine S_icmp_ne (tgt := 114) X dX12_set_107 (by decide) (by omega) (by decide) (fun c_56 => ?_) (fun c_56 => ?_)
                    ·
                      refine S_aload_n X dX12_set_114 rfl rfl ?_
                      refine S_get (v := iv ec) X fgX12_287_11 0 rfl rfl dX12_set_115 ?_
                      refine S_put X fpX12_287_11 0 rfl FT_i dX12_set_118 ?_
                      refine S_w (ws' := [(h0, ob 11 (uF (uF (uF (uF f 27 (iv ho)) 28 (iv n)) 29 (iv ec)) 30 (iv lim)))]) (by simp only [List.set]; rw [uF_mv (j := 30) (k := 29) (by decide), uF_same (k := 29)]) ?_
                      refine S_aload_n X dX12_set_121 rfl rfl ?_
                      refine S_iload_n X dX12_set_122 rfl rfl ?_
                      refine S_iconst X dX12_set_123 ?_
                      refine S_icmp_ne (tgt := 131) X dX12_set_124 (by decide) (by omega) (by decide) (fun c_57 => ?_) (fun c_57 => ?_)
                      ·
                        refine S_aload_n X dX12_set_131 rfl rfl ?_
                        refine S_get (v := iv lim) X fgX12_59_11 0 rfl rfl dX12_set_132 ?_
                        refine S_put X fpX12_59_11 0 rfl FT_i dX12_set_135 ?_
                        refine S_w (ws' := [(h0, ob 11 (uF (uF (uF (uF f 27 (iv ho)) 28 (iv n)) 29 (iv ec)) 30 (iv lim)))]) (by simp only [List.set]; rw [uF_same (k := 30)]) ?_
                        refine S_iconst X dX12_set_138 ?_
                        exact S_zret X (Or.inr rfl) (nle rfl) (nle rfl) dX12_set_139 (hPo _ _ ((by exfalso; omega)))
                      ·
                        refine S_iload_n X dX12_set_127 rfl rfl ?_
                        refine S_goto (tgt := 135) X dX12_set_128 (by decide) ?_
                        refine S_put X fpX12_59_11 0 rfl FT_i dX12_set_135 ?_
                        refine S_w (ws' := [(h0, ob 11 (uF (uF (uF (uF f 27 (iv ho)) 28 (iv n)) 29 (iv ec)) 30 (iv x)))]) (by simp only [List.set]; rw [uF_same (k := 30)]) ?_
                        refine S_iconst X dX12_set_138 ?_
                        exact S_zret X (Or.inr rfl) (nle rfl) (nle rfl) dX12_set_139 (hPo _ _ (Or.inr (Or.inr (Or.inr (Or.inr (⟨rfl, rfl, by omega⟩))))))
                    ·
                      refine S_iload_n X dX12_set_110 rfl rfl ?_
                      refine S_goto (tgt := 118) X dX12_set_111 (by decide) ?_
                      refine S_put X fpX12_287_11 0 rfl FT_i dX12_set_118 ?_
                      refine S_w (ws' := [(h0, ob 11 (uF (uF (uF (uF f 27 (iv ho)) 28 (iv n)) 29 (iv x)) 30 (iv lim)))]) (by simp only [List.set]; rw [uF_mv (j := 30) (k := 29) (by decide), uF_same (k := 29)]) ?_
                      refine S_aload_n X dX12_set_121 rfl rfl ?_
                      refine S_iload_n X dX12_set_122 rfl rfl ?_
                      refine S_iconst X dX12_set_123 ?_
                      refine S_icmp_ne (tgt := 131) X dX12_set_124 (by decide) (by omega) (by decide) (fun c_58 => ?_) (fun c_58 => ?_)
                      ·
                        refine S_aload_n X dX12_set_131 rfl rfl ?_
                        refine S_get (v := iv lim) X fgX12_59_11 0 rfl rfl dX12_set_132 ?_
                        refine S_put X fpX12_59_11 0 rfl FT_i dX12_set_135 ?_
                        refine S_w (ws' := [(h0, ob 11 (uF (uF (uF (uF f 27 (iv ho)) 28 (iv n)) 29 (iv x)) 30 (iv lim)))]) (by simp only [List.set]; rw [uF_same (k := 30)]) ?_
                        refine S_iconst X dX12_set_138 ?_
                        exact S_zret X (Or.inr rfl) (nle rfl) (nle rfl) dX12_set_139 (hPo _ _ (Or.inr (Or.inr (Or.inr (Or.inl (⟨rfl, rfl, by omega⟩))))))
                      ·
                        refine S_iload_n X dX12_set_127 rfl rfl ?_
                        refine S_goto (tgt := 135) X dX12_set_128 (by decide) ?_
                        refine S_put X fpX12_59_11 0 rfl FT_i dX12_set_135 ?_
                        refine S_w (ws' := [(h0, ob 11 (uF (uF (uF (uF f 27 (iv ho)) 28 (iv n)) 29 (iv x)) 30 (iv x)))]) (by simp only [List.set]; rw [uF_same (k := 30)]) ?_
                        refine S_iconst X dX12_set_138 ?_
                        exact S_zret X (Or.inr rfl) (nle rfl) (nle rfl) dX12_set_139 (hPo _ _ ((by exfalso; omega)))
                  ·
                    refine S_iload_n X dX12_set_93 rfl rfl ?_
                    refine S_goto (tgt := 101) X dX12_set_94 (by decide) ?_
                    refine S_put X fpX12_56_11 0 rfl FT_i dX12_set_101 ?_
                    refine S_w (ws' := [(h0, ob 11 (uF (uF (uF (uF f 27 (iv ho)) 28 (iv x)) 29 (iv ec)) 30 (iv lim)))]) (by simp only [List.set]; rw [uF_mv (j := 30) (k := 28) (by decide), uF_mv (j := 29) (k := 28) (by decide), uF_same (k := 28)]) ?_
                    refine S_aload_n X dX12_set_104 rfl rfl ?_
                    refine S_iload_n X dX12_set_105 rfl rfl ?_
                    refine S_iconst X dX12_set_106 ?_
                    refine S_icmp_ne (tgt := 114) X dX12_set_107 (by decide) (by omega) (by decide) (fun c_59 => ?_) (fun c_59 => ?_)
                    ·
                      refine S_aload_n X dX12_set_114 rfl rfl ?_
                      refine S_get (v := iv ec) X fgX12_287_11 0 rfl rfl dX12_set_115 ?_
                      refine S_put X fpX12_287_11 0 rfl FT_i dX12_set_118 ?_
                      refine S_w (ws' := [(h0, ob 11 (uF (uF (uF (uF f 27 (iv ho)) 28 (iv x)) 29 (iv ec)) 30 (iv lim)))]) (by simp only [List.set]; rw [uF_mv (j := 30) (k := 29) (by decide), uF_same (k := 29)]) ?_
                      refine S_aload_n X dX12_set_121 rfl rfl ?_
                      refine S_iload_n X dX12_set_122 rfl rfl ?_
                      refine S_iconst X dX12_set_123 ?_
                      refine S_icmp_ne (tgt := 131) X dX12_set_124 (by decide) (by omega) (by decide) (fun c_60 => ?_) (fun c_60 => ?_)
                      ·
                        refine S_aload_n X dX12_set_131 rfl rfl ?_
                        refine S_get (v := iv lim) X fgX12_59_11 0 rfl rfl dX12_set_132 ?_
                        refine S_put X fpX12_59_11 0 rfl FT_i dX12_set_135 ?_
                        refine S_w (ws' := [(h0, ob 11 (uF (uF (uF (uF f 27 (iv ho)) 28 (iv x)) 29 (iv ec)) 30 (iv lim)))]) (by simp only [List.set]; rw [uF_same (k := 30)]) ?_
                        refine S_iconst X dX12_set_138 ?_
                        exact S_zret X (Or.inr rfl) (nle rfl) (nle rfl) dX12_set_139 (hPo _ _ (Or.inr (Or.inr (Or.inl (⟨rfl, rfl, by omega⟩)))))
                      ·
                        refine S_iload_n X dX12_set_127 rfl rfl ?_
                        refine S_goto (tgt := 135) X dX12_set_128 (by decide) ?_
                        refine S_put X fpX12_59_11 0 rfl FT_i dX12_set_135 ?_
                        refine S_w (ws' := [(h0, ob 11 (uF (uF (uF (uF f 27 (iv ho)) 28 (iv x)) 29 (iv ec)) 30 (iv x)))]) (by simp only [List.set]; rw [uF_same (k := 30)]) ?_
                        refine S_iconst X dX12_set_138 ?_
                        exact S_zret X (Or.inr rfl) (nle rfl) (nle rfl) dX12_set_139 (hPo _ _ ((by exfalso; omega)))
                    ·
                      refine S_iload_n X dX12_set_110 rfl rfl ?_
                      refine S_goto (tgt := 118) X dX12_set_111 (by decide) ?_
                      refine S_put X fpX12_287_11 0 rfl FT_i dX12_set_118 ?_
                      refine S_w (ws' := [(h0, ob 11 (uF (uF (uF (uF f 27 (iv ho)) 28 (iv x)) 29 (iv x)) 30 (iv lim)))]) (by simp only [List.set]; rw [uF_mv (j := 30) (k := 29) (by decide), uF_same (k := 29)]) ?_
                      refine S_aload_n X dX12_set_121 rfl rfl ?_
                      refine S_iload_n X dX12_set_122 rfl rfl ?_
                      refine S_iconst X dX12_set_123 ?_
                      refine S_icmp_ne (tgt := 131) X dX12_set_124 (by decide) (by omega) (by decide) (fun c_61 => ?_) (fun c_61 => ?_)
                      ·
                        refine S_aload_n X dX12_set_131 rfl rfl ?_
                        refine S_get (v := iv lim) X fgX12_59_11 0 rfl rfl dX12_set_132 ?_
                        refine S_put X fpX12_59_11 0 rfl FT_i dX12_set_135 ?_
                        refine S_w (ws' := [(h0, ob 11 (uF (uF (uF (uF f 27 (iv ho)) 28 (iv x)) 29 (iv x)) 30 (iv lim)))]) (by simp only [List.set]; rw [uF_same (k := 30)]) ?_
                        refine S_iconst X dX12_set_138 ?_
                        exact S_zret X (Or.inr rfl) (nle rfl) (nle rfl) dX12_set_139 (hPo _ _ ((by exfalso; omega)))
                      ·
                        refine S_iload_n X dX12_set_127 rfl rfl ?_
                        refine S_goto (tgt := 135) X dX12_set_128 (by decide) ?_
                        refine S_put X fpX12_59_11 0 rfl FT_i dX12_set_135 ?_
                        refine S_w (ws' := [(h0, ob 11 (uF (uF (uF (uF f 27 (iv ho)) 28 (iv x)) 29 (iv x)) 30 (iv x)))]) (by simp only [List.set]; rw [uF_same (k := 30)]) ?_
                        refine S_iconst X dX12_set_138 ?_
                        exact S_zret X (Or.inr rfl) (nle rfl) (nle rfl) dX12_set_139 (hPo _ _ ((by exfalso; omega)))
                ·
                  refine S_iload_n X dX12_set_76 rfl rfl ?_
                  refine S_goto (tgt := 84) X dX12_set_77 (by decide) ?_
                  refine S_put X fpX12_52_11 0 rfl FT_i dX12_set_84 ?_
                  refine S_w (ws' := [(h0, ob 11 (uF (uF (uF (uF f 27 (iv x)) 28 (iv n)) 29 (iv ec)) 30 (iv lim)))]) (by simp only [List.set]; rw [uF_mv (j := 30) (k := 27) (by decide), uF_mv (j := 29) (k := 27) (by decide), uF_mv (j := 28) (k := 27) (by decide), uF_same (k := 27)]) ?_
                  refine S_aload_n X dX12_set_87 rfl rfl ?_
                  refine S_iload_n X dX12_set_88 rfl rfl ?_
                  refine S_iconst X dX12_set_89 ?_
                  refine S_icmp_ne (tgt := 97) X dX12_set_90 (by decide) (by omega) (by decide) (fun c_62 => ?_) (fun c_62 => ?_)
                  ·
                    refine S_aload_n X dX12_set_97 rfl rfl ?_
                    refine S_get (v := iv n) X fgX12_56_11 0 rfl rfl dX12_set_98 ?_
                    refine S_put X fpX12_56_11 0 rfl FT_i dX12_set_101 ?_
                    refine S_w (ws' := [(h0, ob 11 (uF (uF (uF (uF f 27 (iv x)) 28 (iv n)) 29 (iv ec)) 30 (iv lim)))]) (by simp only [List.set]; rw [uF_mv (j := 30) (k := 28) (by decide), uF_mv (j := 29) (k := 28) (by decide), uF_same (k := 28)]) ?_
                    refine S_aload_n X dX12_set_104 rfl rfl ?_
                    refine S_iload_n X dX12_set_105 rfl rfl ?_
                    refine S_iconst X dX12_set_106 ?_
                    refine S_icmp_ne (tgt := 114) X dX12_set_107 (by decide) (by omega) (by decide) (fun c_63 => ?_) (fun c_63 => ?_)
                    ·
                      refine S_aload_n X dX12_set_114 rfl rfl ?_
                      refine S_get (v := iv ec) X fgX12_287_11 0 rfl rfl dX12_set_115 ?_
                      refine S_put X fpX12_287_11 0 rfl FT_i dX12_set_118 ?_
                      refine S_w (ws' := [(h0, ob 11 (uF (uF (uF (uF f 27 (iv x)) 28 (iv n)) 29 (iv ec)) 30 (iv lim)))]) (by simp only [List.set]; rw [uF_mv (j := 30) (k := 29) (by decide), uF_same (k := 29)]) ?_
                      refine S_aload_n X dX12_set_121 rfl rfl ?_
                      refine S_iload_n X dX12_set_122 rfl rfl ?_
                      refine S_iconst X dX12_set_123 ?_
                      refine S_icmp_ne (tgt := 131) X dX12_set_124 (by decide) (by omega) (by decide) (fun c_64 => ?_) (fun c_64 => ?_)
                      ·
                        refine S_aload_n X dX12_set_131 rfl rfl ?_
                        refine S_get (v := iv lim) X fgX12_59_11 0 rfl rfl dX12_set_132 ?_
                        refine S_put X fpX12_59_11 0 rfl FT_i dX12_set_135 ?_
                        refine S_w (ws' := [(h0, ob 11 (uF (uF (uF (uF f 27 (iv x)) 28 (iv n)) 29 (iv ec)) 30 (iv lim)))]) (by simp only [List.set]; rw [uF_same (k := 30)]) ?_
                        refine S_iconst X dX12_set_138 ?_
                        exact S_zret X (Or.inr rfl) (nle rfl) (nle rfl) dX12_set_139 (hPo _ _ (Or.inr (Or.inl (⟨rfl, rfl, by omega⟩))))
                      ·
                        refine S_iload_n X dX12_set_127 rfl rfl ?_
                        refine S_goto (tgt := 135) X dX12_set_128 (by decide) ?_
                        refine S_put X fpX12_59_11 0 rfl FT_i dX12_set_135 ?_
                        refine S_w (ws' := [(h0, ob 11 (uF (uF (uF (uF f 27 (iv x)) 28 (iv n)) 29 (iv ec)) 30 (iv x)))]) (by simp only [List.set]; rw [uF_same (k := 30)]) ?_
                        refine S_iconst X dX12_set_138 ?_
                        exact S_zret X (Or.inr rfl) (nle rfl) (nle rfl) dX12_set_139 (hPo _ _ ((by exfalso; omega)))
                    ·
                      refine S_iload_n X dX12_set_110 rfl rfl ?_
                      refine S_goto (tgt := 118) X dX12_set_111 (by decide) ?_
                      refine S_put X fpX12_287_11 0 rfl FT_i dX12_set_118 ?_
                      refine S_w (ws' := [(h0, ob 11 (uF (uF (uF (uF f 27 (iv x)) 28 (iv n)) 29 (iv x)) 30 (iv lim)))]) (by simp only [List.set]; rw [uF_mv (j := 30) (k := 29) (by decide), uF_same (k := 29)]) ?_
                      refine S_aload_n X dX12_set_121 rfl rfl ?_
                      refine S_iload_n X dX12_set_122 rfl rfl ?_
                      refine S_iconst X dX12_set_123 ?_
                      refine S_icmp_ne (tgt := 131) X dX12_set_124 (by decide) (by omega) (by decide) (fun c_65 => ?_) (fun c_65 => ?_)
                      ·
                        refine S_aload_n X dX12_set_131 rfl rfl ?_
                        refine S_get (v := iv lim) X fgX12_59_11 0 rfl rfl dX12_set_132 ?_
                        refine S_put X fpX12_59_11 0 rfl FT_i dX12_set_135 ?_
                        refine S_w (ws' := [(h0, ob 11 (uF (uF (uF (uF f 27 (iv x)) 28 (iv n)) 29 (iv x)) 30 (iv lim)))]) (by simp only [List.set]; rw [uF_same (k := 30)]) ?_
                        refine S_iconst X dX12_set_138 ?_
                        exact S_zret X (Or.inr rfl) (nle rfl) (nle rfl) dX12_set_139 (hPo _ _ ((by exfalso; omega)))
                      ·
                        refine S_iload_n X dX12_set_127 rfl rfl ?_
                        refine S_goto (tgt := 135) X dX12_set_128 (by decide) ?_
                        refine S_put X fpX12_59_11 0 rfl FT_i dX12_set_135 ?_
                        refine S_w (ws' := [(h0, ob 11 (uF (uF (uF (uF f 27 (iv x)) 28 (iv n)) 29 (iv x)) 30 (iv x)))]) (by simp only [List.set]; rw [uF_same (k := 30)]) ?_
                        refine S_iconst X dX12_set_138 ?_
                        exact S_zret X (Or.inr rfl) (nle rfl) (nle rfl) dX12_set_139 (hPo _ _ ((by exfalso; omega)))
                  ·
                    refine S_iload_n X dX12_set_93 rfl rfl ?_
                    refine S_goto (tgt := 101) X dX12_set_94 (by decide) ?_
                    refine S_put X fpX12_56_11 0 rfl FT_i dX12_set_101 ?_
                    refine S_w (ws' := [(h0, ob 11 (uF (uF (uF (uF f 27 (iv x)) 28 (iv x)) 29 (iv ec)) 30 (iv lim)))]) (by simp only [List.set]; rw [uF_mv (j := 30) (k := 28) (by decide), uF_mv (j := 29) (k := 28) (by decide), uF_same (k := 28)]) ?_
                    refine S_aload_n X dX12_set_104 rfl rfl ?_
                    refine S_iload_n X dX12_set_105 rfl rfl ?_
                    refine S_iconst X dX12_set_106 ?_
                    refine S_icmp_ne (tgt := 114) X dX12_set_107 (by decide) (by omega) (by decide) (fun c_66 => ?_) (fun c_66 => ?_)
                    ·
                      refine S_aload_n X dX12_set_114 rfl rfl ?_
                      refine S_get (v := iv ec) X fgX12_287_11 0 rfl rfl dX12_set_115 ?_
                      refine S_put X fpX12_287_11 0 rfl FT_i dX12_set_118 ?_
                      refine S_w (ws' := [(h0, ob 11 (uF (uF (uF (uF f 27 (iv x)) 28 (iv x)) 29 (iv ec)) 30 (iv lim)))]) (by simp only [List.set]; rw [uF_mv (j := 30) (k := 29) (by decide), uF_same (k := 29)]) ?_
                      refine S_aload_n X dX12_set_121 rfl rfl ?_
                      refine S_iload_n X dX12_set_122 rfl rfl ?_
                      refine S_iconst X dX12_set_123 ?_
                      refine S_icmp_ne (tgt := 131) X dX12_set_124 (by decide) (by omega) (by decide) (fun c_67 => ?_) (fun c_67 => ?_)
                      ·
                        refine S_aload_n X dX12_set_131 rfl rfl ?_
                        refine S_get (v := iv lim) X fgX12_59_11 0 rfl rfl dX12_set_132 ?_
                        refine S_put X fpX12_59_11 0 rfl FT_i dX12_set_135 ?_
                        refine S_w (ws' := [(h0, ob 11 (uF (uF (uF (uF f 27 (iv x)) 28 (iv x)) 29 (iv ec)) 30 (iv lim)))]) (by simp only [List.set]; rw [uF_same (k := 30)]) ?_
                        refine S_iconst X dX12_set_138 ?_
                        exact S_zret X (Or.inr rfl) (nle rfl) (nle rfl) dX12_set_139 (hPo _ _ ((by exfalso; omega)))
                      ·
                        refine S_iload_n X dX12_set_127 rfl rfl ?_
                        refine S_goto (tgt := 135) X dX12_set_128 (by decide) ?_
                        refine S_put X fpX12_59_11 0 rfl FT_i dX12_set_135 ?_
                        refine S_w (ws' := [(h0, ob 11 (uF (uF (uF (uF f 27 (iv x)) 28 (iv x)) 29 (iv ec)) 30 (iv x)))]) (by simp only [List.set]; rw [uF_same (k := 30)]) ?_
                        refine S_iconst X dX12_set_138 ?_
                        exact S_zret X (Or.inr rfl) (nle rfl) (nle rfl) dX12_set_139 (hPo _ _ ((by exfalso; omega)))
                    ·
                      refine S_iload_n X dX12_set_110 rfl rfl ?_
                      refine S_goto (tgt := 118) X dX12_set_111 (by decide) ?_
                      refine S_put X fpX12_287_11 0 rfl FT_i dX12_set_118 ?_
                      refine S_w (ws' := [(h0, ob 11 (uF (uF (uF (uF f 27 (iv x)) 28 (iv x)) 29 (iv x)) 30 (iv lim)))]) (by simp only [List.set]; rw [uF_mv (j := 30) (k := 29) (by decide), uF_same (k := 29)]) ?_
                      refine S_aload_n X dX12_set_121 rfl rfl ?_
                      refine S_iload_n X dX12_set_122 rfl rfl ?_
                      refine S_iconst X dX12_set_123 ?_
                      refine S_icmp_ne (tgt := 131) X dX12_set_124 (by decide) (by omega) (by decide) (fun c_68 => ?_) (fun c_68 => ?_)
                      ·
                        refine S_aload_n X dX12_set_131 rfl rfl ?_
                        refine S_get (v := iv lim) X fgX12_59_11 0 rfl rfl dX12_set_132 ?_
                        refine S_put X fpX12_59_11 0 rfl FT_i dX12_set_135 ?_
                        refine S_w (ws' := [(h0, ob 11 (uF (uF (uF (uF f 27 (iv x)) 28 (iv x)) 29 (iv x)) 30 (iv lim)))]) (by simp only [List.set]; rw [uF_same (k := 30)]) ?_
                        refine S_iconst X dX12_set_138 ?_
                        exact S_zret X (Or.inr rfl) (nle rfl) (nle rfl) dX12_set_139 (hPo _ _ ((by exfalso; omega)))
                      ·
                        refine S_iload_n X dX12_set_127 rfl rfl ?_
                        refine S_goto (tgt := 135) X dX12_set_128 (by decide) ?_
                        refine S_put X fpX12_59_11 0 rfl FT_i dX12_set_135 ?_
                        refine S_w (ws' := [(h0, ob 11 (uF (uF (uF (uF f 27 (iv x)) 28 (iv x)) 29 (iv x)) 30 (iv x)))]) (by simp only [List.set]; rw [uF_same (k := 30)]) ?_
                        refine S_iconst X dX12_set_138 ?_
                        exact S_zret X (Or.inr rfl) (nle rfl) (nle rfl) dX12_set_139 (hPo _ _ ((by exfalso; omega)))
          ·
            refine S_bipush X dX12_set_46 rfl ?_
            refine S_goto (tgt := 63) X dX12_set_48 (by decide) ?_
            refine S_calli X (kX12_in l x 0 30 (by omega) (by omega) (by omega)) (is := []) rfl (run_S X lkX12_216 (is := []) (avs := [iv x, iv 0, iv 30]) (rest := []) rfl rfl (nle rfl) ⟨nle rfl, nle rfl⟩ ⟨nle rfl, nle rfl⟩ dX12_set_63 (by decide) rfl) (fun z_71 u_69 hp_70 => ?_)
            rcases hp_70 with ⟨hz_72, hu_73, hq_74⟩ | ⟨hz_75, hu_76, hq_77⟩
            ·
              subst hz_72
              subst hu_73
              refine ⟨rfl, ?_⟩
              refine S_w (ws' := [(h0, ob 11 (uF (uF (uF (uF f 27 (iv ho)) 28 (iv n)) 29 (iv ec)) 30 (iv lim)))]) rfl ?_
              refine S_if_ne (tgt := 71) X dX12_set_66 (by decide) (by decide) (fun h9 => absurd h9 (by decide)) (fun _ => ?_)
              refine S_iconst X dX12_set_69 ?_
              exact S_zret X (Or.inl rfl) (nle rfl) (nle rfl) dX12_set_70 (hPo _ _ (Or.inl ⟨rfl, rfl, by omega⟩))
            ·
              subst hz_75
              subst hu_76
              refine ⟨rfl, ?_⟩
              refine S_w (ws' := [(h0, ob 11 (uF (uF (uF (uF f 27 (iv ho)) 28 (iv n)) 29 (iv ec)) 30 (iv lim)))]) rfl ?_
              refine S_if_ne (tgt := 71) X dX12_set_66 (by decide) (by decide) (fun _ => ?_) (fun h9 => absurd h9 (by decide))
              refine S_aload_n X dX12_set_71 rfl rfl ?_
              refine S_iload_n X dX12_set_72 rfl rfl ?_
              refine S_if_ne (tgt := 80) X dX12_set_73 (by decide) (by omega) (fun c_80 => ?_) (fun c_80 => ?_)
              ·
                refine S_aload_n X dX12_set_80 rfl rfl ?_
                refine S_get (v := iv ho) X fgX12_52_11 0 rfl rfl dX12_set_81 ?_
                refine S_put X fpX12_52_11 0 rfl FT_i dX12_set_84 ?_
                refine S_w (ws' := [(h0, ob 11 (uF (uF (uF (uF f 27 (iv ho)) 28 (iv n)) 29 (iv ec)) 30 (iv lim)))]) (by simp only [List.set]; rw [uF_mv (j := 30) (k := 27) (by decide), uF_mv (j := 29) (k := 27) (by decide), uF_mv (j := 28) (k := 27) (by decide), uF_same (k := 27)]) ?_
                refine S_aload_n X dX12_set_87 rfl rfl ?_
                refine S_iload_n X dX12_set_88 rfl rfl ?_
                refine S_iconst X dX12_set_89 ?_
                refine S_icmp_ne (tgt := 97) X dX12_set_90 (by decide) (by omega) (by decide) (fun c_81 => ?_) (fun c_81 => ?_)
                ·
                  refine S_aload_n X dX12_set_97 rfl rfl ?_
                  refine S_get (v := iv n) X fgX12_56_11 0 rfl rfl dX12_set_98 ?_
                  refine S_put X fpX12_56_11 0 rfl FT_i dX12_set_101 ?_
                  refine S_w (ws' := [(h0, ob 11 (uF (uF (uF (uF f 27 (iv ho)) 28 (iv n)) 29 (iv ec)) 30 (iv lim)))]) (by simp only [List.set]; rw [uF_mv (j := 30) (k := 28) (by decide), uF_mv (j := 29) (k := 28) (by decide), uF_same (k := 28)]) ?_
                  refine S_aload_n X dX12_set_104 rfl rfl ?_
                  refine S_iload_n X dX12_set_105 rfl rfl ?_
                  refine S_iconst X dX12_set_106 ?_
                  refine S_icmp_ne (tgt := 114) X dX12_set_107 (by decide) (by omega) (by decide) (fun c_82 => ?_) (fun c_82 => ?_)
                  ·
                    refine S_aload_n X dX12_set_114 rfl rfl ?_
                    refine S_get (v := iv ec) X fgX12_287_11 0 rfl rfl dX12_set_115 ?_
                    refine S_put X fpX12_287_11 0 rfl FT_i dX12_set_118 ?_
                    refine S_w (ws' := [(h0, ob 11 (uF (uF (uF (uF f 27 (iv ho)) 28 (iv n)) 29 (iv ec)) 30 (iv lim)))]) (by simp only [List.set]; rw [uF_mv (j := 30) (k := 29) (by decide), uF_same (k := 29)]) ?_
                    refine S_aload_n X dX12_set_121 rfl rfl ?_
                    refine S_iload_n X dX12_set_122 rfl rfl ?_
                    refine S_iconst X dX12_set_123 ?_
                    refine S_icmp_ne (tgt := 131) X dX12_set_124 (by decide) (by omega) (by decide) (fun c_83 => ?_) (fun c_83 => ?_)
                    ·
                      refine S_aload_n X dX12_set_131 rfl rfl ?_
                      refine S_get (v := iv lim) X fgX12_59_11 0 rfl rfl dX12_set_132 ?_
                      refine S_put X fpX12_59_11 0 rfl FT_i dX12_set_135 ?_
                      refine S_w (ws' := [(h0, ob 11 (uF (uF (uF (uF f 27 (iv ho)) 28 (iv n)) 29 (iv ec)) 30 (iv lim)))]) (by simp only [List.set]; rw [uF_same (k := 30)]) ?_
                      refine S_iconst X dX12_set_138 ?_
                      exact S_zret X (Or.inr rfl) (nle rfl) (nle rfl) dX12_set_139 (hPo _ _ ((by exfalso; omega)))
                    ·
                      refine S_iload_n X dX12_set_127 rfl rfl ?_
                      refine S_goto (tgt := 135) X dX12_set_128 (by decide) ?_
                      refine S_put X fpX12_59_11 0 rfl FT_i dX12_set_135 ?_
                      refine S_w (ws' := [(h0, ob 11 (uF (uF (uF (uF f 27 (iv ho)) 28 (iv n)) 29 (iv ec)) 30 (iv x)))]) (by simp only [List.set]; rw [uF_same (k := 30)]) ?_
                      refine S_iconst X dX12_set_138 ?_
                      exact S_zret X (Or.inr rfl) (nle rfl) (nle rfl) dX12_set_139 (hPo _ _ (Or.inr (Or.inr (Or.inr (Or.inr (⟨rfl, rfl, by omega⟩))))))
                  ·
                    refine S_iload_n X dX12_set_110 rfl rfl ?_
                    refine S_goto (tgt := 118) X dX12_set_111 (by decide) ?_
                    refine S_put X fpX12_287_11 0 rfl FT_i dX12_set_118 ?_
                    refine S_w (ws' := [(h0, ob 11 (uF (uF (uF (uF f 27 (iv ho)) 28 (iv n)) 29 (iv x)) 30 (iv lim)))]) (by simp only [List.set]; rw [uF_mv (j := 30) (k := 29) (by decide), uF_same (k := 29)]) ?_
                    refine S_aload_n X dX12_set_121 rfl rfl ?_
                    refine S_iload_n X dX12_set_122 rfl rfl ?_
                    refine S_iconst X dX12_set_123 ?_
                    refine S_icmp_ne (tgt := 131) X dX12_set_124 (by decide) (by omega) (by decide) (fun c_84 => ?_) (fun c_84 => ?_)
                    ·
                      refine S_aload_n X dX12_set_131 rfl rfl ?_
                      refine S_get (v := iv lim) X fgX12_59_11 0 rfl rfl dX12_set_132 ?_
                      refine S_put X fpX12_59_11 0 rfl FT_i dX12_set_135 ?_
                      refine S_w (ws' := [(h0, ob 11 (uF (uF (uF (uF f 27 (iv ho)) 28 (iv n)) 29 (iv x)) 30 (iv lim)))]) (by simp only [List.set]; rw [uF_same (k := 30)]) ?_
                      refine S_iconst X dX12_set_138 ?_
                      exact S_zret X (Or.inr rfl) (nle rfl) (nle rfl) dX12_set_139 (hPo _ _ (Or.inr (Or.inr (Or.inr (Or.inl (⟨rfl, rfl, by omega⟩))))))
                    ·
                      refine S_iload_n X dX12_set_127 rfl rfl ?_
                      refine S_goto (tgt := 135) X dX12_set_128 (by decide) ?_
                      refine S_put X fpX12_59_11 0 rfl FT_i dX12_set_135 ?_
                      refine S_w (ws' := [(h0, ob 11 (uF (uF (uF (uF f 27 (iv ho)) 28 (iv n)) 29 (iv x)) 30 (iv x)))]) (by simp only [List.set]; rw [uF_same (k := 30)]) ?_
                      refine S_iconst X dX12_set_138 ?_
                      exact S_zret X (Or.inr rfl) (nle rfl) (nle rfl) dX12_set_139 (hPo _ _ ((by exfalso; omega)))
                ·
                  refine S_iload_n X dX12_set_93 rfl rfl ?_
                  refine S_goto (tgt := 101) X dX12_set_94 (by decide) ?_
                  refine S_put X fpX12_56_11 0 rfl FT_i dX12_set_101 ?_
                  refine S_w (ws' := [(h0, ob 11 (uF (uF (uF (uF f 27 (iv ho)) 28 (iv x)) 29 (iv ec)) 30 (iv lim)))]) (by simp only [List.set]; rw [uF_mv (j := 30) (k := 28) (by decide), uF_mv (j := 29) (k := 28) (by decide), uF_same (k := 28)]) ?_
                  refine S_aload_n X dX12_set_104 rfl rfl ?_
                  refine S_iload_n X dX12_set_105 rfl rfl ?_
                  refine S_iconst X dX12_set_106 ?_
                  refine S_icmp_ne (tgt := 114) X dX12_set_107 (by decide) (by omega) (by decide) (fun c_85 => ?_) (fun c_85 => ?_)
                  ·
                    refine S_aload_n X dX12_set_114 rfl rfl ?_
                    refine S_get (v := iv ec) X fgX12_287_11 0 rfl rfl dX12_set_115 ?_
                    refine S_put X fpX12_287_11 0 rfl FT_i dX12_set_118 ?_
                    refine S_w (ws' := [(h0, ob 11 (uF (uF (uF (uF f 27 (iv ho)) 28 (iv x)) 29 (iv ec)) 30 (iv lim)))]) (by simp only [List.set]; rw [uF_mv (j := 30) (k := 29) (by decide), uF_same (k := 29)]) ?_
                    refine S_aload_n X dX12_set_121 rfl rfl ?_
                    refine S_iload_n X dX12_set_122 rfl rfl ?_
                    refine S_iconst X dX12_set_123 ?_
                    refine S_icmp_ne (tgt := 131) X dX12_set_124 (by decide) (by omega) (by decide) (fun c_86 => ?_) (fun c_86 => ?_)
                    ·
                      refine S_aload_n X dX12_set_131 rfl rfl ?_
                      refine S_get (v := iv lim) X fgX12_59_11 0 rfl rfl dX12_set_132 ?_
                      refine S_put X fpX12_59_11 0 rfl FT_i dX12_set_135 ?_
                      refine S_w (ws' := [(h0, ob 11 (uF (uF (uF (uF f 27 (iv ho)) 28 (iv x)) 29 (iv ec)) 30 (iv lim)))]) (by simp only [List.set]; rw [uF_same (k := 30)]) ?_
                      refine S_iconst X dX12_set_138 ?_
                      exact S_zret X (Or.inr rfl) (nle rfl) (nle rfl) dX12_set_139 (hPo _ _ (Or.inr (Or.inr (Or.inl (⟨rfl, rfl, by omega⟩)))))
                    ·
                      refine S_iload_n X dX12_set_127 rfl rfl ?_
                      refine S_goto (tgt := 135) X dX12_set_128 (by decide) ?_
                      refine S_put X fpX12_59_11 0 rfl FT_i dX12_set_135 ?_
                      refine S_w (ws' := [(h0, ob 11 (uF (uF (uF (uF f 27 (iv ho)) 28 (iv x)) 29 (iv ec)) 30 (iv x)))]) (by simp only [List.set]; rw [uF_same (k := 30)]) ?_
                      refine S_iconst X dX12_set_138 ?_
                      exact S_zret X (Or.inr rfl) (nle rfl) (nle rfl) dX12_set_139 (hPo _ _ ((by exfalso; omega)))
                  ·
                    refine S_iload_n X dX12_set_110 rfl rfl ?_
                    refine S_goto (tgt := 118) X dX12_set_111 (by decide) ?_
                    refine S_put X fpX12_287_11 0 rfl FT_i dX12_set_118 ?_
                    refine S_w (ws' := [(h0, ob 11 (uF (uF (uF (uF f 27 (iv ho)) 28 (iv x)) 29 (iv x)) 30 (iv lim)))]) (by simp only [List.set]; rw [uF_mv (j := 30) (k := 29) (by decide), uF_same (k := 29)]) ?_
                    refine S_aload_n X dX12_set_121 rfl rfl ?_
                    refine S_iload_n X dX12_set_122 rfl rfl ?_
                    refine S_iconst X dX12_set_123 ?_
                    refine S_icmp_ne (tgt := 131) X dX12_set_124 (by decide) (by omega) (by decide) (fun c_87 => ?_) (fun c_87 => ?_)
                    ·
                      refine S_aload_n X dX12_set_131 rfl rfl ?_
                      refine S_get (v := iv lim) X fgX12_59_11 0 rfl rfl dX12_set_132 ?_
                      refine S_put X fpX12_59_11 0 rfl FT_i dX12_set_135 ?_
                      refine S_w (ws' := [(h0, ob 11 (uF (uF (uF (uF f 27 (iv ho)) 28 (iv x)) 29 (iv x)) 30 (iv lim)))]) (by simp only [List.set]; rw [uF_same (k := 30)]) ?_
                      refine S_iconst X dX12_set_138 ?_
                      exact S_zret X (Or.inr rfl) (nle rfl) (nle rfl) dX12_set_139 (hPo _ _ ((by exfalso; omega)))
                    ·
                      refine S_iload_n X dX12_set_127 rfl rfl ?_
                      refine S_goto (tgt := 135) X dX12_set_128 (by decide) ?_
                      refine S_put X fpX12_59_11 0 rfl FT_i dX12_set_135 ?_
                      refine S_w (ws' := [(h0, ob 11 (uF (uF (uF (uF f 27 (iv ho)) 28 (iv x)) 29 (iv x)) 30 (iv x)))]) (by simp only [List.set]; rw [uF_same (k := 30)]) ?_
                      refine S_iconst X dX12_set_138 ?_
                      exact S_zret X (Or.inr rfl) (nle rfl) (nle rfl) dX12_set_139 (hPo _ _ ((by exfalso; omega)))
              ·
                refine S_iload_n X dX12_set_76 rfl rfl ?_
                refine S_goto (tgt := 84) X dX12_set_77 (by decide) ?_
                refine S_put X fpX12_52_11 0 rfl FT_i dX12_set_84 ?_
                refine S_w (ws' := [(h0, ob 11 (uF (uF (uF (uF f 27 (iv x)) 28 (iv n)) 29 (iv ec)) 30 (iv lim)))]) (by simp only [List.set]; rw [uF_mv (j := 30) (k := 27) (by decide), uF_mv (j := 29) (k := 27) (by decide), uF_mv (j := 28) (k := 27) (by decide), uF_same (k := 27)]) ?_
                refine S_aload_n X dX12_set_87 rfl rfl ?_
                refine S_iload_n X dX12_set_88 rfl rfl ?_
                refine S_iconst X dX12_set_89 ?_
                refine S_icmp_ne (tgt := 97) X dX12_set_90 (by decide) (by omega) (by decide) (fun c_88 => ?_) (fun c_88 => ?_)
                ·
                  refine S_aload_n X dX12_set_97 rfl rfl ?_
                  refine S_get (v := iv n) X fgX12_56_11 0 rfl rfl dX12_set_98 ?_
                  refine S_put X fpX12_56_11 0 rfl FT_i dX12_set_101 ?_
                  refine S_w (ws' := [(h0, ob 11 (uF (uF (uF (uF f 27 (iv x)) 28 (iv n)) 29 (iv ec)) 30 (iv lim)))]) (by simp only [List.set]; rw [uF_mv (j := 30) (k := 28) (by decide), uF_mv (j := 29) (k := 28) (by decide), uF_same (k := 28)]) ?_
                  refine S_aload_n X dX12_set_104 rfl rfl ?_
                  refine S_iload_n X dX12_set_105 rfl rfl ?_
                  refine S_iconst X dX12_set_106 ?_
                  refine S_icmp_ne (tgt := 114) X dX12_set_107 (by decide) (by omega) (by decide) (fun c_89 => ?_) (fun c_89 => ?_)
                  ·
                    refine S_aload_n X dX12_set_114 rfl rfl ?_
                    refine S_get (v := iv ec) X fgX12_287_11 0 rfl rfl dX12_set_115 ?_
                    refine S_put X fpX12_287_11 0 rfl FT_i dX12_set_118 ?_
                    refine S_w (ws' := [(h0, ob 11 (uF (uF (uF (uF f 27 (iv x)) 28 (iv n)) 29 (iv ec)) 30 (iv lim)))]) (by simp only [List.set]; rw [uF_mv (j := 30) (k := 29) (by decide), uF_same (k := 29)]) ?_
                    refine S_aload_n X dX12_set_121 rfl rfl ?_
                    refine S_iload_n X dX12_set_122 rfl rfl ?_
                    refine S_iconst X dX12_set_123 ?_
                    refine S_icmp_ne (tgt := 131) X dX12_set_124 (by decide) (by omega) (by decide) (fun c_90 => ?_) (fun c_90 => ?_)
                    ·
                      refine S_aload_n X dX12_set_131 rfl rfl ?_
                      refine S_get (v := iv lim) X fgX12_59_11 0 rfl rfl dX12_set_132 ?_
                      refine S_put X fpX12_59_11 0 rfl FT_i dX12_set_135 ?_
                      refine S_w (ws' := [(h0, ob 11 (uF (uF (uF (uF f 27 (iv x)) 28 (iv n)) 29 (iv ec)) 30 (iv lim)))]) (by simp only [List.set]; rw [uF_same (k := 30)]) ?_
                      refine S_iconst X dX12_set_138 ?_
                      exact S_zret X (Or.inr rfl) (nle rfl) (nle rfl) dX12_set_139 (hPo _ _ (Or.inr (Or.inl (⟨rfl, rfl, by omega⟩))))
                    ·
                      refine S_iload_n X dX12_set_127 rfl rfl ?_
                      refine S_goto (tgt := 135) X dX12_set_128 (by decide) ?_
                      refine S_put X fpX12_59_11 0 rfl FT_i dX12_set_135 ?_
                      refine S_w (ws' := [(h0, ob 11 (uF (uF (uF (uF f 27 (iv x)) 28 (iv n)) 29 (iv ec)) 30 (iv x)))]) (by simp only [List.set]; rw [uF_same (k := 30)]) ?_
                      refine S_iconst X dX12_set_138 ?_
                      exact S_zret X (Or.inr rfl) (nle rfl) (nle rfl) dX12_set_139 (hPo _ _ ((by exfalso; omega)))
                  ·
                    refine S_iload_n X dX12_set_110 rfl rfl ?_
                    refine S_goto (tgt := 118) X dX12_set_111 (by decide) ?_
                    refine S_put X fpX12_287_11 0 rfl FT_i dX12_set_118 ?_
                    refine S_w (ws' := [(h0, ob 11 (uF (uF (uF (uF f 27 (iv x)) 28 (iv n)) 29 (iv x)) 30 (iv lim)))]) (by simp only [List.set]; rw [uF_mv (j := 30) (k := 29) (by decide), uF_same (k := 29)]) ?_
                    refine S_aload_n X dX12_set_121 rfl rfl ?_
                    refine S_iload_n X dX12_set_122 rfl rfl ?_
                    refine S_iconst X dX12_set_123 ?_
                    refine S_icmp_ne (tgt := 131) X dX12_set_124 (by decide) (by omega) (by decide) (fun c_91 => ?_) (fun c_91 => ?_)
                    ·
                      refine S_aload_n X dX12_set_131 rfl rfl ?_
                      refine S_get (v := iv lim) X fgX12_59_11 0 rfl rfl dX12_set_132 ?_
                      refine S_put X fpX12_59_11 0 rfl FT_i dX12_set_135 ?_
                      refine S_w (ws' := [(h0, ob 11 (uF (uF (uF (uF f 27 (iv x)) 28 (iv n)) 29 (iv x)) 30 (iv lim)))]) (by simp only [List.set]; rw [uF_same (k := 30)]) ?_
                      refine S_iconst X dX12_set_138 ?_
                      exact S_zret X (Or.inr rfl) (nle rfl) (nle rfl) dX12_set_139 (hPo _ _ ((by exfalso; omega)))
                    ·
                      refine S_iload_n X dX12_set_127 rfl rfl ?_
                      refine S_goto (tgt := 135) X dX12_set_128 (by decide) ?_
                      refine S_put X fpX12_59_11 0 rfl FT_i dX12_set_135 ?_
                      refine S_w (ws' := [(h0, ob 11 (uF (uF (uF (uF f 27 (iv x)) 28 (iv n)) 29 (iv x)) 30 (iv x)))]) (by simp only [List.set]; rw [uF_same (k := 30)]) ?_
                      refine S_iconst X dX12_set_138 ?_
                      exact S_zret X (Or.inr rfl) (nle rfl) (nle rfl) dX12_set_139 (hPo _ _ ((by exfalso; omega)))
                ·
                  refine S_iload_n X dX12_set_93 rfl rfl ?_
                  refine S_goto (tgt := 101) X dX12_set_94 (by decide) ?_
                  refine S_put X fpX12_56_11 0 rfl FT_i dX12_set_101 ?_
                  refine S_w (ws' := [(h0, ob 11 (uF (uF (uF (uF f 27 (iv x)) 28 (iv x)) 29 (iv ec)) 30 (iv lim)))]) (by simp only [List.set]; rw [uF_mv (j := 30) (k := 28) (by decide), uF_mv (j := 29) (k := 28) (by decide), uF_same (k := 28)]) ?_
                  refine S_aload_n X dX12_set_104 rfl rfl ?_
                  refine S_iload_n X dX12_set_105 rfl rfl ?_
                  refine S_iconst X dX12_set_106 ?_
                  refine S_icmp_ne (tgt := 114) X dX12_set_107 (by decide) (by omega) (by decide) (fun c_92 => ?_) (fun c_92 => ?_)
                  ·
                    refine S_aload_n X dX12_set_114 rfl rfl ?_
                    refine S_get (v := iv ec) X fgX12_287_11 0 rfl rfl dX12_set_115 ?_
                    refine S_put X fpX12_287_11 0 rfl FT_i dX12_set_118 ?_
                    refine S_w (ws' := [(h0, ob 11 (uF (uF (uF (uF f 27 (iv x)) 28 (iv x)) 29 (iv ec)) 30 (iv lim)))]) (by simp only [List.set]; rw [uF_mv (j := 30) (k := 29) (by decide), uF_same (k := 29)]) ?_
                    refine S_aload_n X dX12_set_121 rfl rfl ?_
                    refine S_iload_n X dX12_set_122 rfl rfl ?_
                    refine S_iconst X dX12_set_123 ?_
                    refine S_icmp_ne (tgt := 131) X dX12_set_124 (by decide) (by omega) (by decide) (fun c_93 => ?_) (fun c_93 => ?_)
                    ·
                      refine S_aload_n X dX12_set_131 rfl rfl ?_
                      refine S_get (v := iv lim) X fgX12_59_11 0 rfl rfl dX12_set_132 ?_
                      refine S_put X fpX12_59_11 0 rfl FT_i dX12_set_135 ?_
                      refine S_w (ws' := [(h0, ob 11 (uF (uF (uF (uF f 27 (iv x)) 28 (iv x)) 29 (iv ec)) 30 (iv lim)))]) (by simp only [List.set]; rw [uF_same (k := 30)]) ?_
                      refine S_iconst X dX12_set_138 ?_
                      exact S_zret X (Or.inr rfl) (nle rfl) (nle rfl) dX12_set_139 (hPo _ _ ((by exfalso; omega)))
                    ·
                      refine S_iload_n X dX12_set_127 rfl rfl ?_
                      refine S_goto (tgt := 135) X dX12_set_128 (by decide) ?_
                      refine S_put X fpX12_59_11 0 rfl FT_i dX12_set_135 ?_
                      refine S_w (ws' := [(h0, ob 11 (uF (uF (uF (uF f 27 (iv x)) 28 (iv x)) 29 (iv ec)) 30 (iv x)))]) (by simp only [List.set]; rw [uF_same (k := 30)]) ?_
                      refine S_iconst X dX12_set_138 ?_
                      exact S_zret X (Or.inr rfl) (nle rfl) (nle rfl) dX12_set_139 (hPo _ _ ((by exfalso; omega)))
                  ·
                    refine S_iload_n X dX12_set_110 rfl rfl ?_
                    refine S_goto (tgt := 118) X dX12_set_111 (by decide) ?_
                    refine S_put X fpX12_287_11 0 rfl FT_i dX12_set_118 ?_
                    refine S_w (ws' := [(h0, ob 11 (uF (uF (uF (uF f 27 (iv x)) 28 (iv x)) 29 (iv x)) 30 (iv lim)))]) (by simp only [List.set]; rw [uF_mv (j := 30) (k := 29) (by decide), uF_same (k := 29)]) ?_
                    refine S_aload_n X dX12_set_121 rfl rfl ?_
                    refine S_iload_n X dX12_set_122 rfl rfl ?_
                    refine S_iconst X dX12_set_123 ?_
                    refine S_icmp_ne (tgt := 131) X dX12_set_124 (by decide) (by omega) (by decide) (fun c_94 => ?_) (fun c_94 => ?_)
                    ·
                      refine S_aload_n X dX12_set_131 rfl rfl ?_
                      refine S_get (v := iv lim) X fgX12_59_11 0 rfl rfl dX12_set_132 ?_
                      refine S_put X fpX12_59_11 0 rfl FT_i dX12_set_135 ?_
                      refine S_w (ws' := [(h0, ob 11 (uF (uF (uF (uF f 27 (iv x)) 28 (iv x)) 29 (iv x)) 30 (iv lim)))]) (by simp only [List.set]; rw [uF_same (k := 30)]) ?_
                      refine S_iconst X dX12_set_138 ?_
                      exact S_zret X (Or.inr rfl) (nle rfl) (nle rfl) dX12_set_139 (hPo _ _ ((by exfalso; omega)))
                    ·
                      refine S_iload_n X dX12_set_127 rfl rfl ?_
                      refine S_goto (tgt := 135) X dX12_set_128 (by decide) ?_
                      refine S_put X fpX12_59_11 0 rfl FT_i dX12_set_135 ?_
                      refine S_w (ws' := [(h0, ob 11 (uF (uF (uF (uF f 27 (iv x)) 28 (iv x)) 29 (iv x)) 30 (iv x)))]) (by simp only [List.set]; rw [uF_same (k := 30)]) ?_
                      refine S_iconst X dX12_set_138 ?_
                      exact S_zret X (Or.inr rfl) (nle rfl) (nle rfl) dX12_set_139 (hPo _ _ ((by exfalso; omega)))
        ·
          refine S_aload_n X dX12_set_32 rfl rfl ?_
          refine S_get X fgX12_278_11 0 rfl hf0 dX12_set_33 ?_
          refine S_iconst X dX12_set_36 ?_
          refine S_isub X dX12_set_37 ?_
          refine S_goto (tgt := 63) X dX12_set_38 (by decide) ?_
          refine S_calli X (kX12_in l x 0 (lw - 1) (by omega) (by omega) (by omega)) (is := []) rfl (run_S X lkX12_216 (is := []) (avs := [iv x, iv 0, iv (lw - 1)]) (rest := []) rfl rfl (nle rfl) ⟨nle rfl, nle rfl⟩ ⟨nle rfl, nle rfl⟩ dX12_set_63 (by decide) rfl) (fun z_97 u_95 hp_96 => ?_)
          rcases hp_96 with ⟨hz_98, hu_99, hq_100⟩ | ⟨hz_101, hu_102, hq_103⟩
          ·
            subst hz_98
            subst hu_99
            refine ⟨rfl, ?_⟩
            refine S_w (ws' := [(h0, ob 11 (uF (uF (uF (uF f 27 (iv ho)) 28 (iv n)) 29 (iv ec)) 30 (iv lim)))]) rfl ?_
            refine S_if_ne (tgt := 71) X dX12_set_66 (by decide) (by decide) (fun h9 => absurd h9 (by decide)) (fun _ => ?_)
            refine S_iconst X dX12_set_69 ?_
            exact S_zret X (Or.inl rfl) (nle rfl) (nle rfl) dX12_set_70 (hPo _ _ (Or.inl ⟨rfl, rfl, by omega⟩))
          ·
            subst hz_101
            subst hu_102
            refine ⟨rfl, ?_⟩
            refine S_w (ws' := [(h0, ob 11 (uF (uF (uF (uF f 27 (iv ho)) 28 (iv n)) 29 (iv ec)) 30 (iv lim)))]) rfl ?_
            refine S_if_ne (tgt := 71) X dX12_set_66 (by decide) (by decide) (fun _ => ?_) (fun h9 => absurd h9 (by decide))
            refine S_aload_n X dX12_set_71 rfl rfl ?_
            refine S_iload_n X dX12_set_72 rfl rfl ?_
            refine S_if_ne (tgt := 80) X dX12_set_73 (by decide) (by omega) (fun c_106 => ?_) (fun c_106 => ?_)
            ·
              refine S_aload_n X dX12_set_80 rfl rfl ?_
              refine S_get (v := iv ho) X fgX12_52_11 0 rfl rfl dX12_set_81 ?_
              refine S_put X fpX12_52_11 0 rfl FT_i dX12_set_84 ?_
              refine S_w (ws' := [(h0, ob 11 (uF (uF (uF (uF f 27 (iv ho)) 28 (iv n)) 29 (iv ec)) 30 (iv lim)))]) (by simp only [List.set]; rw [uF_mv (j := 30) (k := 27) (by decide), uF_mv (j := 29) (k := 27) (by decide), uF_mv (j := 28) (k := 27) (by decide), uF_same (k := 27)]) ?_
              refine S_aload_n X dX12_set_87 rfl rfl ?_
              refine S_iload_n X dX12_set_88 rfl rfl ?_
              refine S_iconst X dX12_set_89 ?_
              refine S_icmp_ne (tgt := 97) X dX12_set_90 (by decide) (by omega) (by decide) (fun c_107 => ?_) (fun c_107 => ?_)
              ·
                refine S_aload_n X dX12_set_97 rfl rfl ?_
                refine S_get (v := iv n) X fgX12_56_11 0 rfl rfl dX12_set_98 ?_
                refine S_put X fpX12_56_11 0 rfl FT_i dX12_set_101 ?_
                refine S_w (ws' := [(h0, ob 11 (uF (uF (uF (uF f 27 (iv ho)) 28 (iv n)) 29 (iv ec)) 30 (iv lim)))]) (by simp only [List.set]; rw [uF_mv (j := 30) (k := 28) (by decide), uF_mv (j := 29) (k := 28) (by decide), uF_same (k := 28)]) ?_
                refine S_aload_n X dX12_set_104 rfl rfl ?_
                refine S_iload_n X dX12_set_105 rfl rfl ?_
                refine S_iconst X dX12_set_106 ?_
                refine S_icmp_ne (tgt := 114) X dX12_set_107 (by decide) (by omega) (by decide) (fun c_108 => ?_) (fun c_108 => ?_)
                ·
                  refine S_aload_n X dX12_set_114 rfl rfl ?_
                  refine S_get (v := iv ec) X fgX12_287_11 0 rfl rfl dX12_set_115 ?_
                  refine S_put X fpX12_287_11 0 rfl FT_i dX12_set_118 ?_
                  refine S_w (ws' := [(h0, ob 11 (uF (uF (uF (uF f 27 (iv ho)) 28 (iv n)) 29 (iv ec)) 30 (iv lim)))]) (by simp only [List.set]; rw [uF_mv (j := 30) (k := 29) (by decide), uF_same (k := 29)]) ?_
                  refine S_aload_n X dX12_set_121 rfl rfl ?_
                  refine S_iload_n X dX12_set_122 rfl rfl ?_
                  refine S_iconst X dX12_set_123 ?_
                  refine S_icmp_ne (tgt := 131) X dX12_set_124 (by decide) (by omega) (by decide) (fun c_109 => ?_) (fun c_109 => ?_)
                  ·
                    refine S_aload_n X dX12_set_131 rfl rfl ?_
                    refine S_get (v := iv lim) X fgX12_59_11 0 rfl rfl dX12_set_132 ?_
                    refine S_put X fpX12_59_11 0 rfl FT_i dX12_set_135 ?_
                    refine S_w (ws' := [(h0, ob 11 (uF (uF (uF (uF f 27 (iv ho)) 28 (iv n)) 29 (iv ec)) 30 (iv lim)))]) (by simp only [List.set]; rw [uF_same (k := 30)]) ?_
                    refine S_iconst X dX12_set_138 ?_
                    exact S_zret X (Or.inr rfl) (nle rfl) (nle rfl) dX12_set_139 (hPo _ _ ((by exfalso; omega)))
                  ·
                    refine S_iload_n X dX12_set_127 rfl rfl ?_
                    refine S_goto (tgt := 135) X dX12_set_128 (by decide) ?_
                    refine S_put X fpX12_59_11 0 rfl FT_i dX12_set_135 ?_
                    refine S_w (ws' := [(h0, ob 11 (uF (uF (uF (uF f 27 (iv ho)) 28 (iv n)) 29 (iv ec)) 30 (iv x)))]) (by simp only [List.set]; rw [uF_same (k := 30)]) ?_
                    refine S_iconst X dX12_set_138 ?_
                    exact S_zret X (Or.inr rfl) (nle rfl) (nle rfl) dX12_set_139 (hPo _ _ (Or.inr (Or.inr (Or.inr (Or.inr (⟨rfl, rfl, by omega⟩))))))
                ·
                  refine S_iload_n X dX12_set_110 rfl rfl ?_
                  refine S_goto (tgt := 118) X dX12_set_111 (by decide) ?_
                  refine S_put X fpX12_287_11 0 rfl FT_i dX12_set_118 ?_
                  refine S_w (ws' := [(h0, ob 11 (uF (uF (uF (uF f 27 (iv ho)) 28 (iv n)) 29 (iv x)) 30 (iv lim)))]) (by simp only [List.set]; rw [uF_mv (j := 30) (k := 29) (by decide), uF_same (k := 29)]) ?_
                  refine S_aload_n X dX12_set_121 rfl rfl ?_
                  refine S_iload_n X dX12_set_122 rfl rfl ?_
                  refine S_iconst X dX12_set_123 ?_
                  refine S_icmp_ne (tgt := 131) X dX12_set_124 (by decide) (by omega) (by decide) (fun c_110 => ?_) (fun c_110 => ?_)
                  ·
                    refine S_aload_n X dX12_set_131 rfl rfl ?_
                    refine S_get (v := iv lim) X fgX12_59_11 0 rfl rfl dX12_set_132 ?_
                    refine S_put X fpX12_59_11 0 rfl FT_i dX12_set_135 ?_
                    refine S_w (ws' := [(h0, ob 11 (uF (uF (uF (uF f 27 (iv ho)) 28 (iv n)) 29 (iv x)) 30 (iv lim)))]) (by simp only [List.set]; rw [uF_same (k := 30)]) ?_
                    refine S_iconst X dX12_set_138 ?_
                    exact S_zret X (Or.inr rfl) (nle rfl) (nle rfl) dX12_set_139 (hPo _ _ (Or.inr (Or.inr (Or.inr (Or.inl (⟨rfl, rfl, by omega⟩))))))
                  ·
                    refine S_iload_n X dX12_set_127 rfl rfl ?_
                    refine S_goto (tgt := 135) X dX12_set_128 (by decide) ?_
                    refine S_put X fpX12_59_11 0 rfl FT_i dX12_set_135 ?_
                    refine S_w (ws' := [(h0, ob 11 (uF (uF (uF (uF f 27 (iv ho)) 28 (iv n)) 29 (iv x)) 30 (iv x)))]) (by simp only [List.set]; rw [uF_same (k := 30)]) ?_
                    refine S_iconst X dX12_set_138 ?_
                    exact S_zret X (Or.inr rfl) (nle rfl) (nle rfl) dX12_set_139 (hPo _ _ ((by exfalso; omega)))
              ·
                refine S_iload_n X dX12_set_93 rfl rfl ?_
                refine S_goto (tgt := 101) X dX12_set_94 (by decide) ?_
                refine S_put X fpX12_56_11 0 rfl FT_i dX12_set_101 ?_
                refine S_w (ws' := [(h0, ob 11 (uF (uF (uF (uF f 27 (iv ho)) 28 (iv x)) 29 (iv ec)) 30 (iv lim)))]) (by simp only [List.set]; rw [uF_mv (j := 30) (k := 28) (by decide), uF_mv (j := 29) (k := 28) (by decide), uF_same (k := 28)]) ?_
                refine S_aload_n X dX12_set_104 rfl rfl ?_
                refine S_iload_n X dX12_set_105 rfl rfl ?_
                refine S_iconst X dX12_set_106 ?_
                refine S_icmp_ne (tgt := 114) X dX12_set_107 (by decide) (by omega) (by decide) (fun c_111 => ?_) (fun c_111 => ?_)
                ·
                  refine S_aload_n X dX12_set_114 rfl rfl ?_
                  refine S_get (v := iv ec) X fgX12_287_11 0 rfl rfl dX12_set_115 ?_
                  refine S_put X fpX12_287_11 0 rfl FT_i dX12_set_118 ?_
                  refine S_w (ws' := [(h0, ob 11 (uF (uF (uF (uF f 27 (iv ho)) 28 (iv x)) 29 (iv ec)) 30 (iv lim)))]) (by simp only [List.set]; rw [uF_mv (j := 30) (k := 29) (by decide), uF_same (k := 29)]) ?_
                  refine S_aload_n X dX12_set_121 rfl rfl ?_
                  refine S_iload_n X dX12_set_122 rfl rfl ?_
                  refine S_iconst X dX12_set_123 ?_
                  refine S_icmp_ne (tgt := 131) X dX12_set_124 (by decide) (by omega) (by decide) (fun c_112 => ?_) (fun c_112 => ?_)
                  ·
                    refine S_aload_n X dX12_set_131 rfl rfl ?_
                    refine S_get (v := iv lim) X fgX12_59_11 0 rfl rfl dX12_set_132 ?_
                    refine S_put X fpX12_59_11 0 rfl FT_i dX12_set_135 ?_
                    refine S_w (ws' := [(h0, ob 11 (uF (uF (uF (uF f 27 (iv ho)) 28 (iv x)) 29 (iv ec)) 30 (iv lim)))]) (by simp only [List.set]; rw [uF_same (k := 30)]) ?_
                    refine S_iconst X dX12_set_138 ?_
                    exact S_zret X (Or.inr rfl) (nle rfl) (nle rfl) dX12_set_139 (hPo _ _ (Or.inr (Or.inr (Or.inl (⟨rfl, rfl, by omega⟩)))))
                  ·
                    refine S_iload_n X dX12_set_127 rfl rfl ?_
                    refine S_goto (tgt := 135) X dX12_set_128 (by decide) ?_
                    refine S_put X fpX12_59_11 0 rfl FT_i dX12_set_135 ?_
                    refine S_w (ws' := [(h0, ob 11 (uF (uF (uF (uF f 27 (iv ho)) 28 (iv x)) 29 (iv ec)) 30 (iv x)))]) (by simp only [List.set]; rw [uF_same (k := 30)]) ?_
                    refine S_iconst X dX12_set_138 ?_
                    exact S_zret X (Or.inr rfl) (nle rfl) (nle rfl) dX12_set_139 (hPo _ _ ((by exfalso; omega)))
                ·
                  refine S_iload_n X dX12_set_110 rfl rfl ?_
                  refine S_goto (tgt := 118) X dX12_set_111 (by decide) ?_
                  refine S_put X fpX12_287_11 0 rfl FT_i dX12_set_118 ?_
                  refine S_w (ws' := [(h0, ob 11 (uF (uF (uF (uF f 27 (iv ho)) 28 (iv x)) 29 (iv x)) 30 (iv lim)))]) (by simp only [List.set]; rw [uF_mv (j := 30) (k := 29) (by decide), uF_same (k := 29)]) ?_
                  refine S_aload_n X dX12_set_121 rfl rfl ?_
                  refine S_iload_n X dX12_set_122 rfl rfl ?_
                  refine S_iconst X dX12_set_123 ?_
                  refine S_icmp_ne (tgt := 131) X dX12_set_124 (by decide) (by omega) (by decide) (fun c_113 => ?_) (fun c_113 => ?_)
                  ·
                    refine S_aload_n X dX12_set_131 rfl rfl ?_
                    refine S_get (v := iv lim) X fgX12_59_11 0 rfl rfl dX12_set_132 ?_
                    refine S_put X fpX12_59_11 0 rfl FT_i dX12_set_135 ?_
                    refine S_w (ws' := [(h0, ob 11 (uF (uF (uF (uF f 27 (iv ho)) 28 (iv x)) 29 (iv x)) 30 (iv lim)))]) (by simp only [List.set]; rw [uF_same (k := 30)]) ?_
                    refine S_iconst X dX12_set_138 ?_
                    exact S_zret X (Or.inr rfl) (nle rfl) (nle rfl) dX12_set_139 (hPo _ _ ((by exfalso; omega)))
                  ·
                    refine S_iload_n X dX12_set_127 rfl rfl ?_
                    refine S_goto (tgt := 135) X dX12_set_128 (by decide) ?_
                    refine S_put X fpX12_59_11 0 rfl FT_i dX12_set_135 ?_
                    refine S_w (ws' := [(h0, ob 11 (uF (uF (uF (uF f 27 (iv ho)) 28 (iv x)) 29 (iv x)) 30 (iv x)))]) (by simp only [List.set]; rw [uF_same (k := 30)]) ?_
                    refine S_iconst X dX12_set_138 ?_
                    exact S_zret X (Or.inr rfl) (nle rfl) (nle rfl) dX12_set_139 (hPo _ _ ((by exfalso; omega)))
            ·
              refine S_iload_n X dX12_set_76 rfl rfl ?_
              refine S_goto (tgt := 84) X dX12_set_77 (by decide) ?_
              refine S_put X fpX12_52_11 0 rfl FT_i dX12_set_84 ?_
              refine S_w (ws' := [(h0, ob 11 (uF (uF (uF (uF f 27 (iv x)) 28 (iv n)) 29 (iv ec)) 30 (iv lim)))]) (by simp only [List.set]; rw [uF_mv (j := 30) (k := 27) (by decide), uF_mv (j := 29) (k := 27) (by decide), uF_mv (j := 28) (k := 27) (by decide), uF_same (k := 27)]) ?_
              refine S_aload_n X dX12_set_87 rfl rfl ?_
              refine S_iload_n X dX12_set_88 rfl rfl ?_
              refine S_iconst X dX12_set_89 ?_
              refine S_icmp_ne (tgt := 97) X dX12_set_90 (by decide) (by omega) (by decide) (fun c_114 => ?_) (fun c_114 => ?_)
              ·
                refine S_aload_n X dX12_set_97 rfl rfl ?_
                refine S_get (v := iv n) X fgX12_56_11 0 rfl rfl dX12_set_98 ?_
                refine S_put X fpX12_56_11 0 rfl FT_i dX12_set_101 ?_
                refine S_w (ws' := [(h0, ob 11 (uF (uF (uF (uF f 27 (iv x)) 28 (iv n)) 29 (iv ec)) 30 (iv lim)))]) (by simp only [List.set]; rw [uF_mv (j := 30) (k := 28) (by decide), uF_mv (j := 29) (k := 28) (by decide), uF_same (k := 28)]) ?_
                refine S_aload_n X dX12_set_104 rfl rfl ?_
                refine S_iload_n X dX12_set_105 rfl rfl ?_
                refine S_iconst X dX12_set_106 ?_
                refine S_icmp_ne (tgt := 114) X dX12_set_107 (by decide) (by omega) (by decide) (fun c_115 => ?_) (fun c_115 => ?_)
                ·
                  refine S_aload_n X dX12_set_114 rfl rfl ?_
                  refine S_get (v := iv ec) X fgX12_287_11 0 rfl rfl dX12_set_115 ?_
                  refine S_put X fpX12_287_11 0 rfl FT_i dX12_set_118 ?_
                  refine S_w (ws' := [(h0, ob 11 (uF (uF (uF (uF f 27 (iv x)) 28 (iv n)) 29 (iv ec)) 30 (iv lim)))]) (by simp only [List.set]; rw [uF_mv (j := 30) (k := 29) (by decide), uF_same (k := 29)]) ?_
                  refine S_aload_n X dX12_set_121 rfl rfl ?_
                  refine S_iload_n X dX12_set_122 rfl rfl ?_
                  refine S_iconst X dX12_set_123 ?_
                  refine S_icmp_ne (tgt := 131) X dX12_set_124 (by decide) (by omega) (by decide) (fun c_116 => ?_) (fun c_116 => ?_)
                  ·
                    refine S_aload_n X dX12_set_131 rfl rfl ?_
                    refine S_get (v := iv lim) X fgX12_59_11 0 rfl rfl dX12_set_132 ?_
                    refine S_put X fpX12_59_11 0 rfl FT_i dX12_set_135 ?_
                    refine S_w (ws' := [(h0, ob 11 (uF (uF (uF (uF f 27 (iv x)) 28 (iv n)) 29 (iv ec)) 30 (iv lim)))]) (by simp only [List.set]; rw [uF_same (k := 30)]) ?_
                    refine S_iconst X dX12_set_138 ?_
                    exact S_zret X (Or.inr rfl) (nle rfl) (nle rfl) dX12_set_139 (hPo _ _ (Or.inr (Or.inl (⟨rfl, rfl, by omega⟩))))
                  ·
                    refine S_iload_n X dX12_set_127 rfl rfl ?_
                    refine S_goto (tgt := 135) X dX12_set_128 (by decide) ?_
                    refine S_put X fpX12_59_11 0 rfl FT_i dX12_set_135 ?_
                    refine S_w (ws' := [(h0, ob 11 (uF (uF (uF (uF f 27 (iv x)) 28 (iv n)) 29 (iv ec)) 30 (iv x)))]) (by simp only [List.set]; rw [uF_same (k := 30)]) ?_
                    refine S_iconst X dX12_set_138 ?_
                    exact S_zret X (Or.inr rfl) (nle rfl) (nle rfl) dX12_set_139 (hPo _ _ ((by exfalso; omega)))
                ·
                  refine S_iload_n X dX12_set_110 rfl rfl ?_
                  refine S_goto (tgt := 118) X dX12_set_111 (by decide) ?_
                  refine S_put X fpX12_287_11 0 rfl FT_i dX12_set_118 ?_
                  refine S_w (ws' := [(h0, ob 11 (uF (uF (uF (uF f 27 (iv x)) 28 (iv n)) 29 (iv x)) 30 (iv lim)))]) (by simp only [List.set]; rw [uF_mv (j := 30) (k := 29) (by decide), uF_same (k := 29)]) ?_
                  refine S_aload_n X dX12_set_121 rfl rfl ?_
                  refine S_iload_n X dX12_set_122 rfl rfl ?_
                  refine S_iconst X dX12_set_123 ?_
                  refine S_icmp_ne (tgt := 131) X dX12_set_124 (by decide) (by omega) (by decide) (fun c_117 => ?_) (fun c_117 => ?_)
                  ·
                    refine S_aload_n X dX12_set_131 rfl rfl ?_
                    refine S_get (v := iv lim) X fgX12_59_11 0 rfl rfl dX12_set_132 ?_
                    refine S_put X fpX12_59_11 0 rfl FT_i dX12_set_135 ?_
                    refine S_w (ws' := [(h0, ob 11 (uF (uF (uF (uF f 27 (iv x)) 28 (iv n)) 29 (iv x)) 30 (iv lim)))]) (by simp only [List.set]; rw [uF_same (k := 30)]) ?_
                    refine S_iconst X dX12_set_138 ?_
                    exact S_zret X (Or.inr rfl) (nle rfl) (nle rfl) dX12_set_139 (hPo _ _ ((by exfalso; omega)))
                  ·
                    refine S_iload_n X dX12_set_127 rfl rfl ?_
                    refine S_goto (tgt := 135) X dX12_set_128 (by decide) ?_
                    refine S_put X fpX12_59_11 0 rfl FT_i dX12_set_135 ?_
                    refine S_w (ws' := [(h0, ob 11 (uF (uF (uF (uF f 27 (iv x)) 28 (iv n)) 29 (iv x)) 30 (iv x)))]) (by simp only [List.set]; rw [uF_same (k := 30)]) ?_
                    refine S_iconst X dX12_set_138 ?_
                    exact S_zret X (Or.inr rfl) (nle rfl) (nle rfl) dX12_set_139 (hPo _ _ ((by exfalso; omega)))
              ·
                refine S_iload_n X dX12_set_93 rfl rfl ?_
                refine S_goto (tgt := 101) X dX12_set_94 (by decide) ?_
                refine S_put X fpX12_56_11 0 rfl FT_i dX12_set_101 ?_
                refine S_w (ws' := [(h0, ob 11 (uF (uF (uF (uF f 27 (iv x)) 28 (iv x)) 29 (iv ec)) 30 (iv lim)))]) (by simp only [List.set]; rw [uF_mv (j := 30) (k := 28) (by decide), uF_mv (j := 29) (k := 28) (by decide), uF_same (k := 28)]) ?_
                refine S_aload_n X dX12_set_104 rfl rfl ?_
                refine S_iload_n X dX12_set_105 rfl rfl ?_
                refine S_iconst X dX12_set_106 ?_
                refine S_icmp_ne (tgt := 114) X dX12_set_107 (by decide) (by omega) (by decide) (fun c_118 => ?_) (fun c_118 => ?_)
                ·
                  refine S_aload_n X dX12_set_114 rfl rfl ?_
                  refine S_get (v := iv ec) X fgX12_287_11 0 rfl rfl dX12_set_115 ?_
                  refine S_put X fpX12_287_11 0 rfl FT_i dX12_set_118 ?_
                  refine S_w (ws' := [(h0, ob 11 (uF (uF (uF (uF f 27 (iv x)) 28 (iv x)) 29 (iv ec)) 30 (iv lim)))]) (by simp only [List.set]; rw [uF_mv (j := 30) (k := 29) (by decide), uF_same (k := 29)]) ?_
                  refine S_aload_n X dX12_set_121 rfl rfl ?_
                  refine S_iload_n X dX12_set_122 rfl rfl ?_
                  refine S_iconst X dX12_set_123 ?_
                  refine S_icmp_ne (tgt := 131) X dX12_set_124 (by decide) (by omega) (by decide) (fun c_119 => ?_) (fun c_119 => ?_)
                  ·
                    refine S_aload_n X dX12_set_131 rfl rfl ?_
                    refine S_get (v := iv lim) X fgX12_59_11 0 rfl rfl dX12_set_132 ?_
                    refine S_put X fpX12_59_11 0 rfl FT_i dX12_set_135 ?_
                    refine S_w (ws' := [(h0, ob 11 (uF (uF (uF (uF f 27 (iv x)) 28 (iv x)) 29 (iv ec)) 30 (iv lim)))]) (by simp only [List.set]; rw [uF_same (k := 30)]) ?_
                    refine S_iconst X dX12_set_138 ?_
                    exact S_zret X (Or.inr rfl) (nle rfl) (nle rfl) dX12_set_139 (hPo _ _ ((by exfalso; omega)))
                  ·
                    refine S_iload_n X dX12_set_127 rfl rfl ?_
                    refine S_goto (tgt := 135) X dX12_set_128 (by decide) ?_
                    refine S_put X fpX12_59_11 0 rfl FT_i dX12_set_135 ?_
                    refine S_w (ws' := [(h0, ob 11 (uF (uF (uF (uF f 27 (iv x)) 28 (iv x)) 29 (iv ec)) 30 (iv x)))]) (by simp only [List.set]; rw [uF_same (k := 30)]) ?_
                    refine S_iconst X dX12_set_138 ?_
                    exact S_zret X (Or.inr rfl) (nle rfl) (nle rfl) dX12_set_139 (hPo _ _ ((by exfalso; omega)))
                ·
                  refine S_iload_n X dX12_set_110 rfl rfl ?_
                  refine S_goto (tgt := 118) X dX12_set_111 (by decide) ?_
                  refine S_put X fpX12_287_11 0 rfl FT_i dX12_set_118 ?_
                  refine S_w (ws' := [(h0, ob 11 (uF (uF (uF (uF f 27 (iv x)) 28 (iv x)) 29 (iv x)) 30 (iv lim)))]) (by simp only [List.set]; rw [uF_mv (j := 30) (k := 29) (by decide), uF_same (k := 29)]) ?_
                  refine S_aload_n X dX12_set_121 rfl rfl ?_
                  refine S_iload_n X dX12_set_122 rfl rfl ?_
                  refine S_iconst X dX12_set_123 ?_
                  refine S_icmp_ne (tgt := 131) X dX12_set_124 (by decide) (by omega) (by decide) (fun c_120 => ?_) (fun c_120 => ?_)
                  ·
                    refine S_aload_n X dX12_set_131 rfl rfl ?_
                    refine S_get (v := iv lim) X fgX12_59_11 0 rfl rfl dX12_set_132 ?_
                    refine S_put X fpX12_59_11 0 rfl FT_i dX12_set_135 ?_
                    refine S_w (ws' := [(h0, ob 11 (uF (uF (uF (uF f 27 (iv x)) 28 (iv x)) 29 (iv x)) 30 (iv lim)))]) (by simp only [List.set]; rw [uF_same (k := 30)]) ?_
                    refine S_iconst X dX12_set_138 ?_
                    exact S_zret X (Or.inr rfl) (nle rfl) (nle rfl) dX12_set_139 (hPo _ _ ((by exfalso; omega)))
                  ·
                    refine S_iload_n X dX12_set_127 rfl rfl ?_
                    refine S_goto (tgt := 135) X dX12_set_128 (by decide) ?_
                    refine S_put X fpX12_59_11 0 rfl FT_i dX12_set_135 ?_
                    refine S_w (ws' := [(h0, ob 11 (uF (uF (uF (uF f 27 (iv x)) 28 (iv x)) 29 (iv x)) 30 (iv x)))]) (by simp only [List.set]; rw [uF_same (k := 30)]) ?_
                    refine S_iconst X dX12_set_138 ?_
                    exact S_zret X (Or.inr rfl) (nle rfl) (nle rfl) dX12_set_139 (hPo _ _ ((by exfalso; omega)))
      ·
        refine S_iconst X dX12_set_23 ?_
        refine S_goto (tgt := 28) X dX12_set_24 (by decide) ?_
        refine S_iload_n X dX12_set_28 rfl rfl ?_
        refine S_if_ne (tgt := 41) X dX12_set_29 (by decide) (by omega) (fun c_121 => ?_) (fun c_121 => ?_)
        ·
          refine S_iload_n X dX12_set_41 rfl rfl ?_
          refine S_iconst X dX12_set_42 ?_
          refine S_icmp_ne (tgt := 51) X dX12_set_43 (by decide) (by omega) (by decide) (fun c_122 => ?_) (fun c_122 => ?_)
          ·
            refine S_iload_n X dX12_set_51 rfl rfl ?_
            refine S_iconst X dX12_set_52 ?_
            refine S_icmp_ne (tgt := 60) X dX12_set_53 (by decide) (by omega) (by decide) (fun c_123 => ?_) (fun c_123 => ?_)
            ·
              refine S_sipush X dX12_set_60 rfl ?_
              refine S_calli X (kX12_in l x 1 999 (by omega) (by omega) (by omega)) (is := []) rfl (run_S X lkX12_216 (is := []) (avs := [iv x, iv 1, iv 999]) (rest := []) rfl rfl (nle rfl) ⟨nle rfl, nle rfl⟩ ⟨nle rfl, nle rfl⟩ dX12_set_63 (by decide) rfl) (fun z_126 u_124 hp_125 => ?_)
              rcases hp_125 with ⟨hz_127, hu_128, hq_129⟩ | ⟨hz_130, hu_131, hq_132⟩
              ·
                subst hz_127
                subst hu_128
                refine ⟨rfl, ?_⟩
                refine S_w (ws' := [(h0, ob 11 (uF (uF (uF (uF f 27 (iv ho)) 28 (iv n)) 29 (iv ec)) 30 (iv lim)))]) rfl ?_
                refine S_if_ne (tgt := 71) X dX12_set_66 (by decide) (by decide) (fun h9 => absurd h9 (by decide)) (fun _ => ?_)
                refine S_iconst X dX12_set_69 ?_
                exact S_zret X (Or.inl rfl) (nle rfl) (nle rfl) dX12_set_70 (hPo _ _ (Or.inl ⟨rfl, rfl, by omega⟩))
              ·
                subst hz_130
                subst hu_131
                refine ⟨rfl, ?_⟩
                refine S_w (ws' := [(h0, ob 11 (uF (uF (uF (uF f 27 (iv ho)) 28 (iv n)) 29 (iv ec)) 30 (iv lim)))]) rfl ?_
                refine S_if_ne (tgt := 71) X dX12_set_66 (by decide) (by decide) (fun _ => ?_) (fun h9 => absurd h9 (by decide))
                refine S_aload_n X dX12_set_71 rfl rfl ?_
                refine S_iload_n X dX12_set_72 rfl rfl ?_
                refine S_if_ne (tgt := 80) X dX12_set_73 (by decide) (by omega) (fun c_135 => ?_) (fun c_135 => ?_)
                ·
                  refine S_aload_n X dX12_set_80 rfl rfl ?_
                  refine S_get (v := iv ho) X fgX12_52_11 0 rfl rfl dX12_set_81 ?_
                  refine S_put X fpX12_52_11 0 rfl FT_i dX12_set_84 ?_
                  refine S_w (ws' := [(h0, ob 11 (uF (uF (uF (uF f 27 (iv ho)) 28 (iv n)) 29 (iv ec)) 30 (iv lim)))]) (by simp only [List.set]; rw [uF_mv (j := 30) (k := 27) (by decide), uF_mv (j := 29) (k := 27) (by decide), uF_mv (j := 28) (k := 27) (by decide), uF_same (k := 27)]) ?_
                  refine S_aload_n X dX12_set_87 rfl rfl ?_
                  refine S_iload_n X dX12_set_88 rfl rfl ?_
                  refine S_iconst X dX12_set_89 ?_
                  refine S_icmp_ne (tgt := 97) X dX12_set_90 (by decide) (by omega) (by decide) (fun c_136 => ?_) (fun c_136 => ?_)
                  ·
                    refine S_aload_n X dX12_set_97 rfl rfl ?_
                    refine S_get (v := iv n) X fgX12_56_11 0 rfl rfl dX12_set_98 ?_
                    refine S_put X fpX12_56_11 0 rfl FT_i dX12_set_101 ?_
                    refine S_w (ws' := [(h0, ob 11 (uF (uF (uF (uF f 27 (iv ho)) 28 (iv n)) 29 (iv ec)) 30 (iv lim)))]) (by simp only [List.set]; rw [uF_mv (j := 30) (k := 28) (by decide), uF_mv (j := 29) (k := 28) (by decide), uF_same (k := 28)]) ?_
                    refine S_aload_n X dX12_set_104 rfl rfl ?_
                    refine S_iload_n X dX12_set_105 rfl rfl ?_
                    refine S_iconst X dX12_set_106 ?_
                    refine S_icmp_ne (tgt := 114) X dX12_set_107 (by decide) (by omega) (by decide) (fun c_137 => ?_) (fun c_137 => ?_)
                    ·
                      refine S_aload_n X dX12_set_114 rfl rfl ?_
                      refine S_get (v := iv ec) X fgX12_287_11 0 rfl rfl dX12_set_115 ?_
                      refine S_put X fpX12_287_11 0 rfl FT_i dX12_set_118 ?_
                      refine S_w (ws' := [(h0, ob 11 (uF (uF (uF (uF f 27 (iv ho)) 28 (iv n)) 29 (iv ec)) 30 (iv lim)))]) (by simp only [List.set]; rw [uF_mv (j := 30) (k := 29) (by decide), uF_same (k := 29)]) ?_
                      refine S_aload_n X dX12_set_121 rfl rfl ?_
                      refine S_iload_n X dX12_set_122 rfl rfl ?_
                      refine S_iconst X dX12_set_123 ?_
                      refine S_icmp_ne (tgt := 131) X dX12_set_124 (by decide) (by omega) (by decide) (fun c_138 => ?_) (fun c_138 => ?_)
                      ·
                        refine S_aload_n X dX12_set_131 rfl rfl ?_
                        refine S_get (v := iv lim) X fgX12_59_11 0 rfl rfl dX12_set_132 ?_
                        refine S_put X fpX12_59_11 0 rfl FT_i dX12_set_135 ?_
                        refine S_w (ws' := [(h0, ob 11 (uF (uF (uF (uF f 27 (iv ho)) 28 (iv n)) 29 (iv ec)) 30 (iv lim)))]) (by simp only [List.set]; rw [uF_same (k := 30)]) ?_
                        refine S_iconst X dX12_set_138 ?_
                        exact S_zret X (Or.inr rfl) (nle rfl) (nle rfl) dX12_set_139 (hPo _ _ ((by exfalso; omega)))
                      ·
                        refine S_iload_n X dX12_set_127 rfl rfl ?_
                        refine S_goto (tgt := 135) X dX12_set_128 (by decide) ?_
                        refine S_put X fpX12_59_11 0 rfl FT_i dX12_set_135 ?_
                        refine S_w (ws' := [(h0, ob 11 (uF (uF (uF (uF f 27 (iv ho)) 28 (iv n)) 29 (iv ec)) 30 (iv x)))]) (by simp only [List.set]; rw [uF_same (k := 30)]) ?_
                        refine S_iconst X dX12_set_138 ?_
                        exact S_zret X (Or.inr rfl) (nle rfl) (nle rfl) dX12_set_139 (hPo _ _ (Or.inr (Or.inr (Or.inr (Or.inr (⟨rfl, rfl, by omega⟩))))))
                    ·
                      refine S_iload_n X dX12_set_110 rfl rfl ?_
                      refine S_goto (tgt := 118) X dX12_set_111 (by decide) ?_
                      refine S_put X fpX12_287_11 0 rfl FT_i dX12_set_118 ?_
                      refine S_w (ws' := [(h0, ob 11 (uF (uF (uF (uF f 27 (iv ho)) 28 (iv n)) 29 (iv x)) 30 (iv lim)))]) (by simp only [List.set]; rw [uF_mv (j := 30) (k := 29) (by decide), uF_same (k := 29)]) ?_
                      refine S_aload_n X dX12_set_121 rfl rfl ?_
                      refine S_iload_n X dX12_set_122 rfl rfl ?_
                      refine S_iconst X dX12_set_123 ?_
                      refine S_icmp_ne (tgt := 131) X dX12_set_124 (by decide) (by omega) (by decide) (fun c_139 => ?_) (fun c_139 => ?_)
                      ·
                        refine S_aload_n X dX12_set_131 rfl rfl ?_
                        refine S_get (v := iv lim) X fgX12_59_11 0 rfl rfl dX12_set_132 ?_
                        refine S_put X fpX12_59_11 0 rfl FT_i dX12_set_135 ?_
                        refine S_w (ws' := [(h0, ob 11 (uF (uF (uF (uF f 27 (iv ho)) 28 (iv n)) 29 (iv x)) 30 (iv lim)))]) (by simp only [List.set]; rw [uF_same (k := 30)]) ?_
                        refine S_iconst X dX12_set_138 ?_
                        exact S_zret X (Or.inr rfl) (nle rfl) (nle rfl) dX12_set_139 (hPo _ _ (Or.inr (Or.inr (Or.inr (Or.inl (⟨rfl, rfl, by omega⟩))))))
                      ·
                        refine S_iload_n X dX12_set_127 rfl rfl ?_
                        refine S_goto (tgt := 135) X dX12_set_128 (by decide) ?_
                        refine S_put X fpX12_59_11 0 rfl FT_i dX12_set_135 ?_
                        refine S_w (ws' := [(h0, ob 11 (uF (uF (uF (uF f 27 (iv ho)) 28 (iv n)) 29 (iv x)) 30 (iv x)))]) (by simp only [List.set]; rw [uF_same (k := 30)]) ?_
                        refine S_iconst X dX12_set_138 ?_
                        exact S_zret X (Or.inr rfl) (nle rfl) (nle rfl) dX12_set_139 (hPo _ _ ((by exfalso; omega)))
                  ·
                    refine S_iload_n X dX12_set_93 rfl rfl ?_
                    refine S_goto (tgt := 101) X dX12_set_94 (by decide) ?_
                    refine S_put X fpX12_56_11 0 rfl FT_i dX12_set_101 ?_
                    refine S_w (ws' := [(h0, ob 11 (uF (uF (uF (uF f 27 (iv ho)) 28 (iv x)) 29 (iv ec)) 30 (iv lim)))]) (by simp only [List.set]; rw [uF_mv (j := 30) (k := 28) (by decide), uF_mv (j := 29) (k := 28) (by decide), uF_same (k := 28)]) ?_
                    refine S_aload_n X dX12_set_104 rfl rfl ?_
                    refine S_iload_n X dX12_set_105 rfl rfl ?_
                    refine S_iconst X dX12_set_106 ?_
                    refine S_icmp_ne (tgt := 114) X dX12_set_107 (by decide) (by omega) (by decide) (fun c_140 => ?_) (fun c_140 => ?_)
                    ·
                      refine S_aload_n X dX12_set_114 rfl rfl ?_
                      refine S_get (v := iv ec) X fgX12_287_11 0 rfl rfl dX12_set_115 ?_
                      refine S_put X fpX12_287_11 0 rfl FT_i dX12_set_118 ?_
                      refine S_w (ws' := [(h0, ob 11 (uF (uF (uF (uF f 27 (iv ho)) 28 (iv x)) 29 (iv ec)) 30 (iv lim)))]) (by simp only [List.set]; rw [uF_mv (j := 30) (k := 29) (by decide), uF_same (k := 29)]) ?_
                      refine S_aload_n X dX12_set_121 rfl rfl ?_
                      refine S_iload_n X dX12_set_122 rfl rfl ?_
                      refine S_iconst X dX12_set_123 ?_
                      refine S_icmp_ne (tgt := 131) X dX12_set_124 (by decide) (by omega) (by decide) (fun c_141 => ?_) (fun c_141 => ?_)
                      ·
                        refine S_aload_n X dX12_set_131 rfl rfl ?_
                        refine S_get (v := iv lim) X fgX12_59_11 0 rfl rfl dX12_set_132 ?_
                        refine S_put X fpX12_59_11 0 rfl FT_i dX12_set_135 ?_
                        refine S_w (ws' := [(h0, ob 11 (uF (uF (uF (uF f 27 (iv ho)) 28 (iv x)) 29 (iv ec)) 30 (iv lim)))]) (by simp only [List.set]; rw [uF_same (k := 30)]) ?_
                        refine S_iconst X dX12_set_138 ?_
                        exact S_zret X (Or.inr rfl) (nle rfl) (nle rfl) dX12_set_139 (hPo _ _ (Or.inr (Or.inr (Or.inl (⟨rfl, rfl, by omega⟩)))))
                      ·
                        refine S_iload_n X dX12_set_127 rfl rfl ?_
                        refine S_goto (tgt := 135) X dX12_set_128 (by decide) ?_
                        refine S_put X fpX12_59_11 0 rfl FT_i dX12_set_135 ?_
                        refine S_w (ws' := [(h0, ob 11 (uF (uF (uF (uF f 27 (iv ho)) 28 (iv x)) 29 (iv ec)) 30 (iv x)))]) (by simp only [List.set]; rw [uF_same (k := 30)]) ?_
                        refine S_iconst X dX12_set_138 ?_
                        exact S_zret X (Or.inr rfl) (nle rfl) (nle rfl) dX12_set_139 (hPo _ _ ((by exfalso; omega)))
                    ·
                      refine S_iload_n X dX12_set_110 rfl rfl ?_
                      refine S_goto (tgt := 118) X dX12_set_111 (by decide) ?_
                      refine S_put X fpX12_287_11 0 rfl FT_i dX12_set_118 ?_
                      refine S_w (ws' := [(h0, ob 11 (uF (uF (uF (uF f 27 (iv ho)) 28 (iv x)) 29 (iv x)) 30 (iv lim)))]) (by simp only [List.set]; rw [uF_mv (j := 30) (k := 29) (by decide), uF_same (k := 29)]) ?_
                      refine S_aload_n X dX12_set_121 rfl rfl ?_
                      refine S_iload_n X dX12_set_122 rfl rfl ?_
                      refine S_iconst X dX12_set_123 ?_
                      refine S_icmp_ne (tgt := 131) X dX12_set_124 (by decide) (by omega) (by decide) (fun c_142 => ?_) (fun c_142 => ?_)
                      ·
                        refine S_aload_n X dX12_set_131 rfl rfl ?_
                        refine S_get (v := iv lim) X fgX12_59_11 0 rfl rfl dX12_set_132 ?_
                        refine S_put X fpX12_59_11 0 rfl FT_i dX12_set_135 ?_
                        refine S_w (ws' := [(h0, ob 11 (uF (uF (uF (uF f 27 (iv ho)) 28 (iv x)) 29 (iv x)) 30 (iv lim)))]) (by simp only [List.set]; rw [uF_same (k := 30)]) ?_
                        refine S_iconst X dX12_set_138 ?_
                        exact S_zret X (Or.inr rfl) (nle rfl) (nle rfl) dX12_set_139 (hPo _ _ ((by exfalso; omega)))
                      ·
                        refine S_iload_n X dX12_set_127 rfl rfl ?_
                        refine S_goto (tgt := 135) X dX12_set_128 (by decide) ?_
                        refine S_put X fpX12_59_11 0 rfl FT_i dX12_set_135 ?_
                        refine S_w (ws' := [(h0, ob 11 (uF (uF (uF (uF f 27 (iv ho)) 28 (iv x)) 29 (iv x)) 30 (iv x)))]) (by simp only [List.set]; rw [uF_same (k := 30)]) ?_
                        refine S_iconst X dX12_set_138 ?_
                        exact S_zret X (Or.inr rfl) (nle rfl) (nle rfl) dX12_set_139 (hPo _ _ ((by exfalso; omega)))
                ·
                  refine S_iload_n X dX12_set_76 rfl rfl ?_
                  refine S_goto (tgt := 84) X dX12_set_77 (by decide) ?_
                  refine S_put X fpX12_52_11 0 rfl FT_i dX12_set_84 ?_
                  refine S_w (ws' := [(h0, ob 11 (uF (uF (uF (uF f 27 (iv x)) 28 (iv n)) 29 (iv ec)) 30 (iv lim)))]) (by simp only [List.set]; rw [uF_mv (j := 30) (k := 27) (by decide), uF_mv (j := 29) (k := 27) (by decide), uF_mv (j := 28) (k := 27) (by decide), uF_same (k := 27)]) ?_
                  refine S_aload_n X dX12_set_87 rfl rfl ?_
                  refine S_iload_n X dX12_set_88 rfl rfl ?_
                  refine S_iconst X dX12_set_89 ?_
                  refine S_icmp_ne (tgt := 97) X dX12_set_90 (by decide) (by omega) (by decide) (fun c_143 => ?_) (fun c_143 => ?_)
                  ·
                    refine S_aload_n X dX12_set_97 rfl rfl ?_
                    refine S_get (v := iv n) X fgX12_56_11 0 rfl rfl dX12_set_98 ?_
                    refine S_put X fpX12_56_11 0 rfl FT_i dX12_set_101 ?_
                    refine S_w (ws' := [(h0, ob 11 (uF (uF (uF (uF f 27 (iv x)) 28 (iv n)) 29 (iv ec)) 30 (iv lim)))]) (by simp only [List.set]; rw [uF_mv (j := 30) (k := 28) (by decide), uF_mv (j := 29) (k := 28) (by decide), uF_same (k := 28)]) ?_
                    refine S_aload_n X dX12_set_104 rfl rfl ?_
                    refine S_iload_n X dX12_set_105 rfl rfl ?_
                    refine S_iconst X dX12_set_106 ?_
                    refine S_icmp_ne (tgt := 114) X dX12_set_107 (by decide) (by omega) (by decide) (fun c_144 => ?_) (fun c_144 => ?_)
                    ·
                      refine S_aload_n X dX12_set_114 rfl rfl ?_
                      refine S_get (v := iv ec) X fgX12_287_11 0 rfl rfl dX12_set_115 ?_
                      refine S_put X fpX12_287_11 0 rfl FT_i dX12_set_118 ?_
                      refine S_w (ws' := [(h0, ob 11 (uF (uF (uF (uF f 27 (iv x)) 28 (iv n)) 29 (iv ec)) 30 (iv lim)))]) (by simp only [List.set]; rw [uF_mv (j := 30) (k := 29) (by decide), uF_same (k := 29)]) ?_
                      refine S_aload_n X dX12_set_121 rfl rfl ?_
                      refine S_iload_n X dX12_set_122 rfl rfl ?_
                      refine S_iconst X dX12_set_123 ?_
                      refine S_icmp_ne (tgt := 131) X dX12_set_124 (by decide) (by omega) (by decide) (fun c_145 => ?_) (fun c_145 => ?_)
                      ·
                        refine S_aload_n X dX12_set_131 rfl rfl ?_
                        refine S_get (v := iv lim) X fgX12_59_11 0 rfl rfl dX12_set_132 ?_
                        refine S_put X fpX12_59_11 0 rfl FT_i dX12_set_135 ?_
                        refine S_w (ws' := [(h0, ob 11 (uF (uF (uF (uF f 27 (iv x)) 28 (iv n)) 29 (iv ec)) 30 (iv lim)))]) (by simp only [List.set]; rw [uF_same (k := 30)]) ?_
                        refine S_iconst X dX12_set_138 ?_
                        exact S_zret X (Or.inr rfl) (nle rfl) (nle rfl) dX12_set_139 (hPo _ _ (Or.inr (Or.inl (⟨rfl, rfl, by omega⟩))))
                      ·
                        refine S_iload_n X dX12_set_127 rfl rfl ?_
                        refine S_goto (tgt := 135) X dX12_set_128 (by decide) ?_
                        refine S_put X fpX12_59_11 0 rfl FT_i dX12_set_135 ?_
                        refine S_w (ws' := [(h0, ob 11 (uF (uF (uF (uF f 27 (iv x)) 28 (iv n)) 29 (iv ec)) 30 (iv x)))]) (by simp only [List.set]; rw [uF_same (k := 30)]) ?_
                        refine S_iconst X dX12_set_138 ?_
                        exact S_zret X (Or.inr rfl) (nle rfl) (nle rfl) dX12_set_139 (hPo _ _ ((by exfalso; omega)))
                    ·
                      refine S_iload_n X dX12_set_110 rfl rfl ?_
                      refine S_goto (tgt := 118) X dX12_set_111 (by decide) ?_
                      refine S_put X fpX12_287_11 0 rfl FT_i dX12_set_118 ?_
                      refine S_w (ws' := [(h0, ob 11 (uF (uF (uF (uF f 27 (iv x)) 28 (iv n)) 29 (iv x)) 30 (iv lim)))]) (by simp only [List.set]; rw [uF_mv (j := 30) (k := 29) (by decide), uF_same (k := 29)]) ?_
                      refine S_aload_n X dX12_set_121 rfl rfl ?_
                      refine S_iload_n X dX12_set_122 rfl rfl ?_
                      refine S_iconst X dX12_set_123 ?_
                      refine S_icmp_ne (tgt := 131) X dX12_set_124 (by decide) (by omega) (by decide) (fun c_146 => ?_) (fun c_146 => ?_)
                      ·
                        refine S_aload_n X dX12_set_131 rfl rfl ?_
                        refine S_get (v := iv lim) X fgX12_59_11 0 rfl rfl dX12_set_132 ?_
                        refine S_put X fpX12_59_11 0 rfl FT_i dX12_set_135 ?_
                        refine S_w (ws' := [(h0, ob 11 (uF (uF (uF (uF f 27 (iv x)) 28 (iv n)) 29 (iv x)) 30 (iv lim)))]) (by simp only [List.set]; rw [uF_same (k := 30)]) ?_
                        refine S_iconst X dX12_set_138 ?_
                        exact S_zret X (Or.inr rfl) (nle rfl) (nle rfl) dX12_set_139 (hPo _ _ ((by exfalso; omega)))
                      ·
                        refine S_iload_n X dX12_set_127 rfl rfl ?_
                        refine S_goto (tgt := 135) X dX12_set_128 (by decide) ?_
                        refine S_put X fpX12_59_11 0 rfl FT_i dX12_set_135 ?_
                        refine S_w (ws' := [(h0, ob 11 (uF (uF (uF (uF f 27 (iv x)) 28 (iv n)) 29 (iv x)) 30 (iv x)))]) (by simp only [List.set]; rw [uF_same (k := 30)]) ?_
                        refine S_iconst X dX12_set_138 ?_
                        exact S_zret X (Or.inr rfl) (nle rfl) (nle rfl) dX12_set_139 (hPo _ _ ((by exfalso; omega)))
                  ·
                    refine S_iload_n X dX12_set_93 rfl rfl ?_
                    refine S_goto (tgt := 101) X dX12_set_94 (by decide) ?_
                    refine S_put X fpX12_56_11 0 rfl FT_i dX12_set_101 ?_
                    refine S_w (ws' := [(h0, ob 11 (uF (uF (uF (uF f 27 (iv x)) 28 (iv x)) 29 (iv ec)) 30 (iv lim)))]) (by simp only [List.set]; rw [uF_mv (j := 30) (k := 28) (by decide), uF_mv (j := 29) (k := 28) (by decide), uF_same (k := 28)]) ?_
                    refine S_aload_n X dX12_set_104 rfl rfl ?_
                    refine S_iload_n X dX12_set_105 rfl rfl ?_
                    refine S_iconst X dX12_set_106 ?_
                    refine S_icmp_ne (tgt := 114) X dX12_set_107 (by decide) (by omega) (by decide) (fun c_147 => ?_) (fun c_147 => ?_)
                    ·
                      refine S_aload_n X dX12_set_114 rfl rfl ?_
                      refine S_get (v := iv ec) X fgX12_287_11 0 rfl rfl dX12_set_115 ?_
                      refine S_put X fpX12_287_11 0 rfl FT_i dX12_set_118 ?_
                      refine S_w (ws' := [(h0, ob 11 (uF (uF (uF (uF f 27 (iv x)) 28 (iv x)) 29 (iv ec)) 30 (iv lim)))]) (by simp only [List.set]; rw [uF_mv (j := 30) (k := 29) (by decide), uF_same (k := 29)]) ?_
                      refine S_aload_n X dX12_set_121 rfl rfl ?_
                      refine S_iload_n X dX12_set_122 rfl rfl ?_
                      refine S_iconst X dX12_set_123 ?_
                      refine S_icmp_ne (tgt := 131) X dX12_set_124 (by decide) (by omega) (by decide) (fun c_148 => ?_) (fun c_148 => ?_)
                      ·
                        refine S_aload_n X dX12_set_131 rfl rfl ?_
                        refine S_get (v := iv lim) X fgX12_59_11 0 rfl rfl dX12_set_132 ?_
                        refine S_put X fpX12_59_11 0 rfl FT_i dX12_set_135 ?_
                        refine S_w (ws' := [(h0, ob 11 (uF (uF (uF (uF f 27 (iv x)) 28 (iv x)) 29 (iv ec)) 30 (iv lim)))]) (by simp only [List.set]; rw [uF_same (k := 30)]) ?_
                        refine S_iconst X dX12_set_138 ?_
                        exact S_zret X (Or.inr rfl) (nle rfl) (nle rfl) dX12_set_139 (hPo _ _ ((by exfalso; omega)))
                      ·
                        refine S_iload_n X dX12_set_127 rfl rfl ?_
                        refine S_goto (tgt := 135) X dX12_set_128 (by decide) ?_
                        refine S_put X fpX12_59_11 0 rfl FT_i dX12_set_135 ?_
                        refine S_w (ws' := [(h0, ob 11 (uF (uF (uF (uF f 27 (iv x)) 28 (iv x)) 29 (iv ec)) 30 (iv x)))]) (by simp only [List.set]; rw [uF_same (k := 30)]) ?_
                        refine S_iconst X dX12_set_138 ?_
                        exact S_zret X (Or.inr rfl) (nle rfl) (nle rfl) dX12_set_139 (hPo _ _ ((by exfalso; omega)))
                    ·
                      refine S_iload_n X dX12_set_110 rfl rfl ?_
                      refine S_goto (tgt := 118) X dX12_set_111 (by decide) ?_
                      refine S_put X fpX12_287_11 0 rfl FT_i dX12_set_118 ?_
                      refine S_w (ws' := [(h0, ob 11 (uF (uF (uF (uF f 27 (iv x)) 28 (iv x)) 29 (iv x)) 30 (iv lim)))]) (by simp only [List.set]; rw [uF_mv (j := 30) (k := 29) (by decide), uF_same (k := 29)]) ?_
                      refine S_aload_n X dX12_set_121 rfl rfl ?_
                      refine S_iload_n X dX12_set_122 rfl rfl ?_
                      refine S_iconst X dX12_set_123 ?_
                      refine S_icmp_ne (tgt := 131) X dX12_set_124 (by decide) (by omega) (by decide) (fun c_149 => ?_) (fun c_149 => ?_)
                      ·
                        refine S_aload_n X dX12_set_131 rfl rfl ?_
                        refine S_get (v := iv lim) X fgX12_59_11 0 rfl rfl dX12_set_132 ?_
                        refine S_put X fpX12_59_11 0 rfl FT_i dX12_set_135 ?_
                        refine S_w (ws' := [(h0, ob 11 (uF (uF (uF (uF f 27 (iv x)) 28 (iv x)) 29 (iv x)) 30 (iv lim)))]) (by simp only [List.set]; rw [uF_same (k := 30)]) ?_
                        refine S_iconst X dX12_set_138 ?_
                        exact S_zret X (Or.inr rfl) (nle rfl) (nle rfl) dX12_set_139 (hPo _ _ ((by exfalso; omega)))
                      ·
                        refine S_iload_n X dX12_set_127 rfl rfl ?_
                        refine S_goto (tgt := 135) X dX12_set_128 (by decide) ?_
                        refine S_put X fpX12_59_11 0 rfl FT_i dX12_set_135 ?_
                        refine S_w (ws' := [(h0, ob 11 (uF (uF (uF (uF f 27 (iv x)) 28 (iv x)) 29 (iv x)) 30 (iv x)))]) (by simp only [List.set]; rw [uF_same (k := 30)]) ?_
                        refine S_iconst X dX12_set_138 ?_
                        exact S_zret X (Or.inr rfl) (nle rfl) (nle rfl) dX12_set_139 (hPo _ _ ((by exfalso; omega)))
            ·
              refine S_iconst X dX12_set_56 ?_
              refine S_goto (tgt := 63) X dX12_set_57 (by decide) ?_
              refine S_calli X (kX12_in l x 1 3 (by omega) (by omega) (by omega)) (is := []) rfl (run_S X lkX12_216 (is := []) (avs := [iv x, iv 1, iv 3]) (rest := []) rfl rfl (nle rfl) ⟨nle rfl, nle rfl⟩ ⟨nle rfl, nle rfl⟩ dX12_set_63 (by decide) rfl) (fun z_152 u_150 hp_151 => ?_)
              rcases hp_151 with ⟨hz_153, hu_154, hq_155⟩ | ⟨hz_156, hu_157, hq_158⟩
              ·
                subst hz_153
                subst hu_154
                refine ⟨rfl, ?_⟩
                refine S_w (ws' := [(h0, ob 11 (uF (uF (uF (uF f 27 (iv ho)) 28 (iv n)) 29 (iv ec)) 30 (iv lim)))]) rfl ?_
                refine S_if_ne (tgt := 71) X dX12_set_66 (by decide) (by decide) (fun h9 => absurd h9 (by decide)) (fun _ => ?_)
                refine S_iconst X dX12_set_69 ?_
                exact S_zret X (Or.inl rfl) (nle rfl) (nle rfl) dX12_set_70 (hPo _ _ (Or.inl ⟨rfl, rfl, by omega⟩))
              ·
                subst hz_156
                subst hu_157
                refine ⟨rfl, ?_⟩
                refine S_w (ws' := [(h0, ob 11 (uF (uF (uF (uF f 27 (iv ho)) 28 (iv n)) 29 (iv ec)) 30 (iv lim)))]) rfl ?_
                refine S_if_ne (tgt := 71) X dX12_set_66 (by decide) (by decide) (fun _ => ?_) (fun h9 => absurd h9 (by decide))
                refine S_aload_n X dX12_set_71 rfl rfl ?_
                refine S_iload_n X dX12_set_72 rfl rfl ?_
                refine S_if_ne (tgt := 80) X dX12_set_73 (by decide) (by omega) (fun c_161 => ?_) (fun c_161 => ?_)
                ·
                  refine S_aload_n X dX12_set_80 rfl rfl ?_
                  refine S_get (v := iv ho) X fgX12_52_11 0 rfl rfl dX12_set_81 ?_
                  refine S_put X fpX12_52_11 0 rfl FT_i dX12_set_84 ?_
                  refine S_w (ws' := [(h0, ob 11 (uF (uF (uF (uF f 27 (iv ho)) 28 (iv n)) 29 (iv ec)) 30 (iv lim)))]) (by simp only [List.set]; rw [uF_mv (j := 30) (k := 27) (by decide), uF_mv (j := 29) (k := 27) (by decide), uF_mv (j := 28) (k := 27) (by decide), uF_same (k := 27)]) ?_
                  refine S_aload_n X dX12_set_87 rfl rfl ?_
                  refine S_iload_n X dX12_set_88 rfl rfl ?_
                  refine S_iconst X dX12_set_89 ?_
                  refine S_icmp_ne (tgt := 97) X dX12_set_90 (by decide) (by omega) (by decide) (fun c_162 => ?_) (fun c_162 => ?_)
                  ·
                    refine S_aload_n X dX12_set_97 rfl rfl ?_
                    refine S_get (v := iv n) X fgX12_56_11 0 rfl rfl dX12_set_98 ?_
                    refine S_put X fpX12_56_11 0 rfl FT_i dX12_set_101 ?_
                    refine S_w (ws' := [(h0, ob 11 (uF (uF (uF (uF f 27 (iv ho)) 28 (iv n)) 29 (iv ec)) 30 (iv lim)))]) (by simp only [List.set]; rw [uF_mv (j := 30) (k := 28) (by decide), uF_mv (j := 29) (k := 28) (by decide), uF_same (k := 28)]) ?_
                    refine S_aload_n X dX12_set_104 rfl rfl ?_
                    refine S_iload_n X dX12_set_105 rfl rfl ?_
                    refine S_iconst X dX12_set_106 ?_
                    refine S_icmp_ne (tgt := 114) X dX12_set_107 (by decide) (by omega) (by decide) (fun c_163 => ?_) (fun c_163 => ?_)
                    ·
                      refine S_aload_n X dX12_set_114 rfl rfl ?_
                      refine S_get (v := iv ec) X fgX12_287_11 0 rfl rfl dX12_set_115 ?_
                      refine S_put X fpX12_287_11 0 rfl FT_i dX12_set_118 ?_
                      refine S_w (ws' := [(h0, ob 11 (uF (uF (uF (uF f 27 (iv ho)) 28 (iv n)) 29 (iv ec)) 30 (iv lim)))]) (by simp only [List.set]; rw [uF_mv (j := 30) (k := 29) (by decide), uF_same (k := 29)]) ?_
                      refine S_aload_n X dX12_set_121 rfl rfl ?_
                      refine S_iload_n X dX12_set_122 rfl rfl ?_
                      refine S_iconst X dX12_set_123 ?_
                      refine S_icmp_ne (tgt := 131) X dX12_set_124 (by decide) (by omega) (by decide) (fun c_164 => ?_) (fun c_164 => ?_)
                      ·
                        refine S_aload_n X dX12_set_131 rfl rfl ?_
                        refine S_get (v := iv lim) X fgX12_59_11 0 rfl rfl dX12_set_132 ?_
                        refine S_put X fpX12_59_11 0 rfl FT_i dX12_set_135 ?_
                        refine S_w (ws' := [(h0, ob 11 (uF (uF (uF (uF f 27 (iv ho)) 28 (iv n)) 29 (iv ec)) 30 (iv lim)))]) (by simp only [List.set]; rw [uF_same (k := 30)]) ?_
                        refine S_iconst X dX12_set_138 ?_
                        exact S_zret X (Or.inr rfl) (nle rfl) (nle rfl) dX12_set_139 (hPo _ _ ((by exfalso; omega)))
                      ·
                        refine S_iload_n X dX12_set_127 rfl rfl ?_
                        refine S_goto (tgt := 135) X dX12_set_128 (by decide) ?_
                        refine S_put X fpX12_59_11 0 rfl FT_i dX12_set_135 ?_
                        refine S_w (ws' := [(h0, ob 11 (uF (uF (uF (uF f 27 (iv ho)) 28 (iv n)) 29 (iv ec)) 30 (iv x)))]) (by simp only [List.set]; rw [uF_same (k := 30)]) ?_
                        refine S_iconst X dX12_set_138 ?_
                        exact S_zret X (Or.inr rfl) (nle rfl) (nle rfl) dX12_set_139 (hPo _ _ (Or.inr (Or.inr (Or.inr (Or.inr (⟨rfl, rfl, by omega⟩))))))
                    ·
                      refine S_iload_n X dX12_set_110 rfl rfl ?_
                      refine S_goto (tgt := 118) X dX12_set_111 (by decide) ?_
                      refine S_put X fpX12_287_11 0 rfl FT_i dX12_set_118 ?_
                      refine S_w (ws' := [(h0, ob 11 (uF (uF (uF (uF f 27 (iv ho)) 28 (iv n)) 29 (iv x)) 30 (iv lim)))]) (by simp only [List.set]; rw [uF_mv (j := 30) (k := 29) (by decide), uF_same (k := 29)]) ?_
                      refine S_aload_n X dX12_set_121 rfl rfl ?_
                      refine S_iload_n X dX12_set_122 rfl rfl ?_
                      refine S_iconst X dX12_set_123 ?_
                      refine S_icmp_ne (tgt := 131) X dX12_set_124 (by decide) (by omega) (by decide) (fun c_165 => ?_) (fun c_165 => ?_)
                      ·
                        refine S_aload_n X dX12_set_131 rfl rfl ?_
                        refine S_get (v := iv lim) X fgX12_59_11 0 rfl rfl dX12_set_132 ?_
                        refine S_put X fpX12_59_11 0 rfl FT_i dX12_set_135 ?_
                        refine S_w (ws' := [(h0, ob 11 (uF (uF (uF (uF f 27 (iv ho)) 28 (iv n)) 29 (iv x)) 30 (iv lim)))]) (by simp only [List.set]; rw [uF_same (k := 30)]) ?_
                        refine S_iconst X dX12_set_138 ?_
                        exact S_zret X (Or.inr rfl) (nle rfl) (nle rfl) dX12_set_139 (hPo _ _ (Or.inr (Or.inr (Or.inr (Or.inl (⟨rfl, rfl, by omega⟩))))))
                      ·
                        refine S_iload_n X dX12_set_127 rfl rfl ?_
                        refine S_goto (tgt := 135) X dX12_set_128 (by decide) ?_
                        refine S_put X fpX12_59_11 0 rfl FT_i dX12_set_135 ?_
                        refine S_w (ws' := [(h0, ob 11 (uF (uF (uF (uF f 27 (iv ho)) 28 (iv n)) 29 (iv x)) 30 (iv x)))]) (by simp only [List.set]; rw [uF_same (k := 30)]) ?_
                        refine S_iconst X dX12_set_138 ?_
                        exact S_zret X (Or.inr rfl) (nle rfl) (nle rfl) dX12_set_139 (hPo _ _ ((by exfalso; omega)))
                  ·
                    refine S_iload_n X dX12_set_93 rfl rfl ?_
                    refine S_goto (tgt := 101) X dX12_set_94 (by decide) ?_
                    refine S_put X fpX12_56_11 0 rfl FT_i dX12_set_101 ?_
                    refine S_w (ws' := [(h0, ob 11 (uF (uF (uF (uF f 27 (iv ho)) 28 (iv x)) 29 (iv ec)) 30 (iv lim)))]) (by simp only [List.set]; rw [uF_mv (j := 30) (k := 28) (by decide), uF_mv (j := 29) (k := 28) (by decide), uF_same (k := 28)]) ?_
                    refine S_aload_n X dX12_set_104 rfl rfl ?_
                    refine S_iload_n X dX12_set_105 rfl rfl ?_
                    refine S_iconst X dX12_set_106 ?_
                    refine S_icmp_ne (tgt := 114) X dX12_set_107 (by decide) (by omega) (by decide) (fun c_166 => ?_) (fun c_166 => ?_)
                    ·
                      refine S_aload_n X dX12_set_114 rfl rfl ?_
                      refine S_get (v := iv ec) X fgX12_287_11 0 rfl rfl dX12_set_115 ?_
                      refine S_put X fpX12_287_11 0 rfl FT_i dX12_set_118 ?_
                      refine S_w (ws' := [(h0, ob 11 (uF (uF (uF (uF f 27 (iv ho)) 28 (iv x)) 29 (iv ec)) 30 (iv lim)))]) (by simp only [List.set]; rw [uF_mv (j := 30) (k := 29) (by decide), uF_same (k := 29)]) ?_
                      refine S_aload_n X dX12_set_121 rfl rfl ?_
                      refine S_iload_n X dX12_set_122 rfl rfl ?_
                      refine S_iconst X dX12_set_123 ?_
                      refine S_icmp_ne (tgt := 131) X dX12_set_124 (by decide) (by omega) (by decide) (fun c_167 => ?_) (fun c_167 => ?_)
                      ·
                        refine S_aload_n X dX12_set_131 rfl rfl ?_
                        refine S_get (v := iv lim) X fgX12_59_11 0 rfl rfl dX12_set_132 ?_
                        refine S_put X fpX12_59_11 0 rfl FT_i dX12_set_135 ?_
                        refine S_w (ws' := [(h0, ob 11 (uF (uF (uF (uF f 27 (iv ho)) 28 (iv x)) 29 (iv ec)) 30 (iv lim)))]) (by simp only [List.set]; rw [uF_same (k := 30)]) ?_
                        refine S_iconst X dX12_set_138 ?_
                        exact S_zret X (Or.inr rfl) (nle rfl) (nle rfl) dX12_set_139 (hPo _ _ (Or.inr (Or.inr (Or.inl (⟨rfl, rfl, by omega⟩)))))
                      ·
                        refine S_iload_n X dX12_set_127 rfl rfl ?_
                        refine S_goto (tgt := 135) X dX12_set_128 (by decide) ?_
                        refine S_put X fpX12_59_11 0 rfl FT_i dX12_set_135 ?_
                        refine S_w (ws' := [(h0, ob 11 (uF (uF (uF (uF f 27 (iv ho)) 28 (iv x)) 29 (iv ec)) 30 (iv x)))]) (by simp only [List.set]; rw [uF_same (k := 30)]) ?_
                        refine S_iconst X dX12_set_138 ?_
                        exact S_zret X (Or.inr rfl) (nle rfl) (nle rfl) dX12_set_139 (hPo _ _ ((by exfalso; omega)))
                    ·
                      refine S_iload_n X dX12_set_110 rfl rfl ?_
                      refine S_goto (tgt := 118) X dX12_set_111 (by decide) ?_
                      refine S_put X fpX12_287_11 0 rfl FT_i dX12_set_118 ?_
                      refine S_w (ws' := [(h0, ob 11 (uF (uF (uF (uF f 27 (iv ho)) 28 (iv x)) 29 (iv x)) 30 (iv lim)))]) (by simp only [List.set]; rw [uF_mv (j := 30) (k := 29) (by decide), uF_same (k := 29)]) ?_
                      refine S_aload_n X dX12_set_121 rfl rfl ?_
                      refine S_iload_n X dX12_set_122 rfl rfl ?_
                      refine S_iconst X dX12_set_123 ?_
                      refine S_icmp_ne (tgt := 131) X dX12_set_124 (by decide) (by omega) (by decide) (fun c_168 => ?_) (fun c_168 => ?_)
                      ·
                        refine S_aload_n X dX12_set_131 rfl rfl ?_
                        refine S_get (v := iv lim) X fgX12_59_11 0 rfl rfl dX12_set_132 ?_
                        refine S_put X fpX12_59_11 0 rfl FT_i dX12_set_135 ?_
                        refine S_w (ws' := [(h0, ob 11 (uF (uF (uF (uF f 27 (iv ho)) 28 (iv x)) 29 (iv x)) 30 (iv lim)))]) (by simp only [List.set]; rw [uF_same (k := 30)]) ?_
                        refine S_iconst X dX12_set_138 ?_
                        exact S_zret X (Or.inr rfl) (nle rfl) (nle rfl) dX12_set_139 (hPo _ _ ((by exfalso; omega)))
                      ·
                        refine S_iload_n X dX12_set_127 rfl rfl ?_
                        refine S_goto (tgt := 135) X dX12_set_128 (by decide) ?_
                        refine S_put X fpX12_59_11 0 rfl FT_i dX12_set_135 ?_
                        refine S_w (ws' := [(h0, ob 11 (uF (uF (uF (uF f 27 (iv ho)) 28 (iv x)) 29 (iv x)) 30 (iv x)))]) (by simp only [List.set]; rw [uF_same (k := 30)]) ?_
                        refine S_iconst X dX12_set_138 ?_
                        exact S_zret X (Or.inr rfl) (nle rfl) (nle rfl) dX12_set_139 (hPo _ _ ((by exfalso; omega)))
                ·
                  refine S_iload_n X dX12_set_76 rfl rfl ?_
                  refine S_goto (tgt := 84) X dX12_set_77 (by decide) ?_
                  refine S_put X fpX12_52_11 0 rfl FT_i dX12_set_84 ?_
                  refine S_w (ws' := [(h0, ob 11 (uF (uF (uF (uF f 27 (iv x)) 28 (iv n)) 29 (iv ec)) 30 (iv lim)))]) (by simp only [List.set]; rw [uF_mv (j := 30) (k := 27) (by decide), uF_mv (j := 29) (k := 27) (by decide), uF_mv (j := 28) (k := 27) (by decide), uF_same (k := 27)]) ?_
                  refine S_aload_n X dX12_set_87 rfl rfl ?_
                  refine S_iload_n X dX12_set_88 rfl rfl ?_
                  refine S_iconst X dX12_set_89 ?_
                  refine S_icmp_ne (tgt := 97) X dX12_set_90 (by decide) (by omega) (by decide) (fun c_169 => ?_) (fun c_169 => ?_)
                  ·
                    refine S_aload_n X dX12_set_97 rfl rfl ?_
                    refine S_get (v := iv n) X fgX12_56_11 0 rfl rfl dX12_set_98 ?_
                    refine S_put X fpX12_56_11 0 rfl FT_i dX12_set_101 ?_
                    refine S_w (ws' := [(h0, ob 11 (uF (uF (uF (uF f 27 (iv x)) 28 (iv n)) 29 (iv ec)) 30 (iv lim)))]) (by simp only [List.set]; rw [uF_mv (j := 30) (k := 28) (by decide), uF_mv (j := 29) (k := 28) (by decide), uF_same (k := 28)]) ?_
                    refine S_aload_n X dX12_set_104 rfl rfl ?_
                    refine S_iload_n X dX12_set_105 rfl rfl ?_
                    refine S_iconst X dX12_set_106 ?_
                    refine S_icmp_ne (tgt := 114) X dX12_set_107 (by decide) (by omega) (by decide) (fun c_170 => ?_) (fun c_170 => ?_)
                    ·
                      refine S_aload_n X dX12_set_114 rfl rfl ?_
                      refine S_get (v := iv ec) X fgX12_287_11 0 rfl rfl dX12_set_115 ?_
                      refine S_put X fpX12_287_11 0 rfl FT_i dX12_set_118 ?_
                      refine S_w (ws' := [(h0, ob 11 (uF (uF (uF (uF f 27 (iv x)) 28 (iv n)) 29 (iv ec)) 30 (iv lim)))]) (by simp only [List.set]; rw [uF_mv (j := 30) (k := 29) (by decide), uF_same (k := 29)]) ?_
                      refine S_aload_n X dX12_set_121 rfl rfl ?_
                      refine S_iload_n X dX12_set_122 rfl rfl ?_
                      refine S_iconst X dX12_set_123 ?_
                      refine S_icmp_ne (tgt := 131) X dX12_set_124 (by decide) (by omega) (by decide) (fun c_171 => ?_) (fun c_171 => ?_)
                      ·
                        refine S_aload_n X dX12_set_131 rfl rfl ?_
                        refine S_get (v := iv lim) X fgX12_59_11 0 rfl rfl dX12_set_132 ?_
                        refine S_put X fpX12_59_11 0 rfl FT_i dX12_set_135 ?_
                        refine S_w (ws' := [(h0, ob 11 (uF (uF (uF (uF f 27 (iv x)) 28 (iv n)) 29 (iv ec)) 30 (iv lim)))]) (by simp only [List.set]; rw [uF_same (k := 30)]) ?_
                        refine S_iconst X dX12_set_138 ?_
                        exact S_zret X (Or.inr rfl) (nle rfl) (nle rfl) dX12_set_139 (hPo _ _ (Or.inr (Or.inl (⟨rfl, rfl, by omega⟩))))
                      ·
                        refine S_iload_n X dX12_set_127 rfl rfl ?_
                        refine S_goto (tgt := 135) X dX12_set_128 (by decide) ?_
                        refine S_put X fpX12_59_11 0 rfl FT_i dX12_set_135 ?_
                        refine S_w (ws' := [(h0, ob 11 (uF (uF (uF (uF f 27 (iv x)) 28 (iv n)) 29 (iv ec)) 30 (iv x)))]) (by simp only [List.set]; rw [uF_same (k := 30)]) ?_
                        refine S_iconst X dX12_set_138 ?_
                        exact S_zret X (Or.inr rfl) (nle rfl) (nle rfl) dX12_set_139 (hPo _ _ ((by exfalso; omega)))
                    ·
                      refine S_iload_n X dX12_set_110 rfl rfl ?_
                      refine S_goto (tgt := 118) X dX12_set_111 (by decide) ?_
                      refine S_put X fpX12_287_11 0 rfl FT_i dX12_set_118 ?_
                      refine S_w (ws' := [(h0, ob 11 (uF (uF (uF (uF f 27 (iv x)) 28 (iv n)) 29 (iv x)) 30 (iv lim)))]) (by simp only [List.set]; rw [uF_mv (j := 30) (k := 29) (by decide), uF_same (k := 29)]) ?_
                      refine S_aload_n X dX12_set_121 rfl rfl ?_
                      refine S_iload_n X dX12_set_122 rfl rfl ?_
                      refine S_iconst X dX12_set_123 ?_
                      refine S_icmp_ne (tgt := 131) X dX12_set_124 (by decide) (by omega) (by decide) (fun c_172 => ?_) (fun c_172 => ?_)
                      ·
                        refine S_aload_n X dX12_set_131 rfl rfl ?_
                        refine S_get (v := iv lim) X fgX12_59_11 0 rfl rfl dX12_set_132 ?_
                        refine S_put X fpX12_59_11 0 rfl FT_i dX12_set_135 ?_
                        refine S_w (ws' := [(h0, ob 11 (uF (uF (uF (uF f 27 (iv x)) 28 (iv n)) 29 (iv x)) 30 (iv lim)))]) (by simp only [List.set]; rw [uF_same (k := 30)]) ?_
                        refine S_iconst X dX12_set_138 ?_
                        exact S_zret X (Or.inr rfl) (nle rfl) (nle rfl) dX12_set_139 (hPo _ _ ((by exfalso; omega)))
                      ·
                        refine S_iload_n X dX12_set_127 rfl rfl ?_
                        refine S_goto (tgt := 135) X dX12_set_128 (by decide) ?_
                        refine S_put X fpX12_59_11 0 rfl FT_i dX12_set_135 ?_
                        refine S_w (ws' := [(h0, ob 11 (uF (uF (uF (uF f 27 (iv x)) 28 (iv n)) 29 (iv x)) 30 (iv x)))]) (by simp only [List.set]; rw [uF_same (k := 30)]) ?_
                        refine S_iconst X dX12_set_138 ?_
                        exact S_zret X (Or.inr rfl) (nle rfl) (nle rfl) dX12_set_139 (hPo _ _ ((by exfalso; omega)))
                  ·
                    refine S_iload_n X dX12_set_93 rfl rfl ?_
                    refine S_goto (tgt := 101) X dX12_set_94 (by decide) ?_
                    refine S_put X fpX12_56_11 0 rfl FT_i dX12_set_101 ?_
                    refine S_w (ws' := [(h0, ob 11 (uF (uF (uF (uF f 27 (iv x)) 28 (iv x)) 29 (iv ec)) 30 (iv lim)))]) (by simp only [List.set]; rw [uF_mv (j := 30) (k := 28) (by decide), uF_mv (j := 29) (k := 28) (by decide), uF_same (k := 28)]) ?_
                    refine S_aload_n X dX12_set_104 rfl rfl ?_
                    refine S_iload_n X dX12_set_105 rfl rfl ?_
                    refine S_iconst X dX12_set_106 ?_
                    refine S_icmp_ne (tgt := 114) X dX12_set_107 (by decide) (by omega) (by decide) (fun c_173 => ?_) (fun c_173 => ?_)
                    ·
                      refine S_aload_n X dX12_set_114 rfl rfl ?_
                      refine S_get (v := iv ec) X fgX12_287_11 0 rfl rfl dX12_set_115 ?_
                      refine S_put X fpX12_287_11 0 rfl FT_i dX12_set_118 ?_
                      refine S_w (ws' := [(h0, ob 11 (uF (uF (uF (uF f 27 (iv x)) 28 (iv x)) 29 (iv ec)) 30 (iv lim)))]) (by simp only [List.set]; rw [uF_mv (j := 30) (k := 29) (by decide), uF_same (k := 29)]) ?_
                      refine S_aload_n X dX12_set_121 rfl rfl ?_
                      refine S_iload_n X dX12_set_122 rfl rfl ?_
                      refine S_iconst X dX12_set_123 ?_
                      refine S_icmp_ne (tgt := 131) X dX12_set_124 (by decide) (by omega) (by decide) (fun c_174 => ?_) (fun c_174 => ?_)
                      ·
                        refine S_aload_n X dX12_set_131 rfl rfl ?_
                        refine S_get (v := iv lim) X fgX12_59_11 0 rfl rfl dX12_set_132 ?_
                        refine S_put X fpX12_59_11 0 rfl FT_i dX12_set_135 ?_
                        refine S_w (ws' := [(h0, ob 11 (uF (uF (uF (uF f 27 (iv x)) 28 (iv x)) 29 (iv ec)) 30 (iv lim)))]) (by simp only [List.set]; rw [uF_same (k := 30)]) ?_
                        refine S_iconst X dX12_set_138 ?_
                        exact S_zret X (Or.inr rfl) (nle rfl) (nle rfl) dX12_set_139 (hPo _ _ ((by exfalso; omega)))
                      ·
                        refine S_iload_n X dX12_set_127 rfl rfl ?_
                        refine S_goto (tgt := 135) X dX12_set_128 (by decide) ?_
                        refine S_put X fpX12_59_11 0 rfl FT_i dX12_set_135 ?_
                        refine S_w (ws' := [(h0, ob 11 (uF (uF (uF (uF f 27 (iv x)) 28 (iv x)) 29 (iv ec)) 30 (iv x)))]) (by simp only [List.set]; rw [uF_same (k := 30)]) ?_
                        refine S_iconst X dX12_set_138 ?_
                        exact S_zret X (Or.inr rfl) (nle rfl) (nle rfl) dX12_set_139 (hPo _ _ ((by exfalso; omega)))
                    ·
                      refine S_iload_n X dX12_set_110 rfl rfl ?_
                      refine S_goto (tgt := 118) X dX12_set_111 (by decide) ?_
                      refine S_put X fpX12_287_11 0 rfl FT_i dX12_set_118 ?_
                      refine S_w (ws' := [(h0, ob 11 (uF (uF (uF (uF f 27 (iv x)) 28 (iv x)) 29 (iv x)) 30 (iv lim)))]) (by simp only [List.set]; rw [uF_mv (j := 30) (k := 29) (by decide), uF_same (k := 29)]) ?_
                      refine S_aload_n X dX12_set_121 rfl rfl ?_
                      refine S_iload_n X dX12_set_122 rfl rfl ?_
                      refine S_iconst X dX12_set_123 ?_
                      refine S_icmp_ne (tgt := 131) X dX12_set_124 (by decide) (by omega) (by decide) (fun c_175 => ?_) (fun c_175 => ?_)
                      ·
                        refine S_aload_n X dX12_set_131 rfl rfl ?_
                        refine S_get (v := iv lim) X fgX12_59_11 0 rfl rfl dX12_set_132 ?_
                        refine S_put X fpX12_59_11 0 rfl FT_i dX12_set_135 ?_
                        refine S_w (ws' := [(h0, ob 11 (uF (uF (uF (uF f 27 (iv x)) 28 (iv x)) 29 (iv x)) 30 (iv lim)))]) (by simp only [List.set]; rw [uF_same (k := 30)]) ?_
                        refine S_iconst X dX12_set_138 ?_
                        exact S_zret X (Or.inr rfl) (nle rfl) (nle rfl) dX12_set_139 (hPo _ _ ((by exfalso; omega)))
                      ·
                        refine S_iload_n X dX12_set_127 rfl rfl ?_
                        refine S_goto (tgt := 135) X dX12_set_128 (by decide) ?_
                        refine S_put X fpX12_59_11 0 rfl FT_i dX12_set_135 ?_
                        refine S_w (ws' := [(h0, ob 11 (uF (uF (uF (uF f 27 (iv x)) 28 (iv x)) 29 (iv x)) 30 (iv x)))]) (by simp only [List.set]; rw [uF_same (k := 30)]) ?_
                        refine S_iconst X dX12_set_138 ?_
                        exact S_zret X (Or.inr rfl) (nle rfl) (nle rfl) dX12_set_139 (hPo _ _ ((by exfalso; omega)))
          ·
            refine S_bipush X dX12_set_46 rfl ?_
            refine S_goto (tgt := 63) X dX12_set_48 (by decide) ?_
            refine S_calli X (kX12_in l x 1 30 (by omega) (by omega) (by omega)) (is := []) rfl (run_S X lkX12_216 (is := []) (avs := [iv x, iv 1, iv 30]) (rest := []) rfl rfl (nle rfl) ⟨nle rfl, nle rfl⟩ ⟨nle rfl, nle rfl⟩ dX12_set_63 (by decide) rfl) (fun z_178 u_176 hp_177 => ?_)
            rcases hp_177 with ⟨hz_179, hu_180, hq_181⟩ | ⟨hz_182, hu_183, hq_184⟩
            ·
              subst hz_179
              subst hu_180
              refine ⟨rfl, ?_⟩
              refine S_w (ws' := [(h0, ob 11 (uF (uF (uF (uF f 27 (iv ho)) 28 (iv n)) 29 (iv ec)) 30 (iv lim)))]) rfl ?_
              refine S_if_ne (tgt := 71) X dX12_set_66 (by decide) (by decide) (fun h9 => absurd h9 (by decide)) (fun _ => ?_)
              refine S_iconst X dX12_set_69 ?_
              exact S_zret X (Or.inl rfl) (nle rfl) (nle rfl) dX12_set_70 (hPo _ _ (Or.inl ⟨rfl, rfl, by omega⟩))
            ·
              subst hz_182
              subst hu_183
              refine ⟨rfl, ?_⟩
              refine S_w (ws' := [(h0, ob 11 (uF (uF (uF (uF f 27 (iv ho)) 28 (iv n)) 29 (iv ec)) 30 (iv lim)))]) rfl ?_
              refine S_if_ne (tgt := 71) X dX12_set_66 (by decide) (by decide) (fun _ => ?_) (fun h9 => absurd h9 (by decide))
              refine S_aload_n X dX12_set_71 rfl rfl ?_
              refine S_iload_n X dX12_set_72 rfl rfl ?_
              refine S_if_ne (tgt := 80) X dX12_set_73 (by decide) (by omega) (fun c_187 => ?_) (fun c_187 => ?_)
              ·
                refine S_aload_n X dX12_set_80 rfl rfl ?_
                refine S_get (v := iv ho) X fgX12_52_11 0 rfl rfl dX12_set_81 ?_
                refine S_put X fpX12_52_11 0 rfl FT_i dX12_set_84 ?_
                refine S_w (ws' := [(h0, ob 11 (uF (uF (uF (uF f 27 (iv ho)) 28 (iv n)) 29 (iv ec)) 30 (iv lim)))]) (by simp only [List.set]; rw [uF_mv (j := 30) (k := 27) (by decide), uF_mv (j := 29) (k := 27) (by decide), uF_mv (j := 28) (k := 27) (by decide), uF_same (k := 27)]) ?_
                refine S_aload_n X dX12_set_87 rfl rfl ?_
                refine S_iload_n X dX12_set_88 rfl rfl ?_
                refine S_iconst X dX12_set_89 ?_
                refine S_icmp_ne (tgt := 97) X dX12_set_90 (by decide) (by omega) (by decide) (fun c_188 => ?_) (fun c_188 => ?_)
                ·
                  refine S_aload_n X dX12_set_97 rfl rfl ?_
                  refine S_get (v := iv n) X fgX12_56_11 0 rfl rfl dX12_set_98 ?_
                  refine S_put X fpX12_56_11 0 rfl FT_i dX12_set_101 ?_
                  refine S_w (ws' := [(h0, ob 11 (uF (uF (uF (uF f 27 (iv ho)) 28 (iv n)) 29 (iv ec)) 30 (iv lim)))]) (by simp only [List.set]; rw [uF_mv (j := 30) (k := 28) (by decide), uF_mv (j := 29) (k := 28) (by decide), uF_same (k := 28)]) ?_
                  refine S_aload_n X dX12_set_104 rfl rfl ?_
                  refine S_iload_n X dX12_set_105 rfl rfl ?_
                  refine S_iconst X dX12_set_106 ?_
                  refine S_icmp_ne (tgt := 114) X dX12_set_107 (by decide) (by omega) (by decide) (fun c_189 => ?_) (fun c_189 => ?_)
                  ·
                    refine S_aload_n X dX12_set_114 rfl rfl ?_
                    refine S_get (v := iv ec) X fgX12_287_11 0 rfl rfl dX12_set_115 ?_
                    refine S_put X fpX12_287_11 0 rfl FT_i dX12_set_118 ?_
                    refine S_w (ws' := [(h0, ob 11 (uF (uF (uF (uF f 27 (iv ho)) 28 (iv n)) 29 (iv ec)) 30 (iv lim)))]) (by simp only [List.set]; rw [uF_mv (j := 30) (k := 29) (by decide), uF_same (k := 29)]) ?_
                    refine S_aload_n X dX12_set_121 rfl rfl ?_
                    refine S_iload_n X dX12_set_122 rfl rfl ?_
                    refine S_iconst X dX12_set_123 ?_
                    refine S_icmp_ne (tgt := 131) X dX12_set_124 (by decide) (by omega) (by decide) (fun c_190 => ?_) (fun c_190 => ?_)
                    ·
                      refine S_aload_n X dX12_set_131 rfl rfl ?_
                      refine S_get (v := iv lim) X fgX12_59_11 0 rfl rfl dX12_set_132 ?_
                      refine S_put X fpX12_59_11 0 rfl FT_i dX12_set_135 ?_
                      refine S_w (ws' := [(h0, ob 11 (uF (uF (uF (uF f 27 (iv ho)) 28 (iv n)) 29 (iv ec)) 30 (iv lim)))]) (by simp only [List.set]; rw [uF_same (k := 30)]) ?_
                      refine S_iconst X dX12_set_138 ?_
                      exact S_zret X (Or.inr rfl) (nle rfl) (nle rfl) dX12_set_139 (hPo _ _ ((by exfalso; omega)))
                    ·
                      refine S_iload_n X dX12_set_127 rfl rfl ?_
                      refine S_goto (tgt := 135) X dX12_set_128 (by decide) ?_
                      refine S_put X fpX12_59_11 0 rfl FT_i dX12_set_135 ?_
                      refine S_w (ws' := [(h0, ob 11 (uF (uF (uF (uF f 27 (iv ho)) 28 (iv n)) 29 (iv ec)) 30 (iv x)))]) (by simp only [List.set]; rw [uF_same (k := 30)]) ?_
                      refine S_iconst X dX12_set_138 ?_
                      exact S_zret X (Or.inr rfl) (nle rfl) (nle rfl) dX12_set_139 (hPo _ _ (Or.inr (Or.inr (Or.inr (Or.inr (⟨rfl, rfl, by omega⟩))))))
                  ·
                    refine S_iload_n X dX12_set_110 rfl rfl ?_
                    refine S_goto (tgt := 118) X dX12_set_111 (by decide) ?_
                    refine S_put X fpX12_287_11 0 rfl FT_i dX12_set_118 ?_
                    refine S_w (ws' := [(h0, ob 11 (uF (uF (uF (uF f 27 (iv ho)) 28 (iv n)) 29 (iv x)) 30 (iv lim)))]) (by simp only [List.set]; rw [uF_mv (j := 30) (k := 29) (by decide), uF_same (k := 29)]) ?_
                    refine S_aload_n X dX12_set_121 rfl rfl ?_
                    refine S_iload_n X dX12_set_122 rfl rfl ?_
                    refine S_iconst X dX12_set_123 ?_
                    refine S_icmp_ne (tgt := 131) X dX12_set_124 (by decide) (by omega) (by decide) (fun c_191 => ?_) (fun c_191 => ?_)
                    ·
                      refine S_aload_n X dX12_set_131 rfl rfl ?_
                      refine S_get (v := iv lim) X fgX12_59_11 0 rfl rfl dX12_set_132 ?_
                      refine S_put X fpX12_59_11 0 rfl FT_i dX12_set_135 ?_
                      refine S_w (ws' := [(h0, ob 11 (uF (uF (uF (uF f 27 (iv ho)) 28 (iv n)) 29 (iv x)) 30 (iv lim)))]) (by simp only [List.set]; rw [uF_same (k := 30)]) ?_
                      refine S_iconst X dX12_set_138 ?_
                      exact S_zret X (Or.inr rfl) (nle rfl) (nle rfl) dX12_set_139 (hPo _ _ (Or.inr (Or.inr (Or.inr (Or.inl (⟨rfl, rfl, by omega⟩))))))
                    ·
                      refine S_iload_n X dX12_set_127 rfl rfl ?_
                      refine S_goto (tgt := 135) X dX12_set_128 (by decide) ?_
                      refine S_put X fpX12_59_11 0 rfl FT_i dX12_set_135 ?_
                      refine S_w (ws' := [(h0, ob 11 (uF (uF (uF (uF f 27 (iv ho)) 28 (iv n)) 29 (iv x)) 30 (iv x)))]) (by simp only [List.set]; rw [uF_same (k := 30)]) ?_
                      refine S_iconst X dX12_set_138 ?_
                      exact S_zret X (Or.inr rfl) (nle rfl) (nle rfl) dX12_set_139 (hPo _ _ ((by exfalso; omega)))
                ·
                  refine S_iload_n X dX12_set_93 rfl rfl ?_
                  refine S_goto (tgt := 101) X dX12_set_94 (by decide) ?_
                  refine S_put X fpX12_56_11 0 rfl FT_i dX12_set_101 ?_
                  refine S_w (ws' := [(h0, ob 11 (uF (uF (uF (uF f 27 (iv ho)) 28 (iv x)) 29 (iv ec)) 30 (iv lim)))]) (by simp only [List.set]; rw [uF_mv (j := 30) (k := 28) (by decide), uF_mv (j := 29) (k := 28) (by decide), uF_same (k := 28)]) ?_
                  refine S_aload_n X dX12_set_104 rfl rfl ?_
                  refine S_iload_n X dX12_set_105 rfl rfl ?_
                  refine S_iconst X dX12_set_106 ?_
                  refine S_icmp_ne (tgt := 114) X dX12_set_107 (by decide) (by omega) (by decide) (fun c_192 => ?_) (fun c_192 => ?_)
                  ·
                    refine S_aload_n X dX12_set_114 rfl rfl ?_
                    refine S_get (v := iv ec) X fgX12_287_11 0 rfl rfl dX12_set_115 ?_
                    refine S_put X fpX12_287_11 0 rfl FT_i dX12_set_118 ?_
                    refine S_w (ws' := [(h0, ob 11 (uF (uF (uF (uF f 27 (iv ho)) 28 (iv x)) 29 (iv ec)) 30 (iv lim)))]) (by simp only [List.set]; rw [uF_mv (j := 30) (k := 29) (by decide), uF_same (k := 29)]) ?_
                    refine S_aload_n X dX12_set_121 rfl rfl ?_
                    refine S_iload_n X dX12_set_122 rfl rfl ?_
                    refine S_iconst X dX12_set_123 ?_
                    refine S_icmp_ne (tgt := 131) X dX12_set_124 (by decide) (by omega) (by decide) (fun c_193 => ?_) (fun c_193 => ?_)
                    ·
                      refine S_aload_n X dX12_set_131 rfl rfl ?_
                      refine S_get (v := iv lim) X fgX12_59_11 0 rfl rfl dX12_set_132 ?_
                      refine S_put X fpX12_59_11 0 rfl FT_i dX12_set_135 ?_
                      refine S_w (ws' := [(h0, ob 11 (uF (uF (uF (uF f 27 (iv ho)) 28 (iv x)) 29 (iv ec)) 30 (iv lim)))]) (by simp only [List.set]; rw [uF_same (k := 30)]) ?_
                      refine S_iconst X dX12_set_138 ?_
                      exact S_zret X (Or.inr rfl) (nle rfl) (nle rfl) dX12_set_139 (hPo _ _ (Or.inr (Or.inr (Or.inl (⟨rfl, rfl, by omega⟩)))))
                    ·
                      refine S_iload_n X dX12_set_127 rfl rfl ?_
                      refine S_goto (tgt := 135) X dX12_set_128 (by decide) ?_
                      refine S_put X fpX12_59_11 0 rfl FT_i dX12_set_135 ?_
                      refine S_w (ws' := [(h0, ob 11 (uF (uF (uF (uF f 27 (iv ho)) 28 (iv x)) 29 (iv ec)) 30 (iv x)))]) (by simp only [List.set]; rw [uF_same (k := 30)]) ?_
                      refine S_iconst X dX12_set_138 ?_
                      exact S_zret X (Or.inr rfl) (nle rfl) (nle rfl) dX12_set_139 (hPo _ _ ((by exfalso; omega)))
                  ·
                    refine S_iload_n X dX12_set_110 rfl rfl ?_
                    refine S_goto (tgt := 118) X dX12_set_111 (by decide) ?_
                    refine S_put X fpX12_287_11 0 rfl FT_i dX12_set_118 ?_
                    refine S_w (ws' := [(h0, ob 11 (uF (uF (uF (uF f 27 (iv ho)) 28 (iv x)) 29 (iv x)) 30 (iv lim)))]) (by simp only [List.set]; rw [uF_mv (j := 30) (k := 29) (by decide), uF_same (k := 29)]) ?_
                    refine S_aload_n X dX12_set_121 rfl rfl ?_
                    refine S_iload_n X dX12_set_122 rfl rfl ?_
                    refine S_iconst X dX12_set_123 ?_
                    refine S_icmp_ne (tgt := 131) X dX12_set_124 (by decide) (by omega) (by decide) (fun c_194 => ?_) (fun c_194 => ?_)
                    ·
                      refine S_aload_n X dX12_set_131 rfl rfl ?_
                      refine S_get (v := iv lim) X fgX12_59_11 0 rfl rfl dX12_set_132 ?_
                      refine S_put X fpX12_59_11 0 rfl FT_i dX12_set_135 ?_
                      refine S_w (ws' := [(h0, ob 11 (uF (uF (uF (uF f 27 (iv ho)) 28 (iv x)) 29 (iv x)) 30 (iv lim)))]) (by simp only [List.set]; rw [uF_same (k := 30)]) ?_
                      refine S_iconst X dX12_set_138 ?_
                      exact S_zret X (Or.inr rfl) (nle rfl) (nle rfl) dX12_set_139 (hPo _ _ ((by exfalso; omega)))
                    ·
                      refine S_iload_n X dX12_set_127 rfl rfl ?_
                      refine S_goto (tgt := 135) X dX12_set_128 (by decide) ?_
                      refine S_put X fpX12_59_11 0 rfl FT_i dX12_set_135 ?_
                      refine S_w (ws' := [(h0, ob 11 (uF (uF (uF (uF f 27 (iv ho)) 28 (iv x)) 29 (iv x)) 30 (iv x)))]) (by simp only [List.set]; rw [uF_same (k := 30)]) ?_
                      refine S_iconst X dX12_set_138 ?_
                      exact S_zret X (Or.inr rfl) (nle rfl) (nle rfl) dX12_set_139 (hPo _ _ ((by exfalso; omega)))
              ·
                refine S_iload_n X dX12_set_76 rfl rfl ?_
                refine S_goto (tgt := 84) X dX12_set_77 (by decide) ?_
                refine S_put X fpX12_52_11 0 rfl FT_i dX12_set_84 ?_
                refine S_w (ws' := [(h0, ob 11 (uF (uF (uF (uF f 27 (iv x)) 28 (iv n)) 29 (iv ec)) 30 (iv lim)))]) (by simp only [List.set]; rw [uF_mv (j := 30) (k := 27) (by decide), uF_mv (j := 29) (k := 27) (by decide), uF_mv (j := 28) (k := 27) (by decide), uF_same (k := 27)]) ?_
                refine S_aload_n X dX12_set_87 rfl rfl ?_
                refine S_iload_n X dX12_set_88 rfl rfl ?_
                refine S_iconst X dX12_set_89 ?_
                refine S_icmp_ne (tgt := 97) X dX12_set_90 (by decide) (by omega) (by decide) (fun c_195 => ?_) (fun c_195 => ?_)
                ·
                  refine S_aload_n X dX12_set_97 rfl rfl ?_
                  refine S_get (v := iv n) X fgX12_56_11 0 rfl rfl dX12_set_98 ?_
                  refine S_put X fpX12_56_11 0 rfl FT_i dX12_set_101 ?_
                  refine S_w (ws' := [(h0, ob 11 (uF (uF (uF (uF f 27 (iv x)) 28 (iv n)) 29 (iv ec)) 30 (iv lim)))]) (by simp only [List.set]; rw [uF_mv (j := 30) (k := 28) (by decide), uF_mv (j := 29) (k := 28) (by decide), uF_same (k := 28)]) ?_
                  refine S_aload_n X dX12_set_104 rfl rfl ?_
                  refine S_iload_n X dX12_set_105 rfl rfl ?_
                  refine S_iconst X dX12_set_106 ?_
                  refine S_icmp_ne (tgt := 114) X dX12_set_107 (by decide) (by omega) (by decide) (fun c_196 => ?_) (fun c_196 => ?_)
                  ·
                    refine S_aload_n X dX12_set_114 rfl rfl ?_
                    refine S_get (v := iv ec) X fgX12_287_11 0 rfl rfl dX12_set_115 ?_
                    refine S_put X fpX12_287_11 0 rfl FT_i dX12_set_118 ?_
                    refine S_w (ws' := [(h0, ob 11 (uF (uF (uF (uF f 27 (iv x)) 28 (iv n)) 29 (iv ec)) 30 (iv lim)))]) (by simp only [List.set]; rw [uF_mv (j := 30) (k := 29) (by decide), uF_same (k := 29)]) ?_
                    refine S_aload_n X dX12_set_121 rfl rfl ?_
                    refine S_iload_n X dX12_set_122 rfl rfl ?_
                    refine S_iconst X dX12_set_123 ?_
                    refine S_icmp_ne (tgt := 131) X dX12_set_124 (by decide) (by omega) (by decide) (fun c_197 => ?_) (fun c_197 => ?_)
                    ·
                      refine S_aload_n X dX12_set_131 rfl rfl ?_
                      refine S_get (v := iv lim) X fgX12_59_11 0 rfl rfl dX12_set_132 ?_
                      refine S_put X fpX12_59_11 0 rfl FT_i dX12_set_135 ?_
                      refine S_w (ws' := [(h0, ob 11 (uF (uF (uF (uF f 27 (iv x)) 28 (iv n)) 29 (iv ec)) 30 (iv lim)))]) (by simp only [List.set]; rw [uF_same (k := 30)]) ?_
                      refine S_iconst X dX12_set_138 ?_
                      exact S_zret X (Or.inr rfl) (nle rfl) (nle rfl) dX12_set_139 (hPo _ _ (Or.inr (Or.inl (⟨rfl, rfl, by omega⟩))))
                    ·
                      refine S_iload_n X dX12_set_127 rfl rfl ?_
                      refine S_goto (tgt := 135) X dX12_set_128 (by decide) ?_
                      refine S_put X fpX12_59_11 0 rfl FT_i dX12_set_135 ?_
                      refine S_w (ws' := [(h0, ob 11 (uF (uF (uF (uF f 27 (iv x)) 28 (iv n)) 29 (iv ec)) 30 (iv x)))]) (by simp only [List.set]; rw [uF_same (k := 30)]) ?_
                      refine S_iconst X dX12_set_138 ?_
                      exact S_zret X (Or.inr rfl) (nle rfl) (nle rfl) dX12_set_139 (hPo _ _ ((by exfalso; omega)))
                  ·
                    refine S_iload_n X dX12_set_110 rfl rfl ?_
                    refine S_goto (tgt := 118) X dX12_set_111 (by decide) ?_
                    refine S_put X fpX12_287_11 0 rfl FT_i dX12_set_118 ?_
                    refine S_w (ws' := [(h0, ob 11 (uF (uF (uF (uF f 27 (iv x)) 28 (iv n)) 29 (iv x)) 30 (iv lim)))]) (by simp only [List.set]; rw [uF_mv (j := 30) (k := 29) (by decide), uF_same (k := 29)]) ?_
                    refine S_aload_n X dX12_set_121 rfl rfl ?_
                    refine S_iload_n X dX12_set_122 rfl rfl ?_
                    refine S_iconst X dX12_set_123 ?_
                    refine S_icmp_ne (tgt := 131) X dX12_set_124 (by decide) (by omega) (by decide) (fun c_198 => ?_) (fun c_198 => ?_)
                    ·
                      refine S_aload_n X dX12_set_131 rfl rfl ?_
                      refine S_get (v := iv lim) X fgX12_59_11 0 rfl rfl dX12_set_132 ?_
                      refine S_put X fpX12_59_11 0 rfl FT_i dX12_set_135 ?_
                      refine S_w (ws' := [(h0, ob 11 (uF (uF (uF (uF f 27 (iv x)) 28 (iv n)) 29 (iv x)) 30 (iv lim)))]) (by simp only [List.set]; rw [uF_same (k := 30)]) ?_
                      refine S_iconst X dX12_set_138 ?_
                      exact S_zret X (Or.inr rfl) (nle rfl) (nle rfl) dX12_set_139 (hPo _ _ ((by exfalso; omega)))
                    ·
                      refine S_iload_n X dX12_set_127 rfl rfl ?_
                      refine S_goto (tgt := 135) X dX12_set_128 (by decide) ?_
                      refine S_put X fpX12_59_11 0 rfl FT_i dX12_set_135 ?_
                      refine S_w (ws' := [(h0, ob 11 (uF (uF (uF (uF f 27 (iv x)) 28 (iv n)) 29 (iv x)) 30 (iv x)))]) (by simp only [List.set]; rw [uF_same (k := 30)]) ?_
                      refine S_iconst X dX12_set_138 ?_
                      exact S_zret X (Or.inr rfl) (nle rfl) (nle rfl) dX12_set_139 (hPo _ _ ((by exfalso; omega)))
                ·
                  refine S_iload_n X dX12_set_93 rfl rfl ?_
                  refine S_goto (tgt := 101) X dX12_set_94 (by decide) ?_
                  refine S_put X fpX12_56_11 0 rfl FT_i dX12_set_101 ?_
                  refine S_w (ws' := [(h0, ob 11 (uF (uF (uF (uF f 27 (iv x)) 28 (iv x)) 29 (iv ec)) 30 (iv lim)))]) (by simp only [List.set]; rw [uF_mv (j := 30) (k := 28) (by decide), uF_mv (j := 29) (k := 28) (by decide), uF_same (k := 28)]) ?_
                  refine S_aload_n X dX12_set_104 rfl rfl ?_
                  refine S_iload_n X dX12_set_105 rfl rfl ?_
                  refine S_iconst X dX12_set_106 ?_
                  refine S_icmp_ne (tgt := 114) X dX12_set_107 (by decide) (by omega) (by decide) (fun c_199 => ?_) (fun c_199 => ?_)
                  ·
                    refine S_aload_n X dX12_set_114 rfl rfl ?_
                    refine S_get (v := iv ec) X fgX12_287_11 0 rfl rfl dX12_set_115 ?_
                    refine S_put X fpX12_287_11 0 rfl FT_i dX12_set_118 ?_
                    refine S_w (ws' := [(h0, ob 11 (uF (uF (uF (uF f 27 (iv x)) 28 (iv x)) 29 (iv ec)) 30 (iv lim)))]) (by simp only [List.set]; rw [uF_mv (j := 30) (k := 29) (by decide), uF_same (k := 29)]) ?_
                    refine S_aload_n X dX12_set_121 rfl rfl ?_
                    refine S_iload_n X dX12_set_122 rfl rfl ?_
                    refine S_iconst X dX12_set_123 ?_
                    refine S_icmp_ne (tgt := 131) X dX12_set_124 (by decide) (by omega) (by decide) (fun c_200 => ?_) (fun c_200 => ?_)
                    ·
                      refine S_aload_n X dX12_set_131 rfl rfl ?_
                      refine S_get (v := iv lim) X fgX12_59_11 0 rfl rfl dX12_set_132 ?_
                      refine S_put X fpX12_59_11 0 rfl FT_i dX12_set_135 ?_
                      refine S_w (ws' := [(h0, ob 11 (uF (uF (uF (uF f 27 (iv x)) 28 (iv x)) 29 (iv ec)) 30 (iv lim)))]) (by simp only [List.set]; rw [uF_same (k := 30)]) ?_
                      refine S_iconst X dX12_set_138 ?_
                      exact S_zret X (Or.inr rfl) (nle rfl) (nle rfl) dX12_set_139 (hPo _ _ ((by exfalso; omega)))
                    ·
                      refine S_iload_n X dX12_set_127 rfl rfl ?_
                      refine S_goto (tgt := 135) X dX12_set_128 (by decide) ?_
                      refine S_put X fpX12_59_11 0 rfl FT_i dX12_set_135 ?_
                      refine S_w (ws' := [(h0, ob 11 (uF (uF (uF (uF f 27 (iv x)) 28 (iv x)) 29 (iv ec)) 30 (iv x)))]) (by simp only [List.set]; rw [uF_same (k := 30)]) ?_
                      refine S_iconst X dX12_set_138 ?_
                      exact S_zret X (Or.inr rfl) (nle rfl) (nle rfl) dX12_set_139 (hPo _ _ ((by exfalso; omega)))
                  ·
                    refine S_iload_n X dX12_set_110 rfl rfl ?_
                    refine S_goto (tgt := 118) X dX12_set_111 (by decide) ?_
                    refine S_put X fpX12_287_11 0 rfl FT_i dX12_set_118 ?_
                    refine S_w (ws' := [(h0, ob 11 (uF (uF (uF (uF f 27 (iv x)) 28 (iv x)) 29 (iv x)) 30 (iv lim)))]) (by simp only [List.set]; rw [uF_mv (j := 30) (k := 29) (by decide), uF_same (k := 29)]) ?_
                    refine S_aload_n X dX12_set_121 rfl rfl ?_
                    refine S_iload_n X dX12_set_122 rfl rfl ?_
                    refine S_iconst X dX12_set_123 ?_
                    refine S_icmp_ne (tgt := 131) X dX12_set_124 (by decide) (by omega) (by decide) (fun c_201 => ?_) (fun c_201 => ?_)
                    ·
                      refine S_aload_n X dX12_set_131 rfl rfl ?_
                      refine S_get (v := iv lim) X fgX12_59_11 0 rfl rfl dX12_set_132 ?_
                      refine S_put X fpX12_59_11 0 rfl FT_i dX12_set_135 ?_
                      refine S_w (ws' := [(h0, ob 11 (uF (uF (uF (uF f 27 (iv x)) 28 (iv x)) 29 (iv x)) 30 (iv lim)))]) (by simp only [List.set]; rw [uF_same (k := 30)]) ?_
                      refine S_iconst X dX12_set_138 ?_
                      exact S_zret X (Or.inr rfl) (nle rfl) (nle rfl) dX12_set_139 (hPo _ _ ((by exfalso; omega)))
                    ·
                      refine S_iload_n X dX12_set_127 rfl rfl ?_
                      refine S_goto (tgt := 135) X dX12_set_128 (by decide) ?_
                      refine S_put X fpX12_59_11 0 rfl FT_i dX12_set_135 ?_
                      refine S_w (ws' := [(h0, ob 11 (uF (uF (uF (uF f 27 (iv x)) 28 (iv x)) 29 (iv x)) 30 (iv x)))]) (by simp only [List.set]; rw [uF_same (k := 30)]) ?_
                      refine S_iconst X dX12_set_138 ?_
                      exact S_zret X (Or.inr rfl) (nle rfl) (nle rfl) dX12_set_139 (hPo _ _ ((by exfalso; omega)))
        ·
          refine S_aload_n X dX12_set_32 rfl rfl ?_
          refine S_get X fgX12_278_11 0 rfl hf0 dX12_set_33 ?_
          refine S_iconst X dX12_set_36 ?_
          refine S_isub X dX12_set_37 ?_
          refine S_goto (tgt := 63) X dX12_set_38 (by decide) ?_
          refine S_calli X (kX12_in l x 1 (lw - 1) (by omega) (by omega) (by omega)) (is := []) rfl (run_S X lkX12_216 (is := []) (avs := [iv x, iv 1, iv (lw - 1)]) (rest := []) rfl rfl (nle rfl) ⟨nle rfl, nle rfl⟩ ⟨nle rfl, nle rfl⟩ dX12_set_63 (by decide) rfl) (fun z_204 u_202 hp_203 => ?_)
          rcases hp_203 with ⟨hz_205, hu_206, hq_207⟩ | ⟨hz_208, hu_209, hq_210⟩
          ·
            subst hz_205
            subst hu_206
            refine ⟨rfl, ?_⟩
            refine S_w (ws' := [(h0, ob 11 (uF (uF (uF (uF f 27 (iv ho)) 28 (iv n)) 29 (iv ec)) 30 (iv lim)))]) rfl ?_
            refine S_if_ne (tgt := 71) X dX12_set_66 (by decide) (by decide) (fun h9 => absurd h9 (by decide)) (fun _ => ?_)
            refine S_iconst X dX12_set_69 ?_
            exact S_zret X (Or.inl rfl) (nle rfl) (nle rfl) dX12_set_70 (hPo _ _ (Or.inl ⟨rfl, rfl, by omega⟩))
          ·
            subst hz_208
            subst hu_209
            refine ⟨rfl, ?_⟩
            refine S_w (ws' := [(h0, ob 11 (uF (uF (uF (uF f 27 (iv ho)) 28 (iv n)) 29 (iv ec)) 30 (iv lim)))]) rfl ?_
            refine S_if_ne (tgt := 71) X dX12_set_66 (by decide) (by decide) (fun _ => ?_) (fun h9 => absurd h9 (by decide))
            refine S_aload_n X dX12_set_71 rfl rfl ?_
            refine S_iload_n X dX12_set_72 rfl rfl ?_
            refine S_if_ne (tgt := 80) X dX12_set_73 (by decide) (by omega) (fun c_213 => ?_) (fun c_213 => ?_)
            ·
              refine S_aload_n X dX12_set_80 rfl rfl ?_
              refine S_get (v := iv ho) X fgX12_52_11 0 rfl rfl dX12_set_81 ?_
              refine S_put X fpX12_52_11 0 rfl FT_i dX12_set_84 ?_
              refine S_w (ws' := [(h0, ob 11 (uF (uF (uF (uF f 27 (iv ho)) 28 (iv n)) 29 (iv ec)) 30 (iv lim)))]) (by simp only [List.set]; rw [uF_mv (j := 30) (k := 27) (by decide), uF_mv (j := 29) (k := 27) (by decide), uF_mv (j := 28) (k := 27) (by decide), uF_same (k := 27)]) ?_
              refine S_aload_n X dX12_set_87 rfl rfl ?_
              refine S_iload_n X dX12_set_88 rfl rfl ?_
              refine S_iconst X dX12_set_89 ?_
              refine S_icmp_ne (tgt := 97) X dX12_set_90 (by decide) (by omega) (by decide) (fun c_214 => ?_) (fun c_214 => ?_)
              ·
                refine S_aload_n X dX12_set_97 rfl rfl ?_
                refine S_get (v := iv n) X fgX12_56_11 0 rfl rfl dX12_set_98 ?_
                refine S_put X fpX12_56_11 0 rfl FT_i dX12_set_101 ?_
                refine S_w (ws' := [(h0, ob 11 (uF (uF (uF (uF f 27 (iv ho)) 28 (iv n)) 29 (iv ec)) 30 (iv lim)))]) (by simp only [List.set]; rw [uF_mv (j := 30) (k := 28) (by decide), uF_mv (j := 29) (k := 28) (by decide), uF_same (k := 28)]) ?_
                refine S_aload_n X dX12_set_104 rfl rfl ?_
                refine S_iload_n X dX12_set_105 rfl rfl ?_
                refine S_iconst X dX12_set_106 ?_
                refine S_icmp_ne (tgt := 114) X dX12_set_107 (by decide) (by omega) (by decide) (fun c_215 => ?_) (fun c_215 => ?_)
                ·
                  refine S_aload_n X dX12_set_114 rfl rfl ?_
                  refine S_get (v := iv ec) X fgX12_287_11 0 rfl rfl dX12_set_115 ?_
                  refine S_put X fpX12_287_11 0 rfl FT_i dX12_set_118 ?_
                  refine S_w (ws' := [(h0, ob 11 (uF (uF (uF (uF f 27 (iv ho)) 28 (iv n)) 29 (iv ec)) 30 (iv lim)))]) (by simp only [List.set]; rw [uF_mv (j := 30) (k := 29) (by decide), uF_same (k := 29)]) ?_
                  refine S_aload_n X dX12_set_121 rfl rfl ?_
                  refine S_iload_n X dX12_set_122 rfl rfl ?_
                  refine S_iconst X dX12_set_123 ?_
                  refine S_icmp_ne (tgt := 131) X dX12_set_124 (by decide) (by omega) (by decide) (fun c_216 => ?_) (fun c_216 => ?_)
                  ·
                    refine S_aload_n X dX12_set_131 rfl rfl ?_
                    refine S_get (v := iv lim) X fgX12_59_11 0 rfl rfl dX12_set_132 ?_
                    refine S_put X fpX12_59_11 0 rfl FT_i dX12_set_135 ?_
                    refine S_w (ws' := [(h0, ob 11 (uF (uF (uF (uF f 27 (iv ho)) 28 (iv n)) 29 (iv ec)) 30 (iv lim)))]) (by simp only [List.set]; rw [uF_same (k := 30)]) ?_
                    refine S_iconst X dX12_set_138 ?_
                    exact S_zret X (Or.inr rfl) (nle rfl) (nle rfl) dX12_set_139 (hPo _ _ ((by exfalso; omega)))
                  ·
                    refine S_iload_n X dX12_set_127 rfl rfl ?_
                    refine S_goto (tgt := 135) X dX12_set_128 (by decide) ?_
                    refine S_put X fpX12_59_11 0 rfl FT_i dX12_set_135 ?_
                    refine S_w (ws' := [(h0, ob 11 (uF (uF (uF (uF f 27 (iv ho)) 28 (iv n)) 29 (iv ec)) 30 (iv x)))]) (by simp only [List.set]; rw [uF_same (k := 30)]) ?_
                    refine S_iconst X dX12_set_138 ?_
                    exact S_zret X (Or.inr rfl) (nle rfl) (nle rfl) dX12_set_139 (hPo _ _ (Or.inr (Or.inr (Or.inr (Or.inr (⟨rfl, rfl, by omega⟩))))))
                ·
                  refine S_iload_n X dX12_set_110 rfl rfl ?_
                  refine S_goto (tgt := 118) X dX12_set_111 (by decide) ?_
                  refine S_put X fpX12_287_11 0 rfl FT_i dX12_set_118 ?_
                  refine S_w (ws' := [(h0, ob 11 (uF (uF (uF (uF f 27 (iv ho)) 28 (iv n)) 29 (iv x)) 30 (iv lim)))]) (by simp only [List.set]; rw [uF_mv (j := 30) (k := 29) (by decide), uF_same (k := 29)]) ?_
                  refine S_aload_n X dX12_set_121 rfl rfl ?_
                  refine S_iload_n X dX12_set_122 rfl rfl ?_
                  refine S_iconst X dX12_set_123 ?_
                  refine S_icmp_ne (tgt := 131) X dX12_set_124 (by decide) (by omega) (by decide) (fun c_217 => ?_) (fun c_217 => ?_)
                  ·
                    refine S_aload_n X dX12_set_131 rfl rfl ?_
                    refine S_get (v := iv lim) X fgX12_59_11 0 rfl rfl dX12_set_132 ?_
                    refine S_put X fpX12_59_11 0 rfl FT_i dX12_set_135 ?_
                    refine S_w (ws' := [(h0, ob 11 (uF (uF (uF (uF f 27 (iv ho)) 28 (iv n)) 29 (iv x)) 30 (iv lim)))]) (by simp only [List.set]; rw [uF_same (k := 30)]) ?_
                    refine S_iconst X dX12_set_138 ?_
                    exact S_zret X (Or.inr rfl) (nle rfl) (nle rfl) dX12_set_139 (hPo _ _ (Or.inr (Or.inr (Or.inr (Or.inl (⟨rfl, rfl, by omega⟩))))))
                  ·
                    refine S_iload_n X dX12_set_127 rfl rfl ?_
                    refine S_goto (tgt := 135) X dX12_set_128 (by decide) ?_
                    refine S_put X fpX12_59_11 0 rfl FT_i dX12_set_135 ?_
                    refine S_w (ws' := [(h0, ob 11 (uF (uF (uF (uF f 27 (iv ho)) 28 (iv n)) 29 (iv x)) 30 (iv x)))]) (by simp only [List.set]; rw [uF_same (k := 30)]) ?_
                    refine S_iconst X dX12_set_138 ?_
                    exact S_zret X (Or.inr rfl) (nle rfl) (nle rfl) dX12_set_139 (hPo _ _ ((by exfalso; omega)))
              ·
                refine S_iload_n X dX12_set_93 rfl rfl ?_
                refine S_goto (tgt := 101) X dX12_set_94 (by decide) ?_
                refine S_put X fpX12_56_11 0 rfl FT_i dX12_set_101 ?_
                refine S_w (ws' := [(h0, ob 11 (uF (uF (uF (uF f 27 (iv ho)) 28 (iv x)) 29 (iv ec)) 30 (iv lim)))]) (by simp only [List.set]; rw [uF_mv (j := 30) (k := 28) (by decide), uF_mv (j := 29) (k := 28) (by decide), uF_same (k := 28)]) ?_
                refine S_aload_n X dX12_set_104 rfl rfl ?_
                refine S_iload_n X dX12_set_105 rfl rfl ?_
                refine S_iconst X dX12_set_106 ?_
                refine S_icmp_ne (tgt := 114) X dX12_set_107 (by decide) (by omega) (by decide) (fun c_218 => ?_) (fun c_218 => ?_)
                ·
                  refine S_aload_n X dX12_set_114 rfl rfl ?_
                  refine S_get (v := iv ec) X fgX12_287_11 0 rfl rfl dX12_set_115 ?_
                  refine S_put X fpX12_287_11 0 rfl FT_i dX12_set_118 ?_
                  refine S_w (ws' := [(h0, ob 11 (uF (uF (uF (uF f 27 (iv ho)) 28 (iv x)) 29 (iv ec)) 30 (iv lim)))]) (by simp only [List.set]; rw [uF_mv (j := 30) (k := 29) (by decide), uF_same (k := 29)]) ?_
                  refine S_aload_n X dX12_set_121 rfl rfl ?_
                  refine S_iload_n X dX12_set_122 rfl rfl ?_
                  refine S_iconst X dX12_set_123 ?_
                  refine S_icmp_ne (tgt := 131) X dX12_set_124 (by decide) (by omega) (by decide) (fun c_219 => ?_) (fun c_219 => ?_)
                  ·
                    refine S_aload_n X dX12_set_131 rfl rfl ?_
                    refine S_get (v := iv lim) X fgX12_59_11 0 rfl rfl dX12_set_132 ?_
                    refine S_put X fpX12_59_11 0 rfl FT_i dX12_set_135 ?_
                    refine S_w (ws' := [(h0, ob 11 (uF (uF (uF (uF f 27 (iv ho)) 28 (iv x)) 29 (iv ec)) 30 (iv lim)))]) (by simp only [List.set]; rw [uF_same (k := 30)]) ?_
                    refine S_iconst X dX12_set_138 ?_
                    exact S_zret X (Or.inr rfl) (nle rfl) (nle rfl) dX12_set_139 (hPo _ _ (Or.inr (Or.inr (Or.inl (⟨rfl, rfl, by omega⟩)))))
                  ·
                    refine S_iload_n X dX12_set_127 rfl rfl ?_
                    refine S_goto (tgt := 135) X dX12_set_128 (by decide) ?_
                    refine S_put X fpX12_59_11 0 rfl FT_i dX12_set_135 ?_
                    refine S_w (ws' := [(h0, ob 11 (uF (uF (uF (uF f 27 (iv ho)) 28 (iv x)) 29 (iv ec)) 30 (iv x)))]) (by simp only [List.set]; rw [uF_same (k := 30)]) ?_
                    refine S_iconst X dX12_set_138 ?_
                    exact S_zret X (Or.inr rfl) (nle rfl) (nle rfl) dX12_set_139 (hPo _ _ ((by exfalso; omega)))
                ·
                  refine S_iload_n X dX12_set_110 rfl rfl ?_
                  refine S_goto (tgt := 118) X dX12_set_111 (by decide) ?_
                  refine S_put X fpX12_287_11 0 rfl FT_i dX12_set_118 ?_
                  refine S_w (ws' := [(h0, ob 11 (uF (uF (uF (uF f 27 (iv ho)) 28 (iv x)) 29 (iv x)) 30 (iv lim)))]) (by simp only [List.set]; rw [uF_mv (j := 30) (k := 29) (by decide), uF_same (k := 29)]) ?_
                  refine S_aload_n X dX12_set_121 rfl rfl ?_
                  refine S_iload_n X dX12_set_122 rfl rfl ?_
                  refine S_iconst X dX12_set_123 ?_
                  refine S_icmp_ne (tgt := 131) X dX12_set_124 (by decide) (by omega) (by decide) (fun c_220 => ?_) (fun c_220 => ?_)
                  ·
                    refine S_aload_n X dX12_set_131 rfl rfl ?_
                    refine S_get (v := iv lim) X fgX12_59_11 0 rfl rfl dX12_set_132 ?_
                    refine S_put X fpX12_59_11 0 rfl FT_i dX12_set_135 ?_
                    refine S_w (ws' := [(h0, ob 11 (uF (uF (uF (uF f 27 (iv ho)) 28 (iv x)) 29 (iv x)) 30 (iv lim)))]) (by simp only [List.set]; rw [uF_same (k := 30)]) ?_
                    refine S_iconst X dX12_set_138 ?_
                    exact S_zret X (Or.inr rfl) (nle rfl) (nle rfl) dX12_set_139 (hPo _ _ ((by exfalso; omega)))
                  ·
                    refine S_iload_n X dX12_set_127 rfl rfl ?_
                    refine S_goto (tgt := 135) X dX12_set_128 (by decide) ?_
                    refine S_put X fpX12_59_11 0 rfl FT_i dX12_set_135 ?_
                    refine S_w (ws' := [(h0, ob 11 (uF (uF (uF (uF f 27 (iv ho)) 28 (iv x)) 29 (iv x)) 30 (iv x)))]) (by simp only [List.set]; rw [uF_same (k := 30)]) ?_
                    refine S_iconst X dX12_set_138 ?_
                    exact S_zret X (Or.inr rfl) (nle rfl) (nle rfl) dX12_set_139 (hPo _ _ ((by exfalso; omega)))
            ·
              refine S_iload_n X dX12_set_76 rfl rfl ?_
              refine S_goto (tgt := 84) X dX12_set_77 (by decide) ?_
              refine S_put X fpX12_52_11 0 rfl FT_i dX12_set_84 ?_
              refine S_w (ws' := [(h0, ob 11 (uF (uF (uF (uF f 27 (iv x)) 28 (iv n)) 29 (iv ec)) 30 (iv lim)))]) (by simp only [List.set]; rw [uF_mv (j := 30) (k := 27) (by decide), uF_mv (j := 29) (k := 27) (by decide), uF_mv (j := 28) (k := 27) (by decide), uF_same (k := 27)]) ?_
              refine S_aload_n X dX12_set_87 rfl rfl ?_
              refine S_iload_n X dX12_set_88 rfl rfl ?_
              refine S_iconst X dX12_set_89 ?_
              refine S_icmp_ne (tgt := 97) X dX12_set_90 (by decide) (by omega) (by decide) (fun c_221 => ?_) (fun c_221 => ?_)
              ·
                refine S_aload_n X dX12_set_97 rfl rfl ?_
                refine S_get (v := iv n) X fgX12_56_11 0 rfl rfl dX12_set_98 ?_
                refine S_put X fpX12_56_11 0 rfl FT_i dX12_set_101 ?_
                refine S_w (ws' := [(h0, ob 11 (uF (uF (uF (uF f 27 (iv x)) 28 (iv n)) 29 (iv ec)) 30 (iv lim)))]) (by simp only [List.set]; rw [uF_mv (j := 30) (k := 28) (by decide), uF_mv (j := 29) (k := 28) (by decide), uF_same (k := 28)]) ?_
                refine S_aload_n X dX12_set_104 rfl rfl ?_
                refine S_iload_n X dX12_set_105 rfl rfl ?_
                refine S_iconst X dX12_set_106 ?_
                refine S_icmp_ne (tgt := 114) X dX12_set_107 (by decide) (by omega) (by decide) (fun c_222 => ?_) (fun c_222 => ?_)
                ·
                  refine S_aload_n X dX12_set_114 rfl rfl ?_
                  refine S_get (v := iv ec) X fgX12_287_11 0 rfl rfl dX12_set_115 ?_
                  refine S_put X fpX12_287_11 0 rfl FT_i dX12_set_118 ?_
                  refine S_w (ws' := [(h0, ob 11 (uF (uF (uF (uF f 27 (iv x)) 28 (iv n)) 29 (iv ec)) 30 (iv lim)))]) (by simp only [List.set]; rw [uF_mv (j := 30) (k := 29) (by decide), uF_same (k := 29)]) ?_
                  refine S_aload_n X dX12_set_121 rfl rfl ?_
                  refine S_iload_n X dX12_set_122 rfl rfl ?_
                  refine S_iconst X dX12_set_123 ?_
                  refine S_icmp_ne (tgt := 131) X dX12_set_124 (by decide) (by omega) (by decide) (fun c_223 => ?_) (fun c_223 => ?_)
                  ·
                    refine S_aload_n X dX12_set_131 rfl rfl ?_
                    refine S_get (v := iv lim) X fgX12_59_11 0 rfl rfl dX12_set_132 ?_
                    refine S_put X fpX12_59_11 0 rfl FT_i dX12_set_135 ?_
                    refine S_w (ws' := [(h0, ob 11 (uF (uF (uF (uF f 27 (iv x)) 28 (iv n)) 29 (iv ec)) 30 (iv lim)))]) (by simp only [List.set]; rw [uF_same (k := 30)]) ?_
                    refine S_iconst X dX12_set_138 ?_
                    exact S_zret X (Or.inr rfl) (nle rfl) (nle rfl) dX12_set_139 (hPo _ _ (Or.inr (Or.inl (⟨rfl, rfl, by omega⟩))))
                  ·
                    refine S_iload_n X dX12_set_127 rfl rfl ?_
                    refine S_goto (tgt := 135) X dX12_set_128 (by decide) ?_
                    refine S_put X fpX12_59_11 0 rfl FT_i dX12_set_135 ?_
                    refine S_w (ws' := [(h0, ob 11 (uF (uF (uF (uF f 27 (iv x)) 28 (iv n)) 29 (iv ec)) 30 (iv x)))]) (by simp only [List.set]; rw [uF_same (k := 30)]) ?_
                    refine S_iconst X dX12_set_138 ?_
                    exact S_zret X (Or.inr rfl) (nle rfl) (nle rfl) dX12_set_139 (hPo _ _ ((by exfalso; omega)))
                ·
                  refine S_iload_n X dX12_set_110 rfl rfl ?_
                  refine S_goto (tgt := 118) X dX12_set_111 (by decide) ?_
                  refine S_put X fpX12_287_11 0 rfl FT_i dX12_set_118 ?_
                  refine S_w (ws' := [(h0, ob 11 (uF (uF (uF (uF f 27 (iv x)) 28 (iv n)) 29 (iv x)) 30 (iv lim)))]) (by simp only [List.set]; rw [uF_mv (j := 30) (k := 29) (by decide), uF_same (k := 29)]) ?_
                  refine S_aload_n X dX12_set_121 rfl rfl ?_
                  refine S_iload_n X dX12_set_122 rfl rfl ?_
                  refine S_iconst X dX12_set_123 ?_
                  refine S_icmp_ne (tgt := 131) X dX12_set_124 (by decide) (by omega) (by decide) (fun c_224 => ?_) (fun c_224 => ?_)
                  ·
                    refine S_aload_n X dX12_set_131 rfl rfl ?_
                    refine S_get (v := iv lim) X fgX12_59_11 0 rfl rfl dX12_set_132 ?_
                    refine S_put X fpX12_59_11 0 rfl FT_i dX12_set_135 ?_
                    refine S_w (ws' := [(h0, ob 11 (uF (uF (uF (uF f 27 (iv x)) 28 (iv n)) 29 (iv x)) 30 (iv lim)))]) (by simp only [List.set]; rw [uF_same (k := 30)]) ?_
                    refine S_iconst X dX12_set_138 ?_
                    exact S_zret X (Or.inr rfl) (nle rfl) (nle rfl) dX12_set_139 (hPo _ _ ((by exfalso; omega)))
                  ·
                    refine S_iload_n X dX12_set_127 rfl rfl ?_
                    refine S_goto (tgt := 135) X dX12_set_128 (by decide) ?_
                    refine S_put X fpX12_59_11 0 rfl FT_i dX12_set_135 ?_
                    refine S_w (ws' := [(h0, ob 11 (uF (uF (uF (uF f 27 (iv x)) 28 (iv n)) 29 (iv x)) 30 (iv x)))]) (by simp only [List.set]; rw [uF_same (k := 30)]) ?_
                    refine S_iconst X dX12_set_138 ?_
                    exact S_zret X (Or.inr rfl) (nle rfl) (nle rfl) dX12_set_139 (hPo _ _ ((by exfalso; omega)))
              ·
                refine S_iload_n X dX12_set_93 rfl rfl ?_
                refine S_goto (tgt := 101) X dX12_set_94 (by decide) ?_
                refine S_put X fpX12_56_11 0 rfl FT_i dX12_set_101 ?_
                refine S_w (ws' := [(h0, ob 11 (uF (uF (uF (uF f 27 (iv x)) 28 (iv x)) 29 (iv ec)) 30 (iv lim)))]) (by simp only [List.set]; rw [uF_mv (j := 30) (k := 28) (by decide), uF_mv (j := 29) (k := 28) (by decide), uF_same (k := 28)]) ?_
                refine S_aload_n X dX12_set_104 rfl rfl ?_
                refine S_iload_n X dX12_set_105 rfl rfl ?_
                refine S_iconst X dX12_set_106 ?_
                refine S_icmp_ne (tgt := 114) X dX12_set_107 (by decide) (by omega) (by decide) (fun c_225 => ?_) (fun c_225 => ?_)
                ·
                  refine S_aload_n X dX12_set_114 rfl rfl ?_
                  refine S_get (v := iv ec) X fgX12_287_11 0 rfl rfl dX12_set_115 ?_
                  refine S_put X fpX12_287_11 0 rfl FT_i dX12_set_118 ?_
                  refine S_w (ws' := [(h0, ob 11 (uF (uF (uF (uF f 27 (iv x)) 28 (iv x)) 29 (iv ec)) 30 (iv lim)))]) (by simp only [List.set]; rw [uF_mv (j := 30) (k := 29) (by decide), uF_same (k := 29)]) ?_
                  refine S_aload_n X dX12_set_121 rfl rfl ?_
                  refine S_iload_n X dX12_set_122 rfl rfl ?_
                  refine S_iconst X dX12_set_123 ?_
                  refine S_icmp_ne (tgt := 131) X dX12_set_124 (by decide) (by omega) (by decide) (fun c_226 => ?_) (fun c_226 => ?_)
                  ·
                    refine S_aload_n X dX12_set_131 rfl rfl ?_
                    refine S_get (v := iv lim) X fgX12_59_11 0 rfl rfl dX12_set_132 ?_
                    refine S_put X fpX12_59_11 0 rfl FT_i dX12_set_135 ?_
                    refine S_w (ws' := [(h0, ob 11 (uF (uF (uF (uF f 27 (iv x)) 28 (iv x)) 29 (iv ec)) 30 (iv lim)))]) (by simp only [List.set]; rw [uF_same (k := 30)]) ?_
                    refine S_iconst X dX12_set_138 ?_
                    exact S_zret X (Or.inr rfl) (nle rfl) (nle rfl) dX12_set_139 (hPo _ _ ((by exfalso; omega)))
                  ·
                    refine S_iload_n X dX12_set_127 rfl rfl ?_
                    refine S_goto (tgt := 135) X dX12_set_128 (by decide) ?_
                    refine S_put X fpX12_59_11 0 rfl FT_i dX12_set_135 ?_
                    refine S_w (ws' := [(h0, ob 11 (uF (uF (uF (uF f 27 (iv x)) 28 (iv x)) 29 (iv ec)) 30 (iv x)))]) (by simp only [List.set]; rw [uF_same (k := 30)]) ?_
                    refine S_iconst X dX12_set_138 ?_
                    exact S_zret X (Or.inr rfl) (nle rfl) (nle rfl) dX12_set_139 (hPo _ _ ((by exfalso; omega)))
                ·
                  refine S_iload_n X dX12_set_110 rfl rfl ?_
                  refine S_goto (tgt := 118) X dX12_set_111 (by decide) ?_
                  refine S_put X fpX12_287_11 0 rfl FT_i dX12_set_118 ?_
                  refine S_w (ws' := [(h0, ob 11 (uF (uF (uF (uF f 27 (iv x)) 28 (iv x)) 29 (iv x)) 30 (iv lim)))]) (by simp only [List.set]; rw [uF_mv (j := 30) (k := 29) (by decide), uF_same (k := 29)]) ?_
                  refine S_aload_n X dX12_set_121 rfl rfl ?_
                  refine S_iload_n X dX12_set_122 rfl rfl ?_
                  refine S_iconst X dX12_set_123 ?_
                  refine S_icmp_ne (tgt := 131) X dX12_set_124 (by decide) (by omega) (by decide) (fun c_227 => ?_) (fun c_227 => ?_)
                  ·
                    refine S_aload_n X dX12_set_131 rfl rfl ?_
                    refine S_get (v := iv lim) X fgX12_59_11 0 rfl rfl dX12_set_132 ?_
                    refine S_put X fpX12_59_11 0 rfl FT_i dX12_set_135 ?_
                    refine S_w (ws' := [(h0, ob 11 (uF (uF (uF (uF f 27 (iv x)) 28 (iv x)) 29 (iv x)) 30 (iv lim)))]) (by simp only [List.set]; rw [uF_same (k := 30)]) ?_
                    refine S_iconst X dX12_set_138 ?_
                    exact S_zret X (Or.inr rfl) (nle rfl) (nle rfl) dX12_set_139 (hPo _ _ ((by exfalso; omega)))
                  ·
                    refine S_iload_n X dX12_set_127 rfl rfl ?_
                    refine S_goto (tgt := 135) X dX12_set_128 (by decide) ?_
                    refine S_put X fpX12_59_11 0 rfl FT_i dX12_set_135 ?_
                    refine S_w (ws' := [(h0, ob 11 (uF (uF (uF (uF f 27 (iv x)) 28 (iv x)) 29 (iv x)) 30 (iv x)))]) (by simp only [List.set]; rw [uF_same (k := 30)]) ?_
                    refine S_iconst X dX12_set_138 ?_
                    exact S_zret X (Or.inr rfl) (nle rfl) (nle rfl) dX12_set_139 (hPo _ _ ((by exfalso; omega)))
    ·
      refine S_iconst X dX12_set_14 ?_
      refine S_goto (tgt := 28) X dX12_set_15 (by decide) ?_
      refine S_iload_n X dX12_set_28 rfl rfl ?_
      refine S_if_ne (tgt := 41) X dX12_set_29 (by decide) (by omega) (fun c_228 => ?_) (fun c_228 => ?_)
      ·
        refine S_iload_n X dX12_set_41 rfl rfl ?_
        refine S_iconst X dX12_set_42 ?_
        refine S_icmp_ne (tgt := 51) X dX12_set_43 (by decide) (by omega) (by decide) (fun c_229 => ?_) (fun c_229 => ?_)
        ·
          refine S_iload_n X dX12_set_51 rfl rfl ?_
          refine S_iconst X dX12_set_52 ?_
          refine S_icmp_ne (tgt := 60) X dX12_set_53 (by decide) (by omega) (by decide) (fun c_230 => ?_) (fun c_230 => ?_)
          ·
            refine S_sipush X dX12_set_60 rfl ?_
            refine S_calli X (kX12_in l x (-1) 999 (by omega) (by omega) (by omega)) (is := []) rfl (run_S X lkX12_216 (is := []) (avs := [iv x, iv (-1), iv 999]) (rest := []) rfl rfl (nle rfl) ⟨nle rfl, nle rfl⟩ ⟨nle rfl, nle rfl⟩ dX12_set_63 (by decide) rfl) (fun z_233 u_231 hp_232 => ?_)
            rcases hp_232 with ⟨hz_234, hu_235, hq_236⟩ | ⟨hz_237, hu_238, hq_239⟩
            ·
              subst hz_234
              subst hu_235
              refine ⟨rfl, ?_⟩
              refine S_w (ws' := [(h0, ob 11 (uF (uF (uF (uF f 27 (iv ho)) 28 (iv n)) 29 (iv ec)) 30 (iv lim)))]) rfl ?_
              refine S_if_ne (tgt := 71) X dX12_set_66 (by decide) (by decide) (fun h9 => absurd h9 (by decide)) (fun _ => ?_)
              refine S_iconst X dX12_set_69 ?_
              exact S_zret X (Or.inl rfl) (nle rfl) (nle rfl) dX12_set_70 (hPo _ _ (Or.inl ⟨rfl, rfl, by omega⟩))
            ·
              subst hz_237
              subst hu_238
              refine ⟨rfl, ?_⟩
              refine S_w (ws' := [(h0, ob 11 (uF (uF (uF (uF f 27 (iv ho)) 28 (iv n)) 29 (iv ec)) 30 (iv lim)))]) rfl ?_
              refine S_if_ne (tgt := 71) X dX12_set_66 (by decide) (by decide) (fun _ => ?_) (fun h9 => absurd h9 (by decide))
              refine S_aload_n X dX12_set_71 rfl rfl ?_
              refine S_iload_n X dX12_set_72 rfl rfl ?_
              refine S_if_ne (tgt := 80) X dX12_set_73 (by decide) (by omega) (fun c_242 => ?_) (fun c_242 => ?_)
              ·
                refine S_aload_n X dX12_set_80 rfl rfl ?_
                refine S_get (v := iv ho) X fgX12_52_11 0 rfl rfl dX12_set_81 ?_
                refine S_put X fpX12_52_11 0 rfl FT_i dX12_set_84 ?_
                refine S_w (ws' := [(h0, ob 11 (uF (uF (uF (uF f 27 (iv ho)) 28 (iv n)) 29 (iv ec)) 30 (iv lim)))]) (by simp only [List.set]; rw [uF_mv (j := 30) (k := 27) (by decide), uF_mv (j := 29) (k := 27) (by decide), uF_mv (j := 28) (k := 27) (by decide), uF_same (k := 27)]) ?_
                refine S_aload_n X dX12_set_87 rfl rfl ?_
                refine S_iload_n X dX12_set_88 rfl rfl ?_
                refine S_iconst X dX12_set_89 ?_
                refine S_icmp_ne (tgt := 97) X dX12_set_90 (by decide) (by omega) (by decide) (fun c_243 => ?_) (fun c_243 => ?_)
                ·
                  refine S_aload_n X dX12_set_97 rfl rfl ?_
                  refine S_get (v := iv n) X fgX12_56_11 0 rfl rfl dX12_set_98 ?_
                  refine S_put X fpX12_56_11 0 rfl FT_i dX12_set_101 ?_
                  refine S_w (ws' := [(h0, ob 11 (uF (uF (uF (uF f 27 (iv ho)) 28 (iv n)) 29 (iv ec)) 30 (iv lim)))]) (by simp only [List.set]; rw [uF_mv (j := 30) (k := 28) (by decide), uF_mv (j := 29) (k := 28) (by decide), uF_same (k := 28)]) ?_
                  refine S_aload_n X dX12_set_104 rfl rfl ?_
                  refine S_iload_n X dX12_set_105 rfl rfl ?_
                  refine S_iconst X dX12_set_106 ?_
                  refine S_icmp_ne (tgt := 114) X dX12_set_107 (by decide) (by omega) (by decide) (fun c_244 => ?_) (fun c_244 => ?_)
                  ·
                    refine S_aload_n X dX12_set_114 rfl rfl ?_
                    refine S_get (v := iv ec) X fgX12_287_11 0 rfl rfl dX12_set_115 ?_
                    refine S_put X fpX12_287_11 0 rfl FT_i dX12_set_118 ?_
                    refine S_w (ws' := [(h0, ob 11 (uF (uF (uF (uF f 27 (iv ho)) 28 (iv n)) 29 (iv ec)) 30 (iv lim)))]) (by simp only [List.set]; rw [uF_mv (j := 30) (k := 29) (by decide), uF_same (k := 29)]) ?_
                    refine S_aload_n X dX12_set_121 rfl rfl ?_
                    refine S_iload_n X dX12_set_122 rfl rfl ?_
                    refine S_iconst X dX12_set_123 ?_
                    refine S_icmp_ne (tgt := 131) X dX12_set_124 (by decide) (by omega) (by decide) (fun c_245 => ?_) (fun c_245 => ?_)
                    ·
                      refine S_aload_n X dX12_set_131 rfl rfl ?_
                      refine S_get (v := iv lim) X fgX12_59_11 0 rfl rfl dX12_set_132 ?_
                      refine S_put X fpX12_59_11 0 rfl FT_i dX12_set_135 ?_
                      refine S_w (ws' := [(h0, ob 11 (uF (uF (uF (uF f 27 (iv ho)) 28 (iv n)) 29 (iv ec)) 30 (iv lim)))]) (by simp only [List.set]; rw [uF_same (k := 30)]) ?_
                      refine S_iconst X dX12_set_138 ?_
                      exact S_zret X (Or.inr rfl) (nle rfl) (nle rfl) dX12_set_139 (hPo _ _ ((by exfalso; omega)))
                    ·
                      refine S_iload_n X dX12_set_127 rfl rfl ?_
                      refine S_goto (tgt := 135) X dX12_set_128 (by decide) ?_
                      refine S_put X fpX12_59_11 0 rfl FT_i dX12_set_135 ?_
                      refine S_w (ws' := [(h0, ob 11 (uF (uF (uF (uF f 27 (iv ho)) 28 (iv n)) 29 (iv ec)) 30 (iv x)))]) (by simp only [List.set]; rw [uF_same (k := 30)]) ?_
                      refine S_iconst X dX12_set_138 ?_
                      exact S_zret X (Or.inr rfl) (nle rfl) (nle rfl) dX12_set_139 (hPo _ _ (Or.inr (Or.inr (Or.inr (Or.inr (⟨rfl, rfl, by omega⟩))))))
                  ·
                    refine S_iload_n X dX12_set_110 rfl rfl ?_
                    refine S_goto (tgt := 118) X dX12_set_111 (by decide) ?_
                    refine S_put X fpX12_287_11 0 rfl FT_i dX12_set_118 ?_
                    refine S_w (ws' := [(h0, ob 11 (uF (uF (uF (uF f 27 (iv ho)) 28 (iv n)) 29 (iv x)) 30 (iv lim)))]) (by simp only [List.set]; rw [uF_mv (j := 30) (k := 29) (by decide), uF_same (k := 29)]) ?_
                    refine S_aload_n X dX12_set_121 rfl rfl ?_
                    refine S_iload_n X dX12_set_122 rfl rfl ?_
                    refine S_iconst X dX12_set_123 ?_
                    refine S_icmp_ne (tgt := 131) X dX12_set_124 (by decide) (by omega) (by decide) (fun c_246 => ?_) (fun c_246 => ?_)
                    ·
                      refine S_aload_n X dX12_set_131 rfl rfl ?_
                      refine S_get (v := iv lim) X fgX12_59_11 0 rfl rfl dX12_set_132 ?_
                      refine S_put X fpX12_59_11 0 rfl FT_i dX12_set_135 ?_
                      refine S_w (ws' := [(h0, ob 11 (uF (uF (uF (uF f 27 (iv ho)) 28 (iv n)) 29 (iv x)) 30 (iv lim)))]) (by simp only [List.set]; rw [uF_same (k := 30)]) ?_
                      refine S_iconst X dX12_set_138 ?_
                      exact S_zret X (Or.inr rfl) (nle rfl) (nle rfl) dX12_set_139 (hPo _ _ (Or.inr (Or.inr (Or.inr (Or.inl (⟨rfl, rfl, by omega⟩))))))
                    ·
                      refine S_iload_n X dX12_set_127 rfl rfl ?_
                      refine S_goto (tgt := 135) X dX12_set_128 (by decide) ?_
                      refine S_put X fpX12_59_11 0 rfl FT_i dX12_set_135 ?_
                      refine S_w (ws' := [(h0, ob 11 (uF (uF (uF (uF f 27 (iv ho)) 28 (iv n)) 29 (iv x)) 30 (iv x)))]) (by simp only [List.set]; rw [uF_same (k := 30)]) ?_
                      refine S_iconst X dX12_set_138 ?_
                      exact S_zret X (Or.inr rfl) (nle rfl) (nle rfl) dX12_set_139 (hPo _ _ ((by exfalso; omega)))
                ·
                  refine S_iload_n X dX12_set_93 rfl rfl ?_
                  refine S_goto (tgt := 101) X dX12_set_94 (by decide) ?_
                  refine S_put X fpX12_56_11 0 rfl FT_i dX12_set_101 ?_
                  refine S_w (ws' := [(h0, ob 11 (uF (uF (uF (uF f 27 (iv ho)) 28 (iv x)) 29 (iv ec)) 30 (iv lim)))]) (by simp only [List.set]; rw [uF_mv (j := 30) (k := 28) (by decide), uF_mv (j := 29) (k := 28) (by decide), uF_same (k := 28)]) ?_
                  refine S_aload_n X dX12_set_104 rfl rfl ?_
                  refine S_iload_n X dX12_set_105 rfl rfl ?_
                  refine S_iconst X dX12_set_106 ?_
                  refine S_icmp_ne (tgt := 114) X dX12_set_107 (by decide) (by omega) (by decide) (fun c_247 => ?_) (fun c_247 => ?_)
                  ·
                    refine S_aload_n X dX12_set_114 rfl rfl ?_
                    refine S_get (v := iv ec) X fgX12_287_11 0 rfl rfl dX12_set_115 ?_
                    refine S_put X fpX12_287_11 0 rfl FT_i dX12_set_118 ?_
                    refine S_w (ws' := [(h0, ob 11 (uF (uF (uF (uF f 27 (iv ho)) 28 (iv x)) 29 (iv ec)) 30 (iv lim)))]) (by simp only [List.set]; rw [uF_mv (j := 30) (k := 29) (by decide), uF_same (k := 29)]) ?_
                    refine S_aload_n X dX12_set_121 rfl rfl ?_
                    refine S_iload_n X dX12_set_122 rfl rfl ?_
                    refine S_iconst X dX12_set_123 ?_
                    refine S_icmp_ne (tgt := 131) X dX12_set_124 (by decide) (by omega) (by decide) (fun c_248 => ?_) (fun c_248 => ?_)
                    ·
                      refine S_aload_n X dX12_set_131 rfl rfl ?_
                      refine S_get (v := iv lim) X fgX12_59_11 0 rfl rfl dX12_set_132 ?_
                      refine S_put X fpX12_59_11 0 rfl FT_i dX12_set_135 ?_
                      refine S_w (ws' := [(h0, ob 11 (uF (uF (uF (uF f 27 (iv ho)) 28 (iv x)) 29 (iv ec)) 30 (iv lim)))]) (by simp only [List.set]; rw [uF_same (k := 30)]) ?_
                      refine S_iconst X dX12_set_138 ?_
                      exact S_zret X (Or.inr rfl) (nle rfl) (nle rfl) dX12_set_139 (hPo _ _ (Or.inr (Or.inr (Or.inl (⟨rfl, rfl, by omega⟩)))))
                    ·
                      refine S_iload_n X dX12_set_127 rfl rfl ?_
                      refine S_goto (tgt := 135) X dX12_set_128 (by decide) ?_
                      refine S_put X fpX12_59_11 0 rfl FT_i dX12_set_135 ?_
                      refine S_w (ws' := [(h0, ob 11 (uF (uF (uF (uF f 27 (iv ho)) 28 (iv x)) 29 (iv ec)) 30 (iv x)))]) (by simp only [List.set]; rw [uF_same (k := 30)]) ?_
                      refine S_iconst X dX12_set_138 ?_
                      exact S_zret X (Or.inr rfl) (nle rfl) (nle rfl) dX12_set_139 (hPo _ _ ((by exfalso; omega)))
                  ·
                    refine S_iload_n X dX12_set_110 rfl rfl ?_
                    refine S_goto (tgt := 118) X dX12_set_111 (by decide) ?_
                    refine S_put X fpX12_287_11 0 rfl FT_i dX12_set_118 ?_
                    refine S_w (ws' := [(h0, ob 11 (uF (uF (uF (uF f 27 (iv ho)) 28 (iv x)) 29 (iv x)) 30 (iv lim)))]) (by simp only [List.set]; rw [uF_mv (j := 30) (k := 29) (by decide), uF_same (k := 29)]) ?_
                    refine S_aload_n X dX12_set_121 rfl rfl ?_
                    refine S_iload_n X dX12_set_122 rfl rfl ?_
                    refine S_iconst X dX12_set_123 ?_
                    refine S_icmp_ne (tgt := 131) X dX12_set_124 (by decide) (by omega) (by decide) (fun c_249 => ?_) (fun c_249 => ?_)
                    ·
                      refine S_aload_n X dX12_set_131 rfl rfl ?_
                      refine S_get (v := iv lim) X fgX12_59_11 0 rfl rfl dX12_set_132 ?_
                      refine S_put X fpX12_59_11 0 rfl FT_i dX12_set_135 ?_
                      refine S_w (ws' := [(h0, ob 11 (uF (uF (uF (uF f 27 (iv ho)) 28 (iv x)) 29 (iv x)) 30 (iv lim)))]) (by simp only [List.set]; rw [uF_same (k := 30)]) ?_
                      refine S_iconst X dX12_set_138 ?_
                      exact S_zret X (Or.inr rfl) (nle rfl) (nle rfl) dX12_set_139 (hPo _ _ ((by exfalso; omega)))
                    ·
                      refine S_iload_n X dX12_set_127 rfl rfl ?_
                      refine S_goto (tgt := 135) X dX12_set_128 (by decide) ?_
                      refine S_put X fpX12_59_11 0 rfl FT_i dX12_set_135 ?_
                      refine S_w (ws' := [(h0, ob 11 (uF (uF (uF (uF f 27 (iv ho)) 28 (iv x)) 29 (iv x)) 30 (iv x)))]) (by simp only [List.set]; rw [uF_same (k := 30)]) ?_
                      refine S_iconst X dX12_set_138 ?_
                      exact S_zret X (Or.inr rfl) (nle rfl) (nle rfl) dX12_set_139 (hPo _ _ ((by exfalso; omega)))
              ·
                refine S_iload_n X dX12_set_76 rfl rfl ?_
                refine S_goto (tgt := 84) X dX12_set_77 (by decide) ?_
                refine S_put X fpX12_52_11 0 rfl FT_i dX12_set_84 ?_
                refine S_w (ws' := [(h0, ob 11 (uF (uF (uF (uF f 27 (iv x)) 28 (iv n)) 29 (iv ec)) 30 (iv lim)))]) (by simp only [List.set]; rw [uF_mv (j := 30) (k := 27) (by decide), uF_mv (j := 29) (k := 27) (by decide), uF_mv (j := 28) (k := 27) (by decide), uF_same (k := 27)]) ?_
                refine S_aload_n X dX12_set_87 rfl rfl ?_
                refine S_iload_n X dX12_set_88 rfl rfl ?_
                refine S_iconst X dX12_set_89 ?_
                refine S_icmp_ne (tgt := 97) X dX12_set_90 (by decide) (by omega) (by decide) (fun c_250 => ?_) (fun c_250 => ?_)
                ·
                  refine S_aload_n X dX12_set_97 rfl rfl ?_
                  refine S_get (v := iv n) X fgX12_56_11 0 rfl rfl dX12_set_98 ?_
                  refine S_put X fpX12_56_11 0 rfl FT_i dX12_set_101 ?_
                  refine S_w (ws' := [(h0, ob 11 (uF (uF (uF (uF f 27 (iv x)) 28 (iv n)) 29 (iv ec)) 30 (iv lim)))]) (by simp only [List.set]; rw [uF_mv (j := 30) (k := 28) (by decide), uF_mv (j := 29) (k := 28) (by decide), uF_same (k := 28)]) ?_
                  refine S_aload_n X dX12_set_104 rfl rfl ?_
                  refine S_iload_n X dX12_set_105 rfl rfl ?_
                  refine S_iconst X dX12_set_106 ?_
                  refine S_icmp_ne (tgt := 114) X dX12_set_107 (by decide) (by omega) (by decide) (fun c_251 => ?_) (fun c_251 => ?_)
                  ·
                    refine S_aload_n X dX12_set_114 rfl rfl ?_
                    refine S_get (v := iv ec) X fgX12_287_11 0 rfl rfl dX12_set_115 ?_
                    refine S_put X fpX12_287_11 0 rfl FT_i dX12_set_118 ?_
                    refine S_w (ws' := [(h0, ob 11 (uF (uF (uF (uF f 27 (iv x)) 28 (iv n)) 29 (iv ec)) 30 (iv lim)))]) (by simp only [List.set]; rw [uF_mv (j := 30) (k := 29) (by decide), uF_same (k := 29)]) ?_
                    refine S_aload_n X dX12_set_121 rfl rfl ?_
                    refine S_iload_n X dX12_set_122 rfl rfl ?_
                    refine S_iconst X dX12_set_123 ?_
                    refine S_icmp_ne (tgt := 131) X dX12_set_124 (by decide) (by omega) (by decide) (fun c_252 => ?_) (fun c_252 => ?_)
                    ·
                      refine S_aload_n X dX12_set_131 rfl rfl ?_
                      refine S_get (v := iv lim) X fgX12_59_11 0 rfl rfl dX12_set_132 ?_
                      refine S_put X fpX12_59_11 0 rfl FT_i dX12_set_135 ?_
                      refine S_w (ws' := [(h0, ob 11 (uF (uF (uF (uF f 27 (iv x)) 28 (iv n)) 29 (iv ec)) 30 (iv lim)))]) (by simp only [List.set]; rw [uF_same (k := 30)]) ?_
                      refine S_iconst X dX12_set_138 ?_
                      exact S_zret X (Or.inr rfl) (nle rfl) (nle rfl) dX12_set_139 (hPo _ _ (Or.inr (Or.inl (⟨rfl, rfl, by omega⟩))))
                    ·
                      refine S_iload_n X dX12_set_127 rfl rfl ?_
                      refine S_goto (tgt := 135) X dX12_set_128 (by decide) ?_
                      refine S_put X fpX12_59_11 0 rfl FT_i dX12_set_135 ?_
                      refine S_w (ws' := [(h0, ob 11 (uF (uF (uF (uF f 27 (iv x)) 28 (iv n)) 29 (iv ec)) 30 (iv x)))]) (by simp only [List.set]; rw [uF_same (k := 30)]) ?_
                      refine S_iconst X dX12_set_138 ?_
                      exact S_zret X (Or.inr rfl) (nle rfl) (nle rfl) dX12_set_139 (hPo _ _ ((by exfalso; omega)))
                  ·
                    refine S_iload_n X dX12_set_110 rfl rfl ?_
                    refine S_goto (tgt := 118) X dX12_set_111 (by decide) ?_
                    refine S_put X fpX12_287_11 0 rfl FT_i dX12_set_118 ?_
                    refine S_w (ws' := [(h0, ob 11 (uF (uF (uF (uF f 27 (iv x)) 28 (iv n)) 29 (iv x)) 30 (iv lim)))]) (by simp only [List.set]; rw [uF_mv (j := 30) (k := 29) (by decide), uF_same (k := 29)]) ?_
                    refine S_aload_n X dX12_set_121 rfl rfl ?_
                    refine S_iload_n X dX12_set_122 rfl rfl ?_
                    refine S_iconst X dX12_set_123 ?_
                    refine S_icmp_ne (tgt := 131) X dX12_set_124 (by decide) (by omega) (by decide) (fun c_253 => ?_) (fun c_253 => ?_)
                    ·
                      refine S_aload_n X dX12_set_131 rfl rfl ?_
                      refine S_get (v := iv lim) X fgX12_59_11 0 rfl rfl dX12_set_132 ?_
                      refine S_put X fpX12_59_11 0 rfl FT_i dX12_set_135 ?_
                      refine S_w (ws' := [(h0, ob 11 (uF (uF (uF (uF f 27 (iv x)) 28 (iv n)) 29 (iv x)) 30 (iv lim)))]) (by simp only [List.set]; rw [uF_same (k := 30)]) ?_
                      refine S_iconst X dX12_set_138 ?_
                      exact S_zret X (Or.inr rfl) (nle rfl) (nle rfl) dX12_set_139 (hPo _ _ ((by exfalso; omega)))
                    ·
                      refine S_iload_n X dX12_set_127 rfl rfl ?_
                      refine S_goto (tgt := 135) X dX12_set_128 (by decide) ?_
                      refine S_put X fpX12_59_11 0 rfl FT_i dX12_set_135 ?_
                      refine S_w (ws' := [(h0, ob 11 (uF (uF (uF (uF f 27 (iv x)) 28 (iv n)) 29 (iv x)) 30 (iv x)))]) (by simp only [List.set]; rw [uF_same (k := 30)]) ?_
                      refine S_iconst X dX12_set_138 ?_
                      exact S_zret X (Or.inr rfl) (nle rfl) (nle rfl) dX12_set_139 (hPo _ _ ((by exfalso; omega)))
                ·
                  refine S_iload_n X dX12_set_93 rfl rfl ?_
                  refine S_goto (tgt := 101) X dX12_set_94 (by decide) ?_
                  refine S_put X fpX12_56_11 0 rfl FT_i dX12_set_101 ?_
                  refine S_w (ws' := [(h0, ob 11 (uF (uF (uF (uF f 27 (iv x)) 28 (iv x)) 29 (iv ec)) 30 (iv lim)))]) (by simp only [List.set]; rw [uF_mv (j := 30) (k := 28) (by decide), uF_mv (j := 29) (k := 28) (by decide), uF_same (k := 28)]) ?_
                  refine S_aload_n X dX12_set_104 rfl rfl ?_
                  refine S_iload_n X dX12_set_105 rfl rfl ?_
                  refine S_iconst X dX12_set_106 ?_
                  refine S_icmp_ne (tgt := 114) X dX12_set_107 (by decide) (by omega) (by decide) (fun c_254 => ?_) (fun c_254 => ?_)
                  ·
                    refine S_aload_n X dX12_set_114 rfl rfl ?_
                    refine S_get (v := iv ec) X fgX12_287_11 0 rfl rfl dX12_set_115 ?_
                    refine S_put X fpX12_287_11 0 rfl FT_i dX12_set_118 ?_
                    refine S_w (ws' := [(h0, ob 11 (uF (uF (uF (uF f 27 (iv x)) 28 (iv x)) 29 (iv ec)) 30 (iv lim)))]) (by simp only [List.set]; rw [uF_mv (j := 30) (k := 29) (by decide), uF_same (k := 29)]) ?_
                    refine S_aload_n X dX12_set_121 rfl rfl ?_
                    refine S_iload_n X dX12_set_122 rfl rfl ?_
                    refine S_iconst X dX12_set_123 ?_
                    refine S_icmp_ne (tgt := 131) X dX12_set_124 (by decide) (by omega) (by decide) (fun c_255 => ?_) (fun c_255 => ?_)
                    ·
                      refine S_aload_n X dX12_set_131 rfl rfl ?_
                      refine S_get (v := iv lim) X fgX12_59_11 0 rfl rfl dX12_set_132 ?_
                      refine S_put X fpX12_59_11 0 rfl FT_i dX12_set_135 ?_
                      refine S_w (ws' := [(h0, ob 11 (uF (uF (uF (uF f 27 (iv x)) 28 (iv x)) 29 (iv ec)) 30 (iv lim)))]) (by simp only [List.set]; rw [uF_same (k := 30)]) ?_
                      refine S_iconst X dX12_set_138 ?_
                      exact S_zret X (Or.inr rfl) (nle rfl) (nle rfl) dX12_set_139 (hPo _ _ ((by exfalso; omega)))
                    ·
                      refine S_iload_n X dX12_set_127 rfl rfl ?_
                      refine S_goto (tgt := 135) X dX12_set_128 (by decide) ?_
                      refine S_put X fpX12_59_11 0 rfl FT_i dX12_set_135 ?_
                      refine S_w (ws' := [(h0, ob 11 (uF (uF (uF (uF f 27 (iv x)) 28 (iv x)) 29 (iv ec)) 30 (iv x)))]) (by simp only [List.set]; rw [uF_same (k := 30)]) ?_
                      refine S_iconst X dX12_set_138 ?_
                      exact S_zret X (Or.inr rfl) (nle rfl) (nle rfl) dX12_set_139 (hPo _ _ ((by exfalso; omega)))
                  ·
                    refine S_iload_n X dX12_set_110 rfl rfl ?_
                    refine S_goto (tgt := 118) X dX12_set_111 (by decide) ?_
                    refine S_put X fpX12_287_11 0 rfl FT_i dX12_set_118 ?_
                    refine S_w (ws' := [(h0, ob 11 (uF (uF (uF (uF f 27 (iv x)) 28 (iv x)) 29 (iv x)) 30 (iv lim)))]) (by simp only [List.set]; rw [uF_mv (j := 30) (k := 29) (by decide), uF_same (k := 29)]) ?_
                    refine S_aload_n X dX12_set_121 rfl rfl ?_
                    refine S_iload_n X dX12_set_122 rfl rfl ?_
                    refine S_iconst X dX12_set_123 ?_
                    refine S_icmp_ne (tgt := 131) X dX12_set_124 (by decide) (by omega) (by decide) (fun c_256 => ?_) (fun c_256 => ?_)
                    ·
                      refine S_aload_n X dX12_set_131 rfl rfl ?_
                      refine S_get (v := iv lim) X fgX12_59_11 0 rfl rfl dX12_set_132 ?_
                      refine S_put X fpX12_59_11 0 rfl FT_i dX12_set_135 ?_
                      refine S_w (ws' := [(h0, ob 11 (uF (uF (uF (uF f 27 (iv x)) 28 (iv x)) 29 (iv x)) 30 (iv lim)))]) (by simp only [List.set]; rw [uF_same (k := 30)]) ?_
                      refine S_iconst X dX12_set_138 ?_
                      exact S_zret X (Or.inr rfl) (nle rfl) (nle rfl) dX12_set_139 (hPo _ _ ((by exfalso; omega)))
                    ·
                      refine S_iload_n X dX12_set_127 rfl rfl ?_
                      refine S_goto (tgt := 135) X dX12_set_128 (by decide) ?_
                      refine S_put X fpX12_59_11 0 rfl FT_i dX12_set_135 ?_
                      refine S_w (ws' := [(h0, ob 11 (uF (uF (uF (uF f 27 (iv x)) 28 (iv x)) 29 (iv x)) 30 (iv x)))]) (by simp only [List.set]; rw [uF_same (k := 30)]) ?_
                      refine S_iconst X dX12_set_138 ?_
                      exact S_zret X (Or.inr rfl) (nle rfl) (nle rfl) dX12_set_139 (hPo _ _ ((by exfalso; omega)))
          ·
            refine S_iconst X dX12_set_56 ?_
            refine S_goto (tgt := 63) X dX12_set_57 (by decide) ?_
            refine S_calli X (kX12_in l x (-1) 3 (by omega) (by omega) (by omega)) (is := []) rfl (run_S X lkX12_216 (is := []) (avs := [iv x, iv (-1), iv 3]) (rest := []) rfl rfl (nle rfl) ⟨nle rfl, nle rfl⟩ ⟨nle rfl, nle rfl⟩ dX12_set_63 (by decide) rfl) (fun z_259 u_257 hp_258 => ?_)
            rcases hp_258 with ⟨hz_260, hu_261, hq_262⟩ | ⟨hz_263, hu_264, hq_265⟩
            ·
              subst hz_260
              subst hu_261
              refine ⟨rfl, ?_⟩
              refine S_w (ws' := [(h0, ob 11 (uF (uF (uF (uF f 27 (iv ho)) 28 (iv n)) 29 (iv ec)) 30 (iv lim)))]) rfl ?_
              refine S_if_ne (tgt := 71) X dX12_set_66 (by decide) (by decide) (fun h9 => absurd h9 (by decide)) (fun _ => ?_)
              refine S_iconst X dX12_set_69 ?_
              exact S_zret X (Or.inl rfl) (nle rfl) (nle rfl) dX12_set_70 (hPo _ _ (Or.inl ⟨rfl, rfl, by omega⟩))
            ·
              subst hz_263
              subst hu_264
              refine ⟨rfl, ?_⟩
              refine S_w (ws' := [(h0, ob 11 (uF (uF (uF (uF f 27 (iv ho)) 28 (iv n)) 29 (iv ec)) 30 (iv lim)))]) rfl ?_
              refine S_if_ne (tgt := 71) X dX12_set_66 (by decide) (by decide) (fun _ => ?_) (fun h9 => absurd h9 (by decide))
              refine S_aload_n X dX12_set_71 rfl rfl ?_
              refine S_iload_n X dX12_set_72 rfl rfl ?_
              refine S_if_ne (tgt := 80) X dX12_set_73 (by decide) (by omega) (fun c_268 => ?_) (fun c_268 => ?_)
              ·
                refine S_aload_n X dX12_set_80 rfl rfl ?_
                refine S_get (v := iv ho) X fgX12_52_11 0 rfl rfl dX12_set_81 ?_
                refine S_put X fpX12_52_11 0 rfl FT_i dX12_set_84 ?_
                refine S_w (ws' := [(h0, ob 11 (uF (uF (uF (uF f 27 (iv ho)) 28 (iv n)) 29 (iv ec)) 30 (iv lim)))]) (by simp only [List.set]; rw [uF_mv (j := 30) (k := 27) (by decide), uF_mv (j := 29) (k := 27) (by decide), uF_mv (j := 28) (k := 27) (by decide), uF_same (k := 27)]) ?_
                refine S_aload_n X dX12_set_87 rfl rfl ?_
                refine S_iload_n X dX12_set_88 rfl rfl ?_
                refine S_iconst X dX12_set_89 ?_
                refine S_icmp_ne (tgt := 97) X dX12_set_90 (by decide) (by omega) (by decide) (fun c_269 => ?_) (fun c_269 => ?_)
                ·
                  refine S_aload_n X dX12_set_97 rfl rfl ?_
                  refine S_get (v := iv n) X fgX12_56_11 0 rfl rfl dX12_set_98 ?_
                  refine S_put X fpX12_56_11 0 rfl FT_i dX12_set_101 ?_
                  refine S_w (ws' := [(h0, ob 11 (uF (uF (uF (uF f 27 (iv ho)) 28 (iv n)) 29 (iv ec)) 30 (iv lim)))]) (by simp only [List.set]; rw [uF_mv (j := 30) (k := 28) (by decide), uF_mv (j := 29) (k := 28) (by decide), uF_same (k := 28)]) ?_
                  refine S_aload_n X dX12_set_104 rfl rfl ?_
                  refine S_iload_n X dX12_set_105 rfl rfl ?_
                  refine S_iconst X dX12_set_106 ?_
                  refine S_icmp_ne (tgt := 114) X dX12_set_107 (by decide) (by omega) (by decide) (fun c_270 => ?_) (fun c_270 => ?_)
                  ·
                    refine S_aload_n X dX12_set_114 rfl rfl ?_
                    refine S_get (v := iv ec) X fgX12_287_11 0 rfl rfl dX12_set_115 ?_
                    refine S_put X fpX12_287_11 0 rfl FT_i dX12_set_118 ?_
                    refine S_w (ws' := [(h0, ob 11 (uF (uF (uF (uF f 27 (iv ho)) 28 (iv n)) 29 (iv ec)) 30 (iv lim)))]) (by simp only [List.set]; rw [uF_mv (j := 30) (k := 29) (by decide), uF_same (k := 29)]) ?_
                    refine S_aload_n X dX12_set_121 rfl rfl ?_
                    refine S_iload_n X dX12_set_122 rfl rfl ?_
                    refine S_iconst X dX12_set_123 ?_
                    refine S_icmp_ne (tgt := 131) X dX12_set_124 (by decide) (by omega) (by decide) (fun c_271 => ?_) (fun c_271 => ?_)
                    ·
                      refine S_aload_n X dX12_set_131 rfl rfl ?_
                      refine S_get (v := iv lim) X fgX12_59_11 0 rfl rfl dX12_set_132 ?_
                      refine S_put X fpX12_59_11 0 rfl FT_i dX12_set_135 ?_
                      refine S_w (ws' := [(h0, ob 11 (uF (uF (uF (uF f 27 (iv ho)) 28 (iv n)) 29 (iv ec)) 30 (iv lim)))]) (by simp only [List.set]; rw [uF_same (k := 30)]) ?_
                      refine S_iconst X dX12_set_138 ?_
                      exact S_zret X (Or.inr rfl) (nle rfl) (nle rfl) dX12_set_139 (hPo _ _ ((by exfalso; omega)))
                    ·
                      refine S_iload_n X dX12_set_127 rfl rfl ?_
                      refine S_goto (tgt := 135) X dX12_set_128 (by decide) ?_
                      refine S_put X fpX12_59_11 0 rfl FT_i dX12_set_135 ?_
                      refine S_w (ws' := [(h0, ob 11 (uF (uF (uF (uF f 27 (iv ho)) 28 (iv n)) 29 (iv ec)) 30 (iv x)))]) (by simp only [List.set]; rw [uF_same (k := 30)]) ?_
                      refine S_iconst X dX12_set_138 ?_
                      exact S_zret X (Or.inr rfl) (nle rfl) (nle rfl) dX12_set_139 (hPo _ _ (Or.inr (Or.inr (Or.inr (Or.inr (⟨rfl, rfl, by omega⟩))))))
                  ·
                    refine S_iload_n X dX12_set_110 rfl rfl ?_
                    refine S_goto (tgt := 118) X dX12_set_111 (by decide) ?_
                    refine S_put X fpX12_287_11 0 rfl FT_i dX12_set_118 ?_
                    refine S_w (ws' := [(h0, ob 11 (uF (uF (uF (uF f 27 (iv ho)) 28 (iv n)) 29 (iv x)) 30 (iv lim)))]) (by simp only [List.set]; rw [uF_mv (j := 30) (k := 29) (by decide), uF_same (k := 29)]) ?_
                    refine S_aload_n X dX12_set_121 rfl rfl ?_
                    refine S_iload_n X dX12_set_122 rfl rfl ?_
                    refine S_iconst X dX12_set_123 ?_
                    refine S_icmp_ne (tgt := 131) X dX12_set_124 (by decide) (by omega) (by decide) (fun c_272 => ?_) (fun c_272 => ?_)
                    ·
                      refine S_aload_n X dX12_set_131 rfl rfl ?_
                      refine S_get (v := iv lim) X fgX12_59_11 0 rfl rfl dX12_set_132 ?_
                      refine S_put X fpX12_59_11 0 rfl FT_i dX12_set_135 ?_
                      refine S_w (ws' := [(h0, ob 11 (uF (uF (uF (uF f 27 (iv ho)) 28 (iv n)) 29 (iv x)) 30 (iv lim)))]) (by simp only [List.set]; rw [uF_same (k := 30)]) ?_
                      refine S_iconst X dX12_set_138 ?_
                      exact S_zret X (Or.inr rfl) (nle rfl) (nle rfl) dX12_set_139 (hPo _ _ (Or.inr (Or.inr (Or.inr (Or.inl (⟨rfl, rfl, by omega⟩))))))
                    ·
                      refine S_iload_n X dX12_set_127 rfl rfl ?_
                      refine S_goto (tgt := 135) X dX12_set_128 (by decide) ?_
                      refine S_put X fpX12_59_11 0 rfl FT_i dX12_set_135 ?_
                      refine S_w (ws' := [(h0, ob 11 (uF (uF (uF (uF f 27 (iv ho)) 28 (iv n)) 29 (iv x)) 30 (iv x)))]) (by simp only [List.set]; rw [uF_same (k := 30)]) ?_
                      refine S_iconst X dX12_set_138 ?_
                      exact S_zret X (Or.inr rfl) (nle rfl) (nle rfl) dX12_set_139 (hPo _ _ ((by exfalso; omega)))
                ·
                  refine S_iload_n X dX12_set_93 rfl rfl ?_
                  refine S_goto (tgt := 101) X dX12_set_94 (by decide) ?_
                  refine S_put X fpX12_56_11 0 rfl FT_i dX12_set_101 ?_
                  refine S_w (ws' := [(h0, ob 11 (uF (uF (uF (uF f 27 (iv ho)) 28 (iv x)) 29 (iv ec)) 30 (iv lim)))]) (by simp only [List.set]; rw [uF_mv (j := 30) (k := 28) (by decide), uF_mv (j := 29) (k := 28) (by decide), uF_same (k := 28)]) ?_
                  refine S_aload_n X dX12_set_104 rfl rfl ?_
                  refine S_iload_n X dX12_set_105 rfl rfl ?_
                  refine S_iconst X dX12_set_106 ?_
                  refine S_icmp_ne (tgt := 114) X dX12_set_107 (by decide) (by omega) (by decide) (fun c_273 => ?_) (fun c_273 => ?_)
                  ·
                    refine S_aload_n X dX12_set_114 rfl rfl ?_
                    refine S_get (v := iv ec) X fgX12_287_11 0 rfl rfl dX12_set_115 ?_
                    refine S_put X fpX12_287_11 0 rfl FT_i dX12_set_118 ?_
                    refine S_w (ws' := [(h0, ob 11 (uF (uF (uF (uF f 27 (iv ho)) 28 (iv x)) 29 (iv ec)) 30 (iv lim)))]) (by simp only [List.set]; rw [uF_mv (j := 30) (k := 29) (by decide), uF_same (k := 29)]) ?_
                    refine S_aload_n X dX12_set_121 rfl rfl ?_
                    refine S_iload_n X dX12_set_122 rfl rfl ?_
                    refine S_iconst X dX12_set_123 ?_
                    refine S_icmp_ne (tgt := 131) X dX12_set_124 (by decide) (by omega) (by decide) (fun c_274 => ?_) (fun c_274 => ?_)
                    ·
                      refine S_aload_n X dX12_set_131 rfl rfl ?_
                      refine S_get (v := iv lim) X fgX12_59_11 0 rfl rfl dX12_set_132 ?_
                      refine S_put X fpX12_59_11 0 rfl FT_i dX12_set_135 ?_
                      refine S_w (ws' := [(h0, ob 11 (uF (uF (uF (uF f 27 (iv ho)) 28 (iv x)) 29 (iv ec)) 30 (iv lim)))]) (by simp only [List.set]; rw [uF_same (k := 30)]) ?_
                      refine S_iconst X dX12_set_138 ?_
                      exact S_zret X (Or.inr rfl) (nle rfl) (nle rfl) dX12_set_139 (hPo _ _ (Or.inr (Or.inr (Or.inl (⟨rfl, rfl, by omega⟩)))))
                    ·
                      refine S_iload_n X dX12_set_127 rfl rfl ?_
                      refine S_goto (tgt := 135) X dX12_set_128 (by decide) ?_
                      refine S_put X fpX12_59_11 0 rfl FT_i dX12_set_135 ?_
                      refine S_w (ws' := [(h0, ob 11 (uF (uF (uF (uF f 27 (iv ho)) 28 (iv x)) 29 (iv ec)) 30 (iv x)))]) (by simp only [List.set]; rw [uF_same (k := 30)]) ?_
                      refine S_iconst X dX12_set_138 ?_
                      exact S_zret X (Or.inr rfl) (nle rfl) (nle rfl) dX12_set_139 (hPo _ _ ((by exfalso; omega)))
                  ·
                    refine S_iload_n X dX12_set_110 rfl rfl ?_
                    refine S_goto (tgt := 118) X dX12_set_111 (by decide) ?_
                    refine S_put X fpX12_287_11 0 rfl FT_i dX12_set_118 ?_
                    refine S_w (ws' := [(h0, ob 11 (uF (uF (uF (uF f 27 (iv ho)) 28 (iv x)) 29 (iv x)) 30 (iv lim)))]) (by simp only [List.set]; rw [uF_mv (j := 30) (k := 29) (by decide), uF_same (k := 29)]) ?_
                    refine S_aload_n X dX12_set_121 rfl rfl ?_
                    refine S_iload_n X dX12_set_122 rfl rfl ?_
                    refine S_iconst X dX12_set_123 ?_
                    refine S_icmp_ne (tgt := 131) X dX12_set_124 (by decide) (by omega) (by decide) (fun c_275 => ?_) (fun c_275 => ?_)
                    ·
                      refine S_aload_n X dX12_set_131 rfl rfl ?_
                      refine S_get (v := iv lim) X fgX12_59_11 0 rfl rfl dX12_set_132 ?_
                      refine S_put X fpX12_59_11 0 rfl FT_i dX12_set_135 ?_
                      refine S_w (ws' := [(h0, ob 11 (uF (uF (uF (uF f 27 (iv ho)) 28 (iv x)) 29 (iv x)) 30 (iv lim)))]) (by simp only [List.set]; rw [uF_same (k := 30)]) ?_
                      refine S_iconst X dX12_set_138 ?_
                      exact S_zret X (Or.inr rfl) (nle rfl) (nle rfl) dX12_set_139 (hPo _ _ ((by exfalso; omega)))
                    ·
                      refine S_iload_n X dX12_set_127 rfl rfl ?_
                      refine S_goto (tgt := 135) X dX12_set_128 (by decide) ?_
                      refine S_put X fpX12_59_11 0 rfl FT_i dX12_set_135 ?_
                      refine S_w (ws' := [(h0, ob 11 (uF (uF (uF (uF f 27 (iv ho)) 28 (iv x)) 29 (iv x)) 30 (iv x)))]) (by simp only [List.set]; rw [uF_same (k := 30)]) ?_
                      refine S_iconst X dX12_set_138 ?_
                      exact S_zret X (Or.inr rfl) (nle rfl) (nle rfl) dX12_set_139 (hPo _ _ ((by exfalso; omega)))
              ·
                refine S_iload_n X dX12_set_76 rfl rfl ?_
                refine S_goto (tgt := 84) X dX12_set_77 (by decide) ?_
                refine S_put X fpX12_52_11 0 rfl FT_i dX12_set_84 ?_
                refine S_w (ws' := [(h0, ob 11 (uF (uF (uF (uF f 27 (iv x)) 28 (iv n)) 29 (iv ec)) 30 (iv lim)))]) (by simp only [List.set]; rw [uF_mv (j := 30) (k := 27) (by decide), uF_mv (j := 29) (k := 27) (by decide), uF_mv (j := 28) (k := 27) (by decide), uF_same (k := 27)]) ?_
                refine S_aload_n X dX12_set_87 rfl rfl ?_
                refine S_iload_n X dX12_set_88 rfl rfl ?_
                refine S_iconst X dX12_set_89 ?_
                refine S_icmp_ne (tgt := 97) X dX12_set_90 (by decide) (by omega) (by decide) (fun c_276 => ?_) (fun c_276 => ?_)
                ·
                  refine S_aload_n X dX12_set_97 rfl rfl ?_
                  refine S_get (v := iv n) X fgX12_56_11 0 rfl rfl dX12_set_98 ?_
                  refine S_put X fpX12_56_11 0 rfl FT_i dX12_set_101 ?_
                  refine S_w (ws' := [(h0, ob 11 (uF (uF (uF (uF f 27 (iv x)) 28 (iv n)) 29 (iv ec)) 30 (iv lim)))]) (by simp only [List.set]; rw [uF_mv (j := 30) (k := 28) (by decide), uF_mv (j := 29) (k := 28) (by decide), uF_same (k := 28)]) ?_
                  refine S_aload_n X dX12_set_104 rfl rfl ?_
                  refine S_iload_n X dX12_set_105 rfl rfl ?_
                  refine S_iconst X dX12_set_106 ?_
                  refine S_icmp_ne (tgt := 114) X dX12_set_107 (by decide) (by omega) (by decide) (fun c_277 => ?_) (fun c_277 => ?_)
                  ·
                    refine S_aload_n X dX12_set_114 rfl rfl ?_
                    refine S_get (v := iv ec) X fgX12_287_11 0 rfl rfl dX12_set_115 ?_
                    refine S_put X fpX12_287_11 0 rfl FT_i dX12_set_118 ?_
                    refine S_w (ws' := [(h0, ob 11 (uF (uF (uF (uF f 27 (iv x)) 28 (iv n)) 29 (iv ec)) 30 (iv lim)))]) (by simp only [List.set]; rw [uF_mv (j := 30) (k := 29) (by decide), uF_same (k := 29)]) ?_
                    refine S_aload_n X dX12_set_121 rfl rfl ?_
                    refine S_iload_n X dX12_set_122 rfl rfl ?_
                    refine S_iconst X dX12_set_123 ?_
                    refine S_icmp_ne (tgt := 131) X dX12_set_124 (by decide) (by omega) (by decide) (fun c_278 => ?_) (fun c_278 => ?_)
                    ·
                      refine S_aload_n X dX12_set_131 rfl rfl ?_
                      refine S_get (v := iv lim) X fgX12_59_11 0 rfl rfl dX12_set_132 ?_
                      refine S_put X fpX12_59_11 0 rfl FT_i dX12_set_135 ?_
                      refine S_w (ws' := [(h0, ob 11 (uF (uF (uF (uF f 27 (iv x)) 28 (iv n)) 29 (iv ec)) 30 (iv lim)))]) (by simp only [List.set]; rw [uF_same (k := 30)]) ?_
                      refine S_iconst X dX12_set_138 ?_
                      exact S_zret X (Or.inr rfl) (nle rfl) (nle rfl) dX12_set_139 (hPo _ _ (Or.inr (Or.inl (⟨rfl, rfl, by omega⟩))))
                    ·
                      refine S_iload_n X dX12_set_127 rfl rfl ?_
                      refine S_goto (tgt := 135) X dX12_set_128 (by decide) ?_
                      refine S_put X fpX12_59_11 0 rfl FT_i dX12_set_135 ?_
                      refine S_w (ws' := [(h0, ob 11 (uF (uF (uF (uF f 27 (iv x)) 28 (iv n)) 29 (iv ec)) 30 (iv x)))]) (by simp only [List.set]; rw [uF_same (k := 30)]) ?_
                      refine S_iconst X dX12_set_138 ?_
                      exact S_zret X (Or.inr rfl) (nle rfl) (nle rfl) dX12_set_139 (hPo _ _ ((by exfalso; omega)))
                  ·
                    refine S_iload_n X dX12_set_110 rfl rfl ?_
                    refine S_goto (tgt := 118) X dX12_set_111 (by decide) ?_
                    refine S_put X fpX12_287_11 0 rfl FT_i dX12_set_118 ?_
                    refine S_w (ws' := [(h0, ob 11 (uF (uF (uF (uF f 27 (iv x)) 28 (iv n)) 29 (iv x)) 30 (iv lim)))]) (by simp only [List.set]; rw [uF_mv (j := 30) (k := 29) (by decide), uF_same (k := 29)]) ?_
                    refine S_aload_n X dX12_set_121 rfl rfl ?_
                    refine S_iload_n X dX12_set_122 rfl rfl ?_
                    refine S_iconst X dX12_set_123 ?_
                    refine S_icmp_ne (tgt := 131) X dX12_set_124 (by decide) (by omega) (by decide) (fun c_279 => ?_) (fun c_279 => ?_)
                    ·
                      refine S_aload_n X dX12_set_131 rfl rfl ?_
                      refine S_get (v := iv lim) X fgX12_59_11 0 rfl rfl dX12_set_132 ?_
                      refine S_put X fpX12_59_11 0 rfl FT_i dX12_set_135 ?_
                      refine S_w (ws' := [(h0, ob 11 (uF (uF (uF (uF f 27 (iv x)) 28 (iv n)) 29 (iv x)) 30 (iv lim)))]) (by simp only [List.set]; rw [uF_same (k := 30)]) ?_
                      refine S_iconst X dX12_set_138 ?_
                      exact S_zret X (Or.inr rfl) (nle rfl) (nle rfl) dX12_set_139 (hPo _ _ ((by exfalso; omega)))
                    ·
                      refine S_iload_n X dX12_set_127 rfl rfl ?_
                      refine S_goto (tgt := 135) X dX12_set_128 (by decide) ?_
                      refine S_put X fpX12_59_11 0 rfl FT_i dX12_set_135 ?_
                      refine S_w (ws' := [(h0, ob 11 (uF (uF (uF (uF f 27 (iv x)) 28 (iv n)) 29 (iv x)) 30 (iv x)))]) (by simp only [List.set]; rw [uF_same (k := 30)]) ?_
                      refine S_iconst X dX12_set_138 ?_
                      exact S_zret X (Or.inr rfl) (nle rfl) (nle rfl) dX12_set_139 (hPo _ _ ((by exfalso; omega)))
                ·
                  refine S_iload_n X dX12_set_93 rfl rfl ?_
                  refine S_goto (tgt := 101) X dX12_set_94 (by decide) ?_
                  refine S_put X fpX12_56_11 0 rfl FT_i dX12_set_101 ?_
                  refine S_w (ws' := [(h0, ob 11 (uF (uF (uF (uF f 27 (iv x)) 28 (iv x)) 29 (iv ec)) 30 (iv lim)))]) (by simp only [List.set]; rw [uF_mv (j := 30) (k := 28) (by decide), uF_mv (j := 29) (k := 28) (by decide), uF_same (k := 28)]) ?_
                  refine S_aload_n X dX12_set_104 rfl rfl ?_
                  refine S_iload_n X dX12_set_105 rfl rfl ?_
                  refine S_iconst X dX12_set_106 ?_
                  refine S_icmp_ne (tgt := 114) X dX12_set_107 (by decide) (by omega) (by decide) (fun c_280 => ?_) (fun c_280 => ?_)
                  ·
                    refine S_aload_n X dX12_set_114 rfl rfl ?_
                    refine S_get (v := iv ec) X fgX12_287_11 0 rfl rfl dX12_set_115 ?_
                    refine S_put X fpX12_287_11 0 rfl FT_i dX12_set_118 ?_
                    refine S_w (ws' := [(h0, ob 11 (uF (uF (uF (uF f 27 (iv x)) 28 (iv x)) 29 (iv ec)) 30 (iv lim)))]) (by simp only [List.set]; rw [uF_mv (j := 30) (k := 29) (by decide), uF_same (k := 29)]) ?_
                    refine S_aload_n X dX12_set_121 rfl rfl ?_
                    refine S_iload_n X dX12_set_122 rfl rfl ?_
                    refine S_iconst X dX12_set_123 ?_
                    refine S_icmp_ne (tgt := 131) X dX12_set_124 (by decide) (by omega) (by decide) (fun c_281 => ?_) (fun c_281 => ?_)
                    ·
                      refine S_aload_n X dX12_set_131 rfl rfl ?_
                      refine S_get (v := iv lim) X fgX12_59_11 0 rfl rfl dX12_set_132 ?_
                      refine S_put X fpX12_59_11 0 rfl FT_i dX12_set_135 ?_
                      refine S_w (ws' := [(h0, ob 11 (uF (uF (uF (uF f 27 (iv x)) 28 (iv x)) 29 (iv ec)) 30 (iv lim)))]) (by simp only [List.set]; rw [uF_same (k := 30)]) ?_
                      refine S_iconst X dX12_set_138 ?_
                      exact S_zret X (Or.inr rfl) (nle rfl) (nle rfl) dX12_set_139 (hPo _ _ ((by exfalso; omega)))
                    ·
                      refine S_iload_n X dX12_set_127 rfl rfl ?_
                      refine S_goto (tgt := 135) X dX12_set_128 (by decide) ?_
                      refine S_put X fpX12_59_11 0 rfl FT_i dX12_set_135 ?_
                      refine S_w (ws' := [(h0, ob 11 (uF (uF (uF (uF f 27 (iv x)) 28 (iv x)) 29 (iv ec)) 30 (iv x)))]) (by simp only [List.set]; rw [uF_same (k := 30)]) ?_
                      refine S_iconst X dX12_set_138 ?_
                      exact S_zret X (Or.inr rfl) (nle rfl) (nle rfl) dX12_set_139 (hPo _ _ ((by exfalso; omega)))
                  ·
                    refine S_iload_n X dX12_set_110 rfl rfl ?_
                    refine S_goto (tgt := 118) X dX12_set_111 (by decide) ?_
                    refine S_put X fpX12_287_11 0 rfl FT_i dX12_set_118 ?_
                    refine S_w (ws' := [(h0, ob 11 (uF (uF (uF (uF f 27 (iv x)) 28 (iv x)) 29 (iv x)) 30 (iv lim)))]) (by simp only [List.set]; rw [uF_mv (j := 30) (k := 29) (by decide), uF_same (k := 29)]) ?_
                    refine S_aload_n X dX12_set_121 rfl rfl ?_
                    refine S_iload_n X dX12_set_122 rfl rfl ?_
                    refine S_iconst X dX12_set_123 ?_
                    refine S_icmp_ne (tgt := 131) X dX12_set_124 (by decide) (by omega) (by decide) (fun c_282 => ?_) (fun c_282 => ?_)
                    ·
                      refine S_aload_n X dX12_set_131 rfl rfl ?_
                      refine S_get (v := iv lim) X fgX12_59_11 0 rfl rfl dX12_set_132 ?_
                      refine S_put X fpX12_59_11 0 rfl FT_i dX12_set_135 ?_
                      refine S_w (ws' := [(h0, ob 11 (uF (uF (uF (uF f 27 (iv x)) 28 (iv x)) 29 (iv x)) 30 (iv lim)))]) (by simp only [List.set]; rw [uF_same (k := 30)]) ?_
                      refine S_iconst X dX12_set_138 ?_
                      exact S_zret X (Or.inr rfl) (nle rfl) (nle rfl) dX12_set_139 (hPo _ _ ((by exfalso; omega)))
                    ·
                      refine S_iload_n X dX12_set_127 rfl rfl ?_
                      refine S_goto (tgt := 135) X dX12_set_128 (by decide) ?_
                      refine S_put X fpX12_59_11 0 rfl FT_i dX12_set_135 ?_
                      refine S_w (ws' := [(h0, ob 11 (uF (uF (uF (uF f 27 (iv x)) 28 (iv x)) 29 (iv x)) 30 (iv x)))]) (by simp only [List.set]; rw [uF_same (k := 30)]) ?_
                      refine S_iconst X dX12_set_138 ?_
                      exact S_zret X (Or.inr rfl) (nle rfl) (nle rfl) dX12_set_139 (hPo _ _ ((by exfalso; omega)))
        ·
          refine S_bipush X dX12_set_46 rfl ?_
          refine S_goto (tgt := 63) X dX12_set_48 (by decide) ?_
          refine S_calli X (kX12_in l x (-1) 30 (by omega) (by omega) (by omega)) (is := []) rfl (run_S X lkX12_216 (is := []) (avs := [iv x, iv (-1), iv 30]) (rest := []) rfl rfl (nle rfl) ⟨nle rfl, nle rfl⟩ ⟨nle rfl, nle rfl⟩ dX12_set_63 (by decide) rfl) (fun z_285 u_283 hp_284 => ?_)
          rcases hp_284 with ⟨hz_286, hu_287, hq_288⟩ | ⟨hz_289, hu_290, hq_291⟩
          ·
            subst hz_286
            subst hu_287
            refine ⟨rfl, ?_⟩
            refine S_w (ws' := [(h0, ob 11 (uF (uF (uF (uF f 27 (iv ho)) 28 (iv n)) 29 (iv ec)) 30 (iv lim)))]) rfl ?_
            refine S_if_ne (tgt := 71) X dX12_set_66 (by decide) (by decide) (fun h9 => absurd h9 (by decide)) (fun _ => ?_)
            refine S_iconst X dX12_set_69 ?_
            exact S_zret X (Or.inl rfl) (nle rfl) (nle rfl) dX12_set_70 (hPo _ _ (Or.inl ⟨rfl, rfl, by omega⟩))
          ·
            subst hz_289
            subst hu_290
            refine ⟨rfl, ?_⟩
            refine S_w (ws' := [(h0, ob 11 (uF (uF (uF (uF f 27 (iv ho)) 28 (iv n)) 29 (iv ec)) 30 (iv lim)))]) rfl ?_
            refine S_if_ne (tgt := 71) X dX12_set_66 (by decide) (by decide) (fun _ => ?_) (fun h9 => absurd h9 (by decide))
            refine S_aload_n X dX12_set_71 rfl rfl ?_
            refine S_iload_n X dX12_set_72 rfl rfl ?_
            refine S_if_ne (tgt := 80) X dX12_set_73 (by decide) (by omega) (fun c_294 => ?_) (fun c_294 => ?_)
            ·
              refine S_aload_n X dX12_set_80 rfl rfl ?_
              refine S_get (v := iv ho) X fgX12_52_11 0 rfl rfl dX12_set_81 ?_
              refine S_put X fpX12_52_11 0 rfl FT_i dX12_set_84 ?_
              refine S_w (ws' := [(h0, ob 11 (uF (uF (uF (uF f 27 (iv ho)) 28 (iv n)) 29 (iv ec)) 30 (iv lim)))]) (by simp only [List.set]; rw [uF_mv (j := 30) (k := 27) (by decide), uF_mv (j := 29) (k := 27) (by decide), uF_mv (j := 28) (k := 27) (by decide), uF_same (k := 27)]) ?_
              refine S_aload_n X dX12_set_87 rfl rfl ?_
              refine S_iload_n X dX12_set_88 rfl rfl ?_
              refine S_iconst X dX12_set_89 ?_
              refine S_icmp_ne (tgt := 97) X dX12_set_90 (by decide) (by omega) (by decide) (fun c_295 => ?_) (fun c_295 => ?_)
              ·
                refine S_aload_n X dX12_set_97 rfl rfl ?_
                refine S_get (v := iv n) X fgX12_56_11 0 rfl rfl dX12_set_98 ?_
                refine S_put X fpX12_56_11 0 rfl FT_i dX12_set_101 ?_
                refine S_w (ws' := [(h0, ob 11 (uF (uF (uF (uF f 27 (iv ho)) 28 (iv n)) 29 (iv ec)) 30 (iv lim)))]) (by simp only [List.set]; rw [uF_mv (j := 30) (k := 28) (by decide), uF_mv (j := 29) (k := 28) (by decide), uF_same (k := 28)]) ?_
                refine S_aload_n X dX12_set_104 rfl rfl ?_
                refine S_iload_n X dX12_set_105 rfl rfl ?_
                refine S_iconst X dX12_set_106 ?_
                refine S_icmp_ne (tgt := 114) X dX12_set_107 (by decide) (by omega) (by decide) (fun c_296 => ?_) (fun c_296 => ?_)
                ·
                  refine S_aload_n X dX12_set_114 rfl rfl ?_
                  refine S_get (v := iv ec) X fgX12_287_11 0 rfl rfl dX12_set_115 ?_
                  refine S_put X fpX12_287_11 0 rfl FT_i dX12_set_118 ?_
                  refine S_w (ws' := [(h0, ob 11 (uF (uF (uF (uF f 27 (iv ho)) 28 (iv n)) 29 (iv ec)) 30 (iv lim)))]) (by simp only [List.set]; rw [uF_mv (j := 30) (k := 29) (by decide), uF_same (k := 29)]) ?_
                  refine S_aload_n X dX12_set_121 rfl rfl ?_
                  refine S_iload_n X dX12_set_122 rfl rfl ?_
                  refine S_iconst X dX12_set_123 ?_
                  refine S_icmp_ne (tgt := 131) X dX12_set_124 (by decide) (by omega) (by decide) (fun c_297 => ?_) (fun c_297 => ?_)
                  ·
                    refine S_aload_n X dX12_set_131 rfl rfl ?_
                    refine S_get (v := iv lim) X fgX12_59_11 0 rfl rfl dX12_set_132 ?_
                    refine S_put X fpX12_59_11 0 rfl FT_i dX12_set_135 ?_
                    refine S_w (ws' := [(h0, ob 11 (uF (uF (uF (uF f 27 (iv ho)) 28 (iv n)) 29 (iv ec)) 30 (iv lim)))]) (by simp only [List.set]; rw [uF_same (k := 30)]) ?_
                    refine S_iconst X dX12_set_138 ?_
                    exact S_zret X (Or.inr rfl) (nle rfl) (nle rfl) dX12_set_139 (hPo _ _ ((by exfalso; omega)))
                  ·
                    refine S_iload_n X dX12_set_127 rfl rfl ?_
                    refine S_goto (tgt := 135) X dX12_set_128 (by decide) ?_
                    refine S_put X fpX12_59_11 0 rfl FT_i dX12_set_135 ?_
                    refine S_w (ws' := [(h0, ob 11 (uF (uF (uF (uF f 27 (iv ho)) 28 (iv n)) 29 (iv ec)) 30 (iv x)))]) (by simp only [List.set]; rw [uF_same (k := 30)]) ?_
                    refine S_iconst X dX12_set_138 ?_
                    exact S_zret X (Or.inr rfl) (nle rfl) (nle rfl) dX12_set_139 (hPo _ _ (Or.inr (Or.inr (Or.inr (Or.inr (⟨rfl, rfl, by omega⟩))))))
                ·
                  refine S_iload_n X dX12_set_110 rfl rfl ?_
                  refine S_goto (tgt := 118) X dX12_set_111 (by decide) ?_
                  refine S_put X fpX12_287_11 0 rfl FT_i dX12_set_118 ?_
                  refine S_w (ws' := [(h0, ob 11 (uF (uF (uF (uF f 27 (iv ho)) 28 (iv n)) 29 (iv x)) 30 (iv lim)))]) (by simp only [List.set]; rw [uF_mv (j := 30) (k := 29) (by decide), uF_same (k := 29)]) ?_
                  refine S_aload_n X dX12_set_121 rfl rfl ?_
                  refine S_iload_n X dX12_set_122 rfl rfl ?_
                  refine S_iconst X dX12_set_123 ?_
                  refine S_icmp_ne (tgt := 131) X dX12_set_124 (by decide) (by omega) (by decide) (fun c_298 => ?_) (fun c_298 => ?_)
                  ·
                    refine S_aload_n X dX12_set_131 rfl rfl ?_
                    refine S_get (v := iv lim) X fgX12_59_11 0 rfl rfl dX12_set_132 ?_
                    refine S_put X fpX12_59_11 0 rfl FT_i dX12_set_135 ?_
                    refine S_w (ws' := [(h0, ob 11 (uF (uF (uF (uF f 27 (iv ho)) 28 (iv n)) 29 (iv x)) 30 (iv lim)))]) (by simp only [List.set]; rw [uF_same (k := 30)]) ?_
                    refine S_iconst X dX12_set_138 ?_
                    exact S_zret X (Or.inr rfl) (nle rfl) (nle rfl) dX12_set_139 (hPo _ _ (Or.inr (Or.inr (Or.inr (Or.inl (⟨rfl, rfl, by omega⟩))))))
                  ·
                    refine S_iload_n X dX12_set_127 rfl rfl ?_
                    refine S_goto (tgt := 135) X dX12_set_128 (by decide) ?_
                    refine S_put X fpX12_59_11 0 rfl FT_i dX12_set_135 ?_
                    refine S_w (ws' := [(h0, ob 11 (uF (uF (uF (uF f 27 (iv ho)) 28 (iv n)) 29 (iv x)) 30 (iv x)))]) (by simp only [List.set]; rw [uF_same (k := 30)]) ?_
                    refine S_iconst X dX12_set_138 ?_
                    exact S_zret X (Or.inr rfl) (nle rfl) (nle rfl) dX12_set_139 (hPo _ _ ((by exfalso; omega)))
              ·
                refine S_iload_n X dX12_set_93 rfl rfl ?_
                refine S_goto (tgt := 101) X dX12_set_94 (by decide) ?_
                refine S_put X fpX12_56_11 0 rfl FT_i dX12_set_101 ?_
                refine S_w (ws' := [(h0, ob 11 (uF (uF (uF (uF f 27 (iv ho)) 28 (iv x)) 29 (iv ec)) 30 (iv lim)))]) (by simp only [List.set]; rw [uF_mv (j := 30) (k := 28) (by decide), uF_mv (j := 29) (k := 28) (by decide), uF_same (k := 28)]) ?_
                refine S_aload_n X dX12_set_104 rfl rfl ?_
                refine S_iload_n X dX12_set_105 rfl rfl ?_
                refine S_iconst X dX12_set_106 ?_
                refine S_icmp_ne (tgt := 114) X dX12_set_107 (by decide) (by omega) (by decide) (fun c_299 => ?_) (fun c_299 => ?_)
                ·
                  refine S_aload_n X dX12_set_114 rfl rfl ?_
                  refine S_get (v := iv ec) X fgX12_287_11 0 rfl rfl dX12_set_115 ?_
                  refine S_put X fpX12_287_11 0 rfl FT_i dX12_set_118 ?_
                  refine S_w (ws' := [(h0, ob 11 (uF (uF (uF (uF f 27 (iv ho)) 28 (iv x)) 29 (iv ec)) 30 (iv lim)))]) (by simp only [List.set]; rw [uF_mv (j := 30) (k := 29) (by decide), uF_same (k := 29)]) ?_
                  refine S_aload_n X dX12_set_121 rfl rfl ?_
                  refine S_iload_n X dX12_set_122 rfl rfl ?_
                  refine S_iconst X dX12_set_123 ?_
                  refine S_icmp_ne (tgt := 131) X dX12_set_124 (by decide) (by omega) (by decide) (fun c_300 => ?_) (fun c_300 => ?_)
                  ·
                    refine S_aload_n X dX12_set_131 rfl rfl ?_
                    refine S_get (v := iv lim) X fgX12_59_11 0 rfl rfl dX12_set_132 ?_
                    refine S_put X fpX12_59_11 0 rfl FT_i dX12_set_135 ?_
                    refine S_w (ws' := [(h0, ob 11 (uF (uF (uF (uF f 27 (iv ho)) 28 (iv x)) 29 (iv ec)) 30 (iv lim)))]) (by simp only [List.set]; rw [uF_same (k := 30)]) ?_
                    refine S_iconst X dX12_set_138 ?_
                    exact S_zret X (Or.inr rfl) (nle rfl) (nle rfl) dX12_set_139 (hPo _ _ (Or.inr (Or.inr (Or.inl (⟨rfl, rfl, by omega⟩)))))
                  ·
                    refine S_iload_n X dX12_set_127 rfl rfl ?_
                    refine S_goto (tgt := 135) X dX12_set_128 (by decide) ?_
                    refine S_put X fpX12_59_11 0 rfl FT_i dX12_set_135 ?_
                    refine S_w (ws' := [(h0, ob 11 (uF (uF (uF (uF f 27 (iv ho)) 28 (iv x)) 29 (iv ec)) 30 (iv x)))]) (by simp only [List.set]; rw [uF_same (k := 30)]) ?_
                    refine S_iconst X dX12_set_138 ?_
                    exact S_zret X (Or.inr rfl) (nle rfl) (nle rfl) dX12_set_139 (hPo _ _ ((by exfalso; omega)))
                ·
                  refine S_iload_n X dX12_set_110 rfl rfl ?_
                  refine S_goto (tgt := 118) X dX12_set_111 (by decide) ?_
                  refine S_put X fpX12_287_11 0 rfl FT_i dX12_set_118 ?_
                  refine S_w (ws' := [(h0, ob 11 (uF (uF (uF (uF f 27 (iv ho)) 28 (iv x)) 29 (iv x)) 30 (iv lim)))]) (by simp only [List.set]; rw [uF_mv (j := 30) (k := 29) (by decide), uF_same (k := 29)]) ?_
                  refine S_aload_n X dX12_set_121 rfl rfl ?_
                  refine S_iload_n X dX12_set_122 rfl rfl ?_
                  refine S_iconst X dX12_set_123 ?_
                  refine S_icmp_ne (tgt := 131) X dX12_set_124 (by decide) (by omega) (by decide) (fun c_301 => ?_) (fun c_301 => ?_)
                  ·
                    refine S_aload_n X dX12_set_131 rfl rfl ?_
                    refine S_get (v := iv lim) X fgX12_59_11 0 rfl rfl dX12_set_132 ?_
                    refine S_put X fpX12_59_11 0 rfl FT_i dX12_set_135 ?_
                    refine S_w (ws' := [(h0, ob 11 (uF (uF (uF (uF f 27 (iv ho)) 28 (iv x)) 29 (iv x)) 30 (iv lim)))]) (by simp only [List.set]; rw [uF_same (k := 30)]) ?_
                    refine S_iconst X dX12_set_138 ?_
                    exact S_zret X (Or.inr rfl) (nle rfl) (nle rfl) dX12_set_139 (hPo _ _ ((by exfalso; omega)))
                  ·
                    refine S_iload_n X dX12_set_127 rfl rfl ?_
                    refine S_goto (tgt := 135) X dX12_set_128 (by decide) ?_
                    refine S_put X fpX12_59_11 0 rfl FT_i dX12_set_135 ?_
                    refine S_w (ws' := [(h0, ob 11 (uF (uF (uF (uF f 27 (iv ho)) 28 (iv x)) 29 (iv x)) 30 (iv x)))]) (by simp only [List.set]; rw [uF_same (k := 30)]) ?_
                    refine S_iconst X dX12_set_138 ?_
                    exact S_zret X (Or.inr rfl) (nle rfl) (nle rfl) dX12_set_139 (hPo _ _ ((by exfalso; omega)))
            ·
              refine S_iload_n X dX12_set_76 rfl rfl ?_
              refine S_goto (tgt := 84) X dX12_set_77 (by decide) ?_
              refine S_put X fpX12_52_11 0 rfl FT_i dX12_set_84 ?_
              refine S_w (ws' := [(h0, ob 11 (uF (uF (uF (uF f 27 (iv x)) 28 (iv n)) 29 (iv ec)) 30 (iv lim)))]) (by simp only [List.set]; rw [uF_mv (j := 30) (k := 27) (by decide), uF_mv (j := 29) (k := 27) (by decide), uF_mv (j := 28) (k := 27) (by decide), uF_same (k := 27)]) ?_
              refine S_aload_n X dX12_set_87 rfl rfl ?_
              refine S_iload_n X dX12_set_88 rfl rfl ?_
              refine S_iconst X dX12_set_89 ?_
              refine S_icmp_ne (tgt := 97) X dX12_set_90 (by decide) (by omega) (by decide) (fun c_302 => ?_) (fun c_302 => ?_)
              ·
                refine S_aload_n X dX12_set_97 rfl rfl ?_
                refine S_get (v := iv n) X fgX12_56_11 0 rfl rfl dX12_set_98 ?_
                refine S_put X fpX12_56_11 0 rfl FT_i dX12_set_101 ?_
                refine S_w (ws' := [(h0, ob 11 (uF (uF (uF (uF f 27 (iv x)) 28 (iv n)) 29 (iv ec)) 30 (iv lim)))]) (by simp only [List.set]; rw [uF_mv (j := 30) (k := 28) (by decide), uF_mv (j := 29) (k := 28) (by decide), uF_same (k := 28)]) ?_
                refine S_aload_n X dX12_set_104 rfl rfl ?_
                refine S_iload_n X dX12_set_105 rfl rfl ?_
                refine S_iconst X dX12_set_106 ?_
                refine S_icmp_ne (tgt := 114) X dX12_set_107 (by decide) (by omega) (by decide) (fun c_303 => ?_) (fun c_303 => ?_)
                ·
                  refine S_aload_n X dX12_set_114 rfl rfl ?_
                  refine S_get (v := iv ec) X fgX12_287_11 0 rfl rfl dX12_set_115 ?_
                  refine S_put X fpX12_287_11 0 rfl FT_i dX12_set_118 ?_
                  refine S_w (ws' := [(h0, ob 11 (uF (uF (uF (uF f 27 (iv x)) 28 (iv n)) 29 (iv ec)) 30 (iv lim)))]) (by simp only [List.set]; rw [uF_mv (j := 30) (k := 29) (by decide), uF_same (k := 29)]) ?_
                  refine S_aload_n X dX12_set_121 rfl rfl ?_
                  refine S_iload_n X dX12_set_122 rfl rfl ?_
                  refine S_iconst X dX12_set_123 ?_
                  refine S_icmp_ne (tgt := 131) X dX12_set_124 (by decide) (by omega) (by decide) (fun c_304 => ?_) (fun c_304 => ?_)
                  ·
                    refine S_aload_n X dX12_set_131 rfl rfl ?_
                    refine S_get (v := iv lim) X fgX12_59_11 0 rfl rfl dX12_set_132 ?_
                    refine S_put X fpX12_59_11 0 rfl FT_i dX12_set_135 ?_
                    refine S_w (ws' := [(h0, ob 11 (uF (uF (uF (uF f 27 (iv x)) 28 (iv n)) 29 (iv ec)) 30 (iv lim)))]) (by simp only [List.set]; rw [uF_same (k := 30)]) ?_
                    refine S_iconst X dX12_set_138 ?_
                    exact S_zret X (Or.inr rfl) (nle rfl) (nle rfl) dX12_set_139 (hPo _ _ (Or.inr (Or.inl (⟨rfl, rfl, by omega⟩))))
                  ·
                    refine S_iload_n X dX12_set_127 rfl rfl ?_
                    refine S_goto (tgt := 135) X dX12_set_128 (by decide) ?_
                    refine S_put X fpX12_59_11 0 rfl FT_i dX12_set_135 ?_
                    refine S_w (ws' := [(h0, ob 11 (uF (uF (uF (uF f 27 (iv x)) 28 (iv n)) 29 (iv ec)) 30 (iv x)))]) (by simp only [List.set]; rw [uF_same (k := 30)]) ?_
                    refine S_iconst X dX12_set_138 ?_
                    exact S_zret X (Or.inr rfl) (nle rfl) (nle rfl) dX12_set_139 (hPo _ _ ((by exfalso; omega)))
                ·
                  refine S_iload_n X dX12_set_110 rfl rfl ?_
                  refine S_goto (tgt := 118) X dX12_set_111 (by decide) ?_
                  refine S_put X fpX12_287_11 0 rfl FT_i dX12_set_118 ?_
                  refine S_w (ws' := [(h0, ob 11 (uF (uF (uF (uF f 27 (iv x)) 28 (iv n)) 29 (iv x)) 30 (iv lim)))]) (by simp only [List.set]; rw [uF_mv (j := 30) (k := 29) (by decide), uF_same (k := 29)]) ?_
                  refine S_aload_n X dX12_set_121 rfl rfl ?_
                  refine S_iload_n X dX12_set_122 rfl rfl ?_
                  refine S_iconst X dX12_set_123 ?_
                  refine S_icmp_ne (tgt := 131) X dX12_set_124 (by decide) (by omega) (by decide) (fun c_305 => ?_) (fun c_305 => ?_)
                  ·
                    refine S_aload_n X dX12_set_131 rfl rfl ?_
                    refine S_get (v := iv lim) X fgX12_59_11 0 rfl rfl dX12_set_132 ?_
                    refine S_put X fpX12_59_11 0 rfl FT_i dX12_set_135 ?_
                    refine S_w (ws' := [(h0, ob 11 (uF (uF (uF (uF f 27 (iv x)) 28 (iv n)) 29 (iv x)) 30 (iv lim)))]) (by simp only [List.set]; rw [uF_same (k := 30)]) ?_
                    refine S_iconst X dX12_set_138 ?_
                    exact S_zret X (Or.inr rfl) (nle rfl) (nle rfl) dX12_set_139 (hPo _ _ ((by exfalso; omega)))
                  ·
                    refine S_iload_n X dX12_set_127 rfl rfl ?_
                    refine S_goto (tgt := 135) X dX12_set_128 (by decide) ?_
                    refine S_put X fpX12_59_11 0 rfl FT_i dX12_set_135 ?_
                    refine S_w (ws' := [(h0, ob 11 (uF (uF (uF (uF f 27 (iv x)) 28 (iv n)) 29 (iv x)) 30 (iv x)))]) (by simp only [List.set]; rw [uF_same (k := 30)]) ?_
                    refine S_iconst X dX12_set_138 ?_
                    exact S_zret X (Or.inr rfl) (nle rfl) (nle rfl) dX12_set_139 (hPo _ _ ((by exfalso; omega)))
              ·
                refine S_iload_n X dX12_set_93 rfl rfl ?_
                refine S_goto (tgt := 101) X dX12_set_94 (by decide) ?_
                refine S_put X fpX12_56_11 0 rfl FT_i dX12_set_101 ?_
                refine S_w (ws' := [(h0, ob 11 (uF (uF (uF (uF f 27 (iv x)) 28 (iv x)) 29 (iv ec)) 30 (iv lim)))]) (by simp only [List.set]; rw [uF_mv (j := 30) (k := 28) (by decide), uF_mv (j := 29) (k := 28) (by decide), uF_same (k := 28)]) ?_
                refine S_aload_n X dX12_set_104 rfl rfl ?_
                refine S_iload_n X dX12_set_105 rfl rfl ?_
                refine S_iconst X dX12_set_106 ?_
                refine S_icmp_ne (tgt := 114) X dX12_set_107 (by decide) (by omega) (by decide) (fun c_306 => ?_) (fun c_306 => ?_)
                ·
                  refine S_aload_n X dX12_set_114 rfl rfl ?_
                  refine S_get (v := iv ec) X fgX12_287_11 0 rfl rfl dX12_set_115 ?_
                  refine S_put X fpX12_287_11 0 rfl FT_i dX12_set_118 ?_
                  refine S_w (ws' := [(h0, ob 11 (uF (uF (uF (uF f 27 (iv x)) 28 (iv x)) 29 (iv ec)) 30 (iv lim)))]) (by simp only [List.set]; rw [uF_mv (j := 30) (k := 29) (by decide), uF_same (k := 29)]) ?_
                  refine S_aload_n X dX12_set_121 rfl rfl ?_
                  refine S_iload_n X dX12_set_122 rfl rfl ?_
                  refine S_iconst X dX12_set_123 ?_
                  refine S_icmp_ne (tgt := 131) X dX12_set_124 (by decide) (by omega) (by decide) (fun c_307 => ?_) (fun c_307 => ?_)
                  ·
                    refine S_aload_n X dX12_set_131 rfl rfl ?_
                    refine S_get (v := iv lim) X fgX12_59_11 0 rfl rfl dX12_set_132 ?_
                    refine S_put X fpX12_59_11 0 rfl FT_i dX12_set_135 ?_
                    refine S_w (ws' := [(h0, ob 11 (uF (uF (uF (uF f 27 (iv x)) 28 (iv x)) 29 (iv ec)) 30 (iv lim)))]) (by simp only [List.set]; rw [uF_same (k := 30)]) ?_
                    refine S_iconst X dX12_set_138 ?_
                    exact S_zret X (Or.inr rfl) (nle rfl) (nle rfl) dX12_set_139 (hPo _ _ ((by exfalso; omega)))
                  ·
                    refine S_iload_n X dX12_set_127 rfl rfl ?_
                    refine S_goto (tgt := 135) X dX12_set_128 (by decide) ?_
                    refine S_put X fpX12_59_11 0 rfl FT_i dX12_set_135 ?_
                    refine S_w (ws' := [(h0, ob 11 (uF (uF (uF (uF f 27 (iv x)) 28 (iv x)) 29 (iv ec)) 30 (iv x)))]) (by simp only [List.set]; rw [uF_same (k := 30)]) ?_
                    refine S_iconst X dX12_set_138 ?_
                    exact S_zret X (Or.inr rfl) (nle rfl) (nle rfl) dX12_set_139 (hPo _ _ ((by exfalso; omega)))
                ·
                  refine S_iload_n X dX12_set_110 rfl rfl ?_
                  refine S_goto (tgt := 118) X dX12_set_111 (by decide) ?_
                  refine S_put X fpX12_287_11 0 rfl FT_i dX12_set_118 ?_
                  refine S_w (ws' := [(h0, ob 11 (uF (uF (uF (uF f 27 (iv x)) 28 (iv x)) 29 (iv x)) 30 (iv lim)))]) (by simp only [List.set]; rw [uF_mv (j := 30) (k := 29) (by decide), uF_same (k := 29)]) ?_
                  refine S_aload_n X dX12_set_121 rfl rfl ?_
                  refine S_iload_n X dX12_set_122 rfl rfl ?_
                  refine S_iconst X dX12_set_123 ?_
                  refine S_icmp_ne (tgt := 131) X dX12_set_124 (by decide) (by omega) (by decide) (fun c_308 => ?_) (fun c_308 => ?_)
                  ·
                    refine S_aload_n X dX12_set_131 rfl rfl ?_
                    refine S_get (v := iv lim) X fgX12_59_11 0 rfl rfl dX12_set_132 ?_
                    refine S_put X fpX12_59_11 0 rfl FT_i dX12_set_135 ?_
                    refine S_w (ws' := [(h0, ob 11 (uF (uF (uF (uF f 27 (iv x)) 28 (iv x)) 29 (iv x)) 30 (iv lim)))]) (by simp only [List.set]; rw [uF_same (k := 30)]) ?_
                    refine S_iconst X dX12_set_138 ?_
                    exact S_zret X (Or.inr rfl) (nle rfl) (nle rfl) dX12_set_139 (hPo _ _ ((by exfalso; omega)))
                  ·
                    refine S_iload_n X dX12_set_127 rfl rfl ?_
                    refine S_goto (tgt := 135) X dX12_set_128 (by decide) ?_
                    refine S_put X fpX12_59_11 0 rfl FT_i dX12_set_135 ?_
                    refine S_w (ws' := [(h0, ob 11 (uF (uF (uF (uF f 27 (iv x)) 28 (iv x)) 29 (iv x)) 30 (iv x)))]) (by simp only [List.set]; rw [uF_same (k := 30)]) ?_
                    refine S_iconst X dX12_set_138 ?_
                    exact S_zret X (Or.inr rfl) (nle rfl) (nle rfl) dX12_set_139 (hPo _ _ ((by exfalso; omega)))
      ·
        refine S_aload_n X dX12_set_32 rfl rfl ?_
        refine S_get X fgX12_278_11 0 rfl hf0 dX12_set_33 ?_
        refine S_iconst X dX12_set_36 ?_
        refine S_isub X dX12_set_37 ?_
        refine S_goto (tgt := 63) X dX12_set_38 (by decide) ?_
        refine S_calli X (kX12_in l x (-1) (lw - 1) (by omega) (by omega) (by omega)) (is := []) rfl (run_S X lkX12_216 (is := []) (avs := [iv x, iv (-1), iv (lw - 1)]) (rest := []) rfl rfl (nle rfl) ⟨nle rfl, nle rfl⟩ ⟨nle rfl, nle rfl⟩ dX12_set_63 (by decide) rfl) (fun z_311 u_309 hp_310 => ?_)
        rcases hp_310 with ⟨hz_312, hu_313, hq_314⟩ | ⟨hz_315, hu_316, hq_317⟩
        ·
          subst hz_312
          subst hu_313
          refine ⟨rfl, ?_⟩
          refine S_w (ws' := [(h0, ob 11 (uF (uF (uF (uF f 27 (iv ho)) 28 (iv n)) 29 (iv ec)) 30 (iv lim)))]) rfl ?_
          refine S_if_ne (tgt := 71) X dX12_set_66 (by decide) (by decide) (fun h9 => absurd h9 (by decide)) (fun _ => ?_)
          refine S_iconst X dX12_set_69 ?_
          exact S_zret X (Or.inl rfl) (nle rfl) (nle rfl) dX12_set_70 (hPo _ _ (Or.inl ⟨rfl, rfl, by omega⟩))
        ·
          subst hz_315
          subst hu_316
          refine ⟨rfl, ?_⟩
          refine S_w (ws' := [(h0, ob 11 (uF (uF (uF (uF f 27 (iv ho)) 28 (iv n)) 29 (iv ec)) 30 (iv lim)))]) rfl ?_
          refine S_if_ne (tgt := 71) X dX12_set_66 (by decide) (by decide) (fun _ => ?_) (fun h9 => absurd h9 (by decide))
          refine S_aload_n X dX12_set_71 rfl rfl ?_
          refine S_iload_n X dX12_set_72 rfl rfl ?_
          refine S_if_ne (tgt := 80) X dX12_set_73 (by decide) (by omega) (fun c_320 => ?_) (fun c_320 => ?_)
          ·
            refine S_aload_n X dX12_set_80 rfl rfl ?_
            refine S_get (v := iv ho) X fgX12_52_11 0 rfl rfl dX12_set_81 ?_
            refine S_put X fpX12_52_11 0 rfl FT_i dX12_set_84 ?_
            refine S_w (ws' := [(h0, ob 11 (uF (uF (uF (uF f 27 (iv ho)) 28 (iv n)) 29 (iv ec)) 30 (iv lim)))]) (by simp only [List.set]; rw [uF_mv (j := 30) (k := 27) (by decide), uF_mv (j := 29) (k := 27) (by decide), uF_mv (j := 28) (k := 27) (by decide), uF_same (k := 27)]) ?_
            refine S_aload_n X dX12_set_87 rfl rfl ?_
            refine S_iload_n X dX12_set_88 rfl rfl ?_
            refine S_iconst X dX12_set_89 ?_
            refine S_icmp_ne (tgt := 97) X dX12_set_90 (by decide) (by omega) (by decide) (fun c_321 => ?_) (fun c_321 => ?_)
            ·
              refine S_aload_n X dX12_set_97 rfl rfl ?_
              refine S_get (v := iv n) X fgX12_56_11 0 rfl rfl dX12_set_98 ?_
              refine S_put X fpX12_56_11 0 rfl FT_i dX12_set_101 ?_
              refine S_w (ws' := [(h0, ob 11 (uF (uF (uF (uF f 27 (iv ho)) 28 (iv n)) 29 (iv ec)) 30 (iv lim)))]) (by simp only [List.set]; rw [uF_mv (j := 30) (k := 28) (by decide), uF_mv (j := 29) (k := 28) (by decide), uF_same (k := 28)]) ?_
              refine S_aload_n X dX12_set_104 rfl rfl ?_
              refine S_iload_n X dX12_set_105 rfl rfl ?_
              refine S_iconst X dX12_set_106 ?_
              refine S_icmp_ne (tgt := 114) X dX12_set_107 (by decide) (by omega) (by decide) (fun c_322 => ?_) (fun c_322 => ?_)
              ·
                refine S_aload_n X dX12_set_114 rfl rfl ?_
                refine S_get (v := iv ec) X fgX12_287_11 0 rfl rfl dX12_set_115 ?_
                refine S_put X fpX12_287_11 0 rfl FT_i dX12_set_118 ?_
                refine S_w (ws' := [(h0, ob 11 (uF (uF (uF (uF f 27 (iv ho)) 28 (iv n)) 29 (iv ec)) 30 (iv lim)))]) (by simp only [List.set]; rw [uF_mv (j := 30) (k := 29) (by decide), uF_same (k := 29)]) ?_
                refine S_aload_n X dX12_set_121 rfl rfl ?_
                refine S_iload_n X dX12_set_122 rfl rfl ?_
                refine S_iconst X dX12_set_123 ?_
                refine S_icmp_ne (tgt := 131) X dX12_set_124 (by decide) (by omega) (by decide) (fun c_323 => ?_) (fun c_323 => ?_)
                ·
                  refine S_aload_n X dX12_set_131 rfl rfl ?_
                  refine S_get (v := iv lim) X fgX12_59_11 0 rfl rfl dX12_set_132 ?_
                  refine S_put X fpX12_59_11 0 rfl FT_i dX12_set_135 ?_
                  refine S_w (ws' := [(h0, ob 11 (uF (uF (uF (uF f 27 (iv ho)) 28 (iv n)) 29 (iv ec)) 30 (iv lim)))]) (by simp only [List.set]; rw [uF_same (k := 30)]) ?_
                  refine S_iconst X dX12_set_138 ?_
                  exact S_zret X (Or.inr rfl) (nle rfl) (nle rfl) dX12_set_139 (hPo _ _ ((by exfalso; omega)))
                ·
                  refine S_iload_n X dX12_set_127 rfl rfl ?_
                  refine S_goto (tgt := 135) X dX12_set_128 (by decide) ?_
                  refine S_put X fpX12_59_11 0 rfl FT_i dX12_set_135 ?_
                  refine S_w (ws' := [(h0, ob 11 (uF (uF (uF (uF f 27 (iv ho)) 28 (iv n)) 29 (iv ec)) 30 (iv x)))]) (by simp only [List.set]; rw [uF_same (k := 30)]) ?_
                  refine S_iconst X dX12_set_138 ?_
                  exact S_zret X (Or.inr rfl) (nle rfl) (nle rfl) dX12_set_139 (hPo _ _ (Or.inr (Or.inr (Or.inr (Or.inr (⟨rfl, rfl, by omega⟩))))))
              ·
                refine S_iload_n X dX12_set_110 rfl rfl ?_
                refine S_goto (tgt := 118) X dX12_set_111 (by decide) ?_
                refine S_put X fpX12_287_11 0 rfl FT_i dX12_set_118 ?_
                refine S_w (ws' := [(h0, ob 11 (uF (uF (uF (uF f 27 (iv ho)) 28 (iv n)) 29 (iv x)) 30 (iv lim)))]) (by simp only [List.set]; rw [uF_mv (j := 30) (k := 29) (by decide), uF_same (k := 29)]) ?_
                refine S_aload_n X dX12_set_121 rfl rfl ?_
                refine S_iload_n X dX12_set_122 rfl rfl ?_
                refine S_iconst X dX12_set_123 ?_
                refine S_icmp_ne (tgt := 131) X dX12_set_124 (by decide) (by omega) (by decide) (fun c_324 => ?_) (fun c_324 => ?_)
                ·
                  refine S_aload_n X dX12_set_131 rfl rfl ?_
                  refine S_get (v := iv lim) X fgX12_59_11 0 rfl rfl dX12_set_132 ?_
                  refine S_put X fpX12_59_11 0 rfl FT_i dX12_set_135 ?_
                  refine S_w (ws' := [(h0, ob 11 (uF (uF (uF (uF f 27 (iv ho)) 28 (iv n)) 29 (iv x)) 30 (iv lim)))]) (by simp only [List.set]; rw [uF_same (k := 30)]) ?_
                  refine S_iconst X dX12_set_138 ?_
                  exact S_zret X (Or.inr rfl) (nle rfl) (nle rfl) dX12_set_139 (hPo _ _ (Or.inr (Or.inr (Or.inr (Or.inl (⟨rfl, rfl, by omega⟩))))))
                ·
                  refine S_iload_n X dX12_set_127 rfl rfl ?_
                  refine S_goto (tgt := 135) X dX12_set_128 (by decide) ?_
                  refine S_put X fpX12_59_11 0 rfl FT_i dX12_set_135 ?_
                  refine S_w (ws' := [(h0, ob 11 (uF (uF (uF (uF f 27 (iv ho)) 28 (iv n)) 29 (iv x)) 30 (iv x)))]) (by simp only [List.set]; rw [uF_same (k := 30)]) ?_
                  refine S_iconst X dX12_set_138 ?_
                  exact S_zret X (Or.inr rfl) (nle rfl) (nle rfl) dX12_set_139 (hPo _ _ ((by exfalso; omega)))
            ·
              refine S_iload_n X dX12_set_93 rfl rfl ?_
              refine S_goto (tgt := 101) X dX12_set_94 (by decide) ?_
              refine S_put X fpX12_56_11 0 rfl FT_i dX12_set_101 ?_
              refine S_w (ws' := [(h0, ob 11 (uF (uF (uF (uF f 27 (iv ho)) 28 (iv x)) 29 (iv ec)) 30 (iv lim)))]) (by simp only [List.set]; rw [uF_mv (j := 30) (k := 28) (by decide), uF_mv (j := 29) (k := 28) (by decide), uF_same (k := 28)]) ?_
              refine S_aload_n X dX12_set_104 rfl rfl ?_
              refine S_iload_n X dX12_set_105 rfl rfl ?_
              refine S_iconst X dX12_set_106 ?_
              refine S_icmp_ne (tgt := 114) X dX12_set_107 (by decide) (by omega) (by decide) (fun c_325 => ?_) (fun c_325 => ?_)
              ·
                refine S_aload_n X dX12_set_114 rfl rfl ?_
                refine S_get (v := iv ec) X fgX12_287_11 0 rfl rfl dX12_set_115 ?_
                refine S_put X fpX12_287_11 0 rfl FT_i dX12_set_118 ?_
                refine S_w (ws' := [(h0, ob 11 (uF (uF (uF (uF f 27 (iv ho)) 28 (iv x)) 29 (iv ec)) 30 (iv lim)))]) (by simp only [List.set]; rw [uF_mv (j := 30) (k := 29) (by decide), uF_same (k := 29)]) ?_
                refine S_aload_n X dX12_set_121 rfl rfl ?_
                refine S_iload_n X dX12_set_122 rfl rfl ?_
                refine S_iconst X dX12_set_123 ?_
                refine S_icmp_ne (tgt := 131) X dX12_set_124 (by decide) (by omega) (by decide) (fun c_326 => ?_) (fun c_326 => ?_)
                ·
                  refine S_aload_n X dX12_set_131 rfl rfl ?_
                  refine S_get (v := iv lim) X fgX12_59_11 0 rfl rfl dX12_set_132 ?_
                  refine S_put X fpX12_59_11 0 rfl FT_i dX12_set_135 ?_
                  refine S_w (ws' := [(h0, ob 11 (uF (uF (uF (uF f 27 (iv ho)) 28 (iv x)) 29 (iv ec)) 30 (iv lim)))]) (by simp only [List.set]; rw [uF_same (k := 30)]) ?_
                  refine S_iconst X dX12_set_138 ?_
                  exact S_zret X (Or.inr rfl) (nle rfl) (nle rfl) dX12_set_139 (hPo _ _ (Or.inr (Or.inr (Or.inl (⟨rfl, rfl, by omega⟩)))))
                ·
                  refine S_iload_n X dX12_set_127 rfl rfl ?_
                  refine S_goto (tgt := 135) X dX12_set_128 (by decide) ?_
                  refine S_put X fpX12_59_11 0 rfl FT_i dX12_set_135 ?_
                  refine S_w (ws' := [(h0, ob 11 (uF (uF (uF (uF f 27 (iv ho)) 28 (iv x)) 29 (iv ec)) 30 (iv x)))]) (by simp only [List.set]; rw [uF_same (k := 30)]) ?_
                  refine S_iconst X dX12_set_138 ?_
                  exact S_zret X (Or.inr rfl) (nle rfl) (nle rfl) dX12_set_139 (hPo _ _ ((by exfalso; omega)))
              ·
                refine S_iload_n X dX12_set_110 rfl rfl ?_
                refine S_goto (tgt := 118) X dX12_set_111 (by decide) ?_
                refine S_put X fpX12_287_11 0 rfl FT_i dX12_set_118 ?_
                refine S_w (ws' := [(h0, ob 11 (uF (uF (uF (uF f 27 (iv ho)) 28 (iv x)) 29 (iv x)) 30 (iv lim)))]) (by simp only [List.set]; rw [uF_mv (j := 30) (k := 29) (by decide), uF_same (k := 29)]) ?_
                refine S_aload_n X dX12_set_121 rfl rfl ?_
                refine S_iload_n X dX12_set_122 rfl rfl ?_
                refine S_iconst X dX12_set_123 ?_
                refine S_icmp_ne (tgt := 131) X dX12_set_124 (by decide) (by omega) (by decide) (fun c_327 => ?_) (fun c_327 => ?_)
                ·
                  refine S_aload_n X dX12_set_131 rfl rfl ?_
                  refine S_get (v := iv lim) X fgX12_59_11 0 rfl rfl dX12_set_132 ?_
                  refine S_put X fpX12_59_11 0 rfl FT_i dX12_set_135 ?_
                  refine S_w (ws' := [(h0, ob 11 (uF (uF (uF (uF f 27 (iv ho)) 28 (iv x)) 29 (iv x)) 30 (iv lim)))]) (by simp only [List.set]; rw [uF_same (k := 30)]) ?_
                  refine S_iconst X dX12_set_138 ?_
                  exact S_zret X (Or.inr rfl) (nle rfl) (nle rfl) dX12_set_139 (hPo _ _ ((by exfalso; omega)))
                ·
                  refine S_iload_n X dX12_set_127 rfl rfl ?_
                  refine S_goto (tgt := 135) X dX12_set_128 (by decide) ?_
                  refine S_put X fpX12_59_11 0 rfl FT_i dX12_set_135 ?_
                  refine S_w (ws' := [(h0, ob 11 (uF (uF (uF (uF f 27 (iv ho)) 28 (iv x)) 29 (iv x)) 30 (iv x)))]) (by simp only [List.set]; rw [uF_same (k := 30)]) ?_
                  refine S_iconst X dX12_set_138 ?_
                  exact S_zret X (Or.inr rfl) (nle rfl) (nle rfl) dX12_set_139 (hPo _ _ ((by exfalso; omega)))
          ·
            refine S_iload_n X dX12_set_76 rfl rfl ?_
            refine S_goto (tgt := 84) X dX12_set_77 (by decide) ?_
            refine S_put X fpX12_52_11 0 rfl FT_i dX12_set_84 ?_
            refine S_w (ws' := [(h0, ob 11 (uF (uF (uF (uF f 27 (iv x)) 28 (iv n)) 29 (iv ec)) 30 (iv lim)))]) (by simp only [List.set]; rw [uF_mv (j := 30) (k := 27) (by decide), uF_mv (j := 29) (k := 27) (by decide), uF_mv (j := 28) (k := 27) (by decide), uF_same (k := 27)]) ?_
            refine S_aload_n X dX12_set_87 rfl rfl ?_
            refine S_iload_n X dX12_set_88 rfl rfl ?_
            refine S_iconst X dX12_set_89 ?_
            refine S_icmp_ne (tgt := 97) X dX12_set_90 (by decide) (by omega) (by decide) (fun c_328 => ?_) (fun c_328 => ?_)
            ·
              refine S_aload_n X dX12_set_97 rfl rfl ?_
              refine S_get (v := iv n) X fgX12_56_11 0 rfl rfl dX12_set_98 ?_
              refine S_put X fpX12_56_11 0 rfl FT_i dX12_set_101 ?_
              refine S_w (ws' := [(h0, ob 11 (uF (uF (uF (uF f 27 (iv x)) 28 (iv n)) 29 (iv ec)) 30 (iv lim)))]) (by simp only [List.set]; rw [uF_mv (j := 30) (k := 28) (by decide), uF_mv (j := 29) (k := 28) (by decide), uF_same (k := 28)]) ?_
              refine S_aload_n X dX12_set_104 rfl rfl ?_
              refine S_iload_n X dX12_set_105 rfl rfl ?_
              refine S_iconst X dX12_set_106 ?_
              refine S_icmp_ne (tgt := 114) X dX12_set_107 (by decide) (by omega) (by decide) (fun c_329 => ?_) (fun c_329 => ?_)
              ·
                refine S_aload_n X dX12_set_114 rfl rfl ?_
                refine S_get (v := iv ec) X fgX12_287_11 0 rfl rfl dX12_set_115 ?_
                refine S_put X fpX12_287_11 0 rfl FT_i dX12_set_118 ?_
                refine S_w (ws' := [(h0, ob 11 (uF (uF (uF (uF f 27 (iv x)) 28 (iv n)) 29 (iv ec)) 30 (iv lim)))]) (by simp only [List.set]; rw [uF_mv (j := 30) (k := 29) (by decide), uF_same (k := 29)]) ?_
                refine S_aload_n X dX12_set_121 rfl rfl ?_
                refine S_iload_n X dX12_set_122 rfl rfl ?_
                refine S_iconst X dX12_set_123 ?_
                refine S_icmp_ne (tgt := 131) X dX12_set_124 (by decide) (by omega) (by decide) (fun c_330 => ?_) (fun c_330 => ?_)
                ·
                  refine S_aload_n X dX12_set_131 rfl rfl ?_
                  refine S_get (v := iv lim) X fgX12_59_11 0 rfl rfl dX12_set_132 ?_
                  refine S_put X fpX12_59_11 0 rfl FT_i dX12_set_135 ?_
                  refine S_w (ws' := [(h0, ob 11 (uF (uF (uF (uF f 27 (iv x)) 28 (iv n)) 29 (iv ec)) 30 (iv lim)))]) (by simp only [List.set]; rw [uF_same (k := 30)]) ?_
                  refine S_iconst X dX12_set_138 ?_
                  exact S_zret X (Or.inr rfl) (nle rfl) (nle rfl) dX12_set_139 (hPo _ _ (Or.inr (Or.inl (⟨rfl, rfl, by omega⟩))))
                ·
                  refine S_iload_n X dX12_set_127 rfl rfl ?_
                  refine S_goto (tgt := 135) X dX12_set_128 (by decide) ?_
                  refine S_put X fpX12_59_11 0 rfl FT_i dX12_set_135 ?_
                  refine S_w (ws' := [(h0, ob 11 (uF (uF (uF (uF f 27 (iv x)) 28 (iv n)) 29 (iv ec)) 30 (iv x)))]) (by simp only [List.set]; rw [uF_same (k := 30)]) ?_
                  refine S_iconst X dX12_set_138 ?_
                  exact S_zret X (Or.inr rfl) (nle rfl) (nle rfl) dX12_set_139 (hPo _ _ ((by exfalso; omega)))
              ·
                refine S_iload_n X dX12_set_110 rfl rfl ?_
                refine S_goto (tgt := 118) X dX12_set_111 (by decide) ?_
                refine S_put X fpX12_287_11 0 rfl FT_i dX12_set_118 ?_
                refine S_w (ws' := [(h0, ob 11 (uF (uF (uF (uF f 27 (iv x)) 28 (iv n)) 29 (iv x)) 30 (iv lim)))]) (by simp only [List.set]; rw [uF_mv (j := 30) (k := 29) (by decide), uF_same (k := 29)]) ?_
                refine S_aload_n X dX12_set_121 rfl rfl ?_
                refine S_iload_n X dX12_set_122 rfl rfl ?_
                refine S_iconst X dX12_set_123 ?_
                refine S_icmp_ne (tgt := 131) X dX12_set_124 (by decide) (by omega) (by decide) (fun c_331 => ?_) (fun c_331 => ?_)
                ·
                  refine S_aload_n X dX12_set_131 rfl rfl ?_
                  refine S_get (v := iv lim) X fgX12_59_11 0 rfl rfl dX12_set_132 ?_
                  refine S_put X fpX12_59_11 0 rfl FT_i dX12_set_135 ?_
                  refine S_w (ws' := [(h0, ob 11 (uF (uF (uF (uF f 27 (iv x)) 28 (iv n)) 29 (iv x)) 30 (iv lim)))]) (by simp only [List.set]; rw [uF_same (k := 30)]) ?_
                  refine S_iconst X dX12_set_138 ?_
                  exact S_zret X (Or.inr rfl) (nle rfl) (nle rfl) dX12_set_139 (hPo _ _ ((by exfalso; omega)))
                ·
                  refine S_iload_n X dX12_set_127 rfl rfl ?_
                  refine S_goto (tgt := 135) X dX12_set_128 (by decide) ?_
                  refine S_put X fpX12_59_11 0 rfl FT_i dX12_set_135 ?_
                  refine S_w (ws' := [(h0, ob 11 (uF (uF (uF (uF f 27 (iv x)) 28 (iv n)) 29 (iv x)) 30 (iv x)))]) (by simp only [List.set]; rw [uF_same (k := 30)]) ?_
                  refine S_iconst X dX12_set_138 ?_
                  exact S_zret X (Or.inr rfl) (nle rfl) (nle rfl) dX12_set_139 (hPo _ _ ((by exfalso; omega)))
            ·
              refine S_iload_n X dX12_set_93 rfl rfl ?_
              refine S_goto (tgt := 101) X dX12_set_94 (by decide) ?_
              refine S_put X fpX12_56_11 0 rfl FT_i dX12_set_101 ?_
              refine S_w (ws' := [(h0, ob 11 (uF (uF (uF (uF f 27 (iv x)) 28 (iv x)) 29 (iv ec)) 30 (iv lim)))]) (by simp only [List.set]; rw [uF_mv (j := 30) (k := 28) (by decide), uF_mv (j := 29) (k := 28) (by decide), uF_same (k := 28)]) ?_
              refine S_aload_n X dX12_set_104 rfl rfl ?_
              refine S_iload_n X dX12_set_105 rfl rfl ?_
              refine S_iconst X dX12_set_106 ?_
              refine S_icmp_ne (tgt := 114) X dX12_set_107 (by decide) (by omega) (by decide) (fun c_332 => ?_) (fun c_332 => ?_)
              ·
                refine S_aload_n X dX12_set_114 rfl rfl ?_
                refine S_get (v := iv ec) X fgX12_287_11 0 rfl rfl dX12_set_115 ?_
                refine S_put X fpX12_287_11 0 rfl FT_i dX12_set_118 ?_
                refine S_w (ws' := [(h0, ob 11 (uF (uF (uF (uF f 27 (iv x)) 28 (iv x)) 29 (iv ec)) 30 (iv lim)))]) (by simp only [List.set]; rw [uF_mv (j := 30) (k := 29) (by decide), uF_same (k := 29)]) ?_
                refine S_aload_n X dX12_set_121 rfl rfl ?_
                refine S_iload_n X dX12_set_122 rfl rfl ?_
                refine S_iconst X dX12_set_123 ?_
                refine S_icmp_ne (tgt := 131) X dX12_set_124 (by decide) (by omega) (by decide) (fun c_333 => ?_) (fun c_333 => ?_)
                ·
                  refine S_aload_n X dX12_set_131 rfl rfl ?_
                  refine S_get (v := iv lim) X fgX12_59_11 0 rfl rfl dX12_set_132 ?_
                  refine S_put X fpX12_59_11 0 rfl FT_i dX12_set_135 ?_
                  refine S_w (ws' := [(h0, ob 11 (uF (uF (uF (uF f 27 (iv x)) 28 (iv x)) 29 (iv ec)) 30 (iv lim)))]) (by simp only [List.set]; rw [uF_same (k := 30)]) ?_
                  refine S_iconst X dX12_set_138 ?_
                  exact S_zret X (Or.inr rfl) (nle rfl) (nle rfl) dX12_set_139 (hPo _ _ ((by exfalso; omega)))
                ·
                  refine S_iload_n X dX12_set_127 rfl rfl ?_
                  refine S_goto (tgt := 135) X dX12_set_128 (by decide) ?_
                  refine S_put X fpX12_59_11 0 rfl FT_i dX12_set_135 ?_
                  refine S_w (ws' := [(h0, ob 11 (uF (uF (uF (uF f 27 (iv x)) 28 (iv x)) 29 (iv ec)) 30 (iv x)))]) (by simp only [List.set]; rw [uF_same (k := 30)]) ?_
                  refine S_iconst X dX12_set_138 ?_
                  exact S_zret X (Or.inr rfl) (nle rfl) (nle rfl) dX12_set_139 (hPo _ _ ((by exfalso; omega)))
              ·
                refine S_iload_n X dX12_set_110 rfl rfl ?_
                refine S_goto (tgt := 118) X dX12_set_111 (by decide) ?_
                refine S_put X fpX12_287_11 0 rfl FT_i dX12_set_118 ?_
                refine S_w (ws' := [(h0, ob 11 (uF (uF (uF (uF f 27 (iv x)) 28 (iv x)) 29 (iv x)) 30 (iv lim)))]) (by simp only [List.set]; rw [uF_mv (j := 30) (k := 29) (by decide), uF_same (k := 29)]) ?_
                refine S_aload_n X dX12_set_121 rfl rfl ?_
                refine S_iload_n X dX12_set_122 rfl rfl ?_
                refine S_iconst X dX12_set_123 ?_
                refine S_icmp_ne (tgt := 131) X dX12_set_124 (by decide) (by omega) (by decide) (fun c_334 => ?_) (fun c_334 => ?_)
                ·
                  refine S_aload_n X dX12_set_131 rfl rfl ?_
                  refine S_get (v := iv lim) X fgX12_59_11 0 rfl rfl dX12_set_132 ?_
                  refine S_put X fpX12_59_11 0 rfl FT_i dX12_set_135 ?_
                  refine S_w (ws' := [(h0, ob 11 (uF (uF (uF (uF f 27 (iv x)) 28 (iv x)) 29 (iv x)) 30 (iv lim)))]) (by simp only [List.set]; rw [uF_same (k := 30)]) ?_
                  refine S_iconst X dX12_set_138 ?_
                  exact S_zret X (Or.inr rfl) (nle rfl) (nle rfl) dX12_set_139 (hPo _ _ ((by exfalso; omega)))
                ·
                  refine S_iload_n X dX12_set_127 rfl rfl ?_
                  refine S_goto (tgt := 135) X dX12_set_128 (by decide) ?_
                  refine S_put X fpX12_59_11 0 rfl FT_i dX12_set_135 ?_
                  refine S_w (ws' := [(h0, ob 11 (uF (uF (uF (uF f 27 (iv x)) 28 (iv x)) 29 (iv x)) 30 (iv x)))]) (by simp only [List.set]; rw [uF_same (k := 30)]) ?_
                  refine S_iconst X dX12_set_138 ?_
                  exact S_zret X (Or.inr rfl) (nle rfl) (nle rfl) dX12_set_139 (hPo _ _ ((by exfalso; omega)))
set_option maxHeartbeats 4000000 in
set_option maxRecDepth 100000 in
theorem kX12_tell (l : Launch) (h0 : Nat) (f : Nat → AV) (pl : Int) (hQ : Nat) (hE : Nat) (Q : Int → Int) (E : Int → Int) (pp : Int) (v : Int) (x : Int) (hf0 : f 21 = iv pl) (hf1 : f 20 = rv hQ) (hf2 : f 24 = rv hE) (hpl : 0 ≤ pl ∧ pl ≤ 6) (hx_pp : inR pp) (hx_v : inR v) (hx_x : inR x) : AMi l yX12_tell cX12_tell 4 .boolean 2 0 0 [rv h0, iv pp, iv v, iv x] [(h0, ob 11 f), (hQ, ar 30 Q), (hE, ar 6 E)] (fun z u => (z = 0 ∧ u = [(h0, ob 11 f), (hQ, ar 30 Q), (hE, ar 6 E)] ∧ (¬ ((0 ≤ pp ∧ pp < pl) ∧ ((v = 0 ∧ -1 ≤ x ∧ x < pl ∧ x ≠ pp) ∨ (v = 1 ∧ 0 ≤ x ∧ x ≤ 10) ∨ (v = 2 ∧ 0 ≤ x ∧ x ≤ 50))))) ∨ (z = 1 ∧ u = [(h0, ob 11 f), (hQ, ar 30 (uZ Q (5 * pp + 3) x)), (hE, ar 6 E)] ∧ ((0 ≤ pp ∧ pp < pl) ∧ v = 0 ∧ -1 ≤ x ∧ x < pl ∧ x ≠ pp)) ∨ (z = 1 ∧ u = [(h0, ob 11 f), (hQ, ar 30 (uZ Q (5 * pp + 4) x)), (hE, ar 6 E)] ∧ ((0 ≤ pp ∧ pp < pl) ∧ v = 1 ∧ 0 ≤ x ∧ x ≤ 10)) ∨ (z = 1 ∧ u = [(h0, ob 11 f), (hQ, ar 30 Q), (hE, ar 6 (uZ E pp x))] ∧ ((0 ≤ pp ∧ pp < pl) ∧ v = 2 ∧ 0 ≤ x ∧ x ≤ 50))) := by
  refine AMi.of2 rfl (nle rfl) ?_
  intro D G A p e s m args below meth c Po hPo X
  refine S_aload_n X dX12_tell_0 rfl rfl ?_
  refine S_iload_n X dX12_tell_1 rfl rfl ?_
  refine S_calli X (kX12_isPlayer l h0 f pl pp hf0 (by omega) (by omega)) (is := [0]) rfl (run_V X lkX12_281 0 rfl rfl (is := [0]) (avs := [iv pp]) (rest := []) rfl rfl (nle rfl) ⟨nle rfl, nle rfl⟩ ⟨nle rfl, nle rfl⟩ dX12_tell_2 (by decide) rfl) (fun z_3 u_1 hp_2 => ?_)
  rcases hp_2 with ⟨hz_4, hu_5, hq_6⟩ | ⟨hz_7, hu_8, hq_9⟩
  ·
    subst hz_4
    subst hu_5
    refine ⟨rfl, ?_⟩
    refine S_w (ws' := [(h0, ob 11 f), (hQ, ar 30 Q), (hE, ar 6 E)]) rfl ?_
    refine S_if_eq (tgt := 67) X dX12_tell_5 (by decide) (by decide) (fun _ => ?_) (fun h9 => absurd h9 (by decide))
    refine S_iconst X dX12_tell_67 ?_
    exact S_zret X (Or.inl rfl) (nle rfl) (nle rfl) dX12_tell_68 (hPo _ _ (Or.inl ⟨rfl, rfl, by omega⟩))
  ·
    subst hz_7
    subst hu_8
    refine ⟨rfl, ?_⟩
    refine S_w (ws' := [(h0, ob 11 f), (hQ, ar 30 Q), (hE, ar 6 E)]) rfl ?_
    refine S_if_eq (tgt := 67) X dX12_tell_5 (by decide) (by decide) (fun h9 => absurd h9 (by decide)) (fun _ => ?_)
    refine S_iload_n X dX12_tell_8 rfl rfl ?_
    refine S_iconst X dX12_tell_9 ?_
    refine S_iconst X dX12_tell_10 ?_
    refine S_calli X (kX12_in l v 0 2 (by omega) (by omega) (by omega)) (is := []) rfl (run_S X lkX12_216 (is := []) (avs := [iv v, iv 0, iv 2]) (rest := []) rfl rfl (nle rfl) ⟨nle rfl, nle rfl⟩ ⟨nle rfl, nle rfl⟩ dX12_tell_11 (by decide) rfl) (fun z_14 u_12 hp_13 => ?_)
    rcases hp_13 with ⟨hz_15, hu_16, hq_17⟩ | ⟨hz_18, hu_19, hq_20⟩
    ·
      subst hz_15
      subst hu_16
      refine ⟨rfl, ?_⟩
      refine S_w (ws' := [(h0, ob 11 f), (hQ, ar 30 Q), (hE, ar 6 E)]) rfl ?_
      refine S_if_eq (tgt := 67) X dX12_tell_14 (by decide) (by decide) (fun _ => ?_) (fun h9 => absurd h9 (by decide))
      refine S_iconst X dX12_tell_67 ?_
      exact S_zret X (Or.inl rfl) (nle rfl) (nle rfl) dX12_tell_68 (hPo _ _ (Or.inl ⟨rfl, rfl, by omega⟩))
    ·
      subst hz_18
      subst hu_19
      refine ⟨rfl, ?_⟩
      refine S_w (ws' := [(h0, ob 11 f), (hQ, ar 30 Q), (hE, ar 6 E)]) rfl ?_
      refine S_if_eq (tgt := 67) X dX12_tell_14 (by decide) (by decide) (fun h9 => absurd h9 (by decide)) (fun _ => ?_)
      refine S_iload_n X dX12_tell_17 rfl rfl ?_
      refine S_iload_n X dX12_tell_18 rfl rfl ?_
      refine S_if_ne (tgt := 26) X dX12_tell_19 (by decide) (by omega) (fun c_23 => ?_) (fun c_23 => ?_)
      ·
        refine S_iconst X dX12_tell_26 ?_
        refine S_iload_n X dX12_tell_27 rfl rfl ?_
        refine S_if_ne (tgt := 40) X dX12_tell_28 (by decide) (by omega) (fun c_24 => ?_) (fun c_24 => ?_)
        ·
          refine S_iload_n X dX12_tell_40 rfl rfl ?_
          refine S_iconst X dX12_tell_41 ?_
          refine S_icmp_ne (tgt := 50) X dX12_tell_42 (by decide) (by omega) (by decide) (fun c_25 => ?_) (fun c_25 => ?_)
          ·
            refine S_bipush X dX12_tell_50 rfl ?_
            refine S_calli X (kX12_in l x 0 50 (by omega) (by omega) (by omega)) (is := []) rfl (run_S X lkX12_216 (is := []) (avs := [iv x, iv 0, iv 50]) (rest := []) rfl rfl (nle rfl) ⟨nle rfl, nle rfl⟩ ⟨nle rfl, nle rfl⟩ dX12_tell_52 (by decide) rfl) (fun z_28 u_26 hp_27 => ?_)
            rcases hp_27 with ⟨hz_29, hu_30, hq_31⟩ | ⟨hz_32, hu_33, hq_34⟩
            ·
              subst hz_29
              subst hu_30
              refine ⟨rfl, ?_⟩
              refine S_w (ws' := [(h0, ob 11 f), (hQ, ar 30 Q), (hE, ar 6 E)]) rfl ?_
              refine S_if_eq (tgt := 67) X dX12_tell_55 (by decide) (by decide) (fun _ => ?_) (fun h9 => absurd h9 (by decide))
              refine S_iconst X dX12_tell_67 ?_
              exact S_zret X (Or.inl rfl) (nle rfl) (nle rfl) dX12_tell_68 (hPo _ _ (Or.inl ⟨rfl, rfl, by omega⟩))
            ·
              subst hz_32
              subst hu_33
              refine ⟨rfl, ?_⟩
              refine S_w (ws' := [(h0, ob 11 f), (hQ, ar 30 Q), (hE, ar 6 E)]) rfl ?_
              refine S_if_eq (tgt := 67) X dX12_tell_55 (by decide) (by decide) (fun h9 => absurd h9 (by decide)) (fun _ => ?_)
              refine S_iload_n X dX12_tell_58 rfl rfl ?_
              refine S_if_ne (tgt := 69) X dX12_tell_59 (by decide) (by omega) (fun c_37 => ?_) (fun c_37 => ?_)
              ·
                refine S_iload_n X dX12_tell_69 rfl rfl ?_
                refine S_iconst X dX12_tell_70 ?_
                refine S_icmp_ne (tgt := 84) X dX12_tell_71 (by decide) (by omega) (by decide) (fun c_38 => ?_) (fun c_38 => ?_)
                ·
                  refine S_aload_n X dX12_tell_84 rfl rfl ?_
                  refine S_get X fgX12_43_11 0 rfl hf1 dX12_tell_85 ?_
                  refine S_iconst X dX12_tell_88 ?_
                  refine S_iload_n X dX12_tell_89 rfl rfl ?_
                  refine S_imul X dX12_tell_90 ?_
                  refine S_iload_n X dX12_tell_91 rfl rfl ?_
                  refine S_if_ne (tgt := 99) X dX12_tell_92 (by decide) (by omega) (fun c_39 => ?_) (fun c_39 => ?_)
                  ·
                    refine S_iconst X dX12_tell_99 ?_
                    refine S_iadd X dX12_tell_100 ?_
                    refine S_iload_n X dX12_tell_101 rfl rfl ?_
                    refine S_iast X 1 rfl (by omega) (by omega) (nle rfl) dX12_tell_102 ?_
                    refine S_w (ws' := [(h0, ob 11 f), (hQ, ar 30 (uZ Q ((5 * pp) + 4) x)), (hE, ar 6 E)]) rfl ?_
                    refine S_iconst X dX12_tell_103 ?_
                    exact S_zret X (Or.inr rfl) (nle rfl) (nle rfl) dX12_tell_104 (hPo _ _ (Or.inr (Or.inr (Or.inl ⟨rfl, rfl, by omega⟩))))
                  ·
                    refine S_iconst X dX12_tell_95 ?_
                    refine S_goto (tgt := 100) X dX12_tell_96 (by decide) ?_
                    refine S_iadd X dX12_tell_100 ?_
                    refine S_iload_n X dX12_tell_101 rfl rfl ?_
                    refine S_iast X 1 rfl (by omega) (by omega) (nle rfl) dX12_tell_102 ?_
                    refine S_w (ws' := [(h0, ob 11 f), (hQ, ar 30 (uZ Q ((5 * pp) + 3) x)), (hE, ar 6 E)]) rfl ?_
                    refine S_iconst X dX12_tell_103 ?_
                    exact S_zret X (Or.inr rfl) (nle rfl) (nle rfl) dX12_tell_104 (hPo _ _ (Or.inr (Or.inl ⟨rfl, rfl, by omega⟩)))
                ·
                  refine S_aload_n X dX12_tell_74 rfl rfl ?_
                  refine S_get X fgX12_49_11 0 rfl hf2 dX12_tell_75 ?_
                  refine S_iload_n X dX12_tell_78 rfl rfl ?_
                  refine S_iload_n X dX12_tell_79 rfl rfl ?_
                  refine S_iast X 2 rfl (by omega) (by omega) (nle rfl) dX12_tell_80 ?_
                  refine S_w (ws' := [(h0, ob 11 f), (hQ, ar 30 Q), (hE, ar 6 (uZ E pp x))]) rfl ?_
                  refine S_goto (tgt := 103) X dX12_tell_81 (by decide) ?_
                  refine S_iconst X dX12_tell_103 ?_
                  exact S_zret X (Or.inr rfl) (nle rfl) (nle rfl) dX12_tell_104 (hPo _ _ (Or.inr (Or.inr (Or.inr ⟨rfl, rfl, by omega⟩))))
              ·
                refine S_iload_n X dX12_tell_62 rfl rfl ?_
                refine S_iload_n X dX12_tell_63 rfl rfl ?_
                refine S_icmp_ne (tgt := 69) X dX12_tell_64 (by decide) (by omega) (by omega) (fun c_40 => ?_) (fun c_40 => ?_)
                ·
                  refine S_iload_n X dX12_tell_69 rfl rfl ?_
                  refine S_iconst X dX12_tell_70 ?_
                  refine S_icmp_ne (tgt := 84) X dX12_tell_71 (by decide) (by omega) (by decide) (fun c_41 => ?_) (fun c_41 => ?_)
                  ·
                    refine S_aload_n X dX12_tell_84 rfl rfl ?_
                    refine S_get X fgX12_43_11 0 rfl hf1 dX12_tell_85 ?_
                    refine S_iconst X dX12_tell_88 ?_
                    refine S_iload_n X dX12_tell_89 rfl rfl ?_
                    refine S_imul X dX12_tell_90 ?_
                    refine S_iload_n X dX12_tell_91 rfl rfl ?_
                    refine S_if_ne (tgt := 99) X dX12_tell_92 (by decide) (by omega) (fun c_42 => ?_) (fun c_42 => ?_)
                    ·
                      refine S_iconst X dX12_tell_99 ?_
                      refine S_iadd X dX12_tell_100 ?_
                      refine S_iload_n X dX12_tell_101 rfl rfl ?_
                      refine S_iast X 1 rfl (by omega) (by omega) (nle rfl) dX12_tell_102 ?_
                      refine S_w (ws' := [(h0, ob 11 f), (hQ, ar 30 (uZ Q ((5 * pp) + 4) x)), (hE, ar 6 E)]) rfl ?_
                      refine S_iconst X dX12_tell_103 ?_
                      exact S_zret X (Or.inr rfl) (nle rfl) (nle rfl) dX12_tell_104 (hPo _ _ (Or.inr (Or.inr (Or.inl ⟨rfl, rfl, by omega⟩))))
                    ·
                      refine S_iconst X dX12_tell_95 ?_
                      refine S_goto (tgt := 100) X dX12_tell_96 (by decide) ?_
                      refine S_iadd X dX12_tell_100 ?_
                      refine S_iload_n X dX12_tell_101 rfl rfl ?_
                      refine S_iast X 1 rfl (by omega) (by omega) (nle rfl) dX12_tell_102 ?_
                      refine S_w (ws' := [(h0, ob 11 f), (hQ, ar 30 (uZ Q ((5 * pp) + 3) x)), (hE, ar 6 E)]) rfl ?_
                      refine S_iconst X dX12_tell_103 ?_
                      exact S_zret X (Or.inr rfl) (nle rfl) (nle rfl) dX12_tell_104 (hPo _ _ (Or.inr (Or.inl ⟨rfl, rfl, by omega⟩)))
                  ·
                    refine S_aload_n X dX12_tell_74 rfl rfl ?_
                    refine S_get X fgX12_49_11 0 rfl hf2 dX12_tell_75 ?_
                    refine S_iload_n X dX12_tell_78 rfl rfl ?_
                    refine S_iload_n X dX12_tell_79 rfl rfl ?_
                    refine S_iast X 2 rfl (by omega) (by omega) (nle rfl) dX12_tell_80 ?_
                    refine S_w (ws' := [(h0, ob 11 f), (hQ, ar 30 Q), (hE, ar 6 (uZ E pp x))]) rfl ?_
                    refine S_goto (tgt := 103) X dX12_tell_81 (by decide) ?_
                    refine S_iconst X dX12_tell_103 ?_
                    exact S_zret X (Or.inr rfl) (nle rfl) (nle rfl) dX12_tell_104 (hPo _ _ (Or.inr (Or.inr (Or.inr ⟨rfl, rfl, by omega⟩))))
                ·
                  refine S_iconst X dX12_tell_67 ?_
                  exact S_zret X (Or.inl rfl) (nle rfl) (nle rfl) dX12_tell_68 (hPo _ _ (Or.inl ⟨rfl, rfl, by omega⟩))
          ·
            refine S_bipush X dX12_tell_45 rfl ?_
            refine S_goto (tgt := 52) X dX12_tell_47 (by decide) ?_
            refine S_calli X (kX12_in l x 0 10 (by omega) (by omega) (by omega)) (is := []) rfl (run_S X lkX12_216 (is := []) (avs := [iv x, iv 0, iv 10]) (rest := []) rfl rfl (nle rfl) ⟨nle rfl, nle rfl⟩ ⟨nle rfl, nle rfl⟩ dX12_tell_52 (by decide) rfl) (fun z_45 u_43 hp_44 => ?_)
            rcases hp_44 with ⟨hz_46, hu_47, hq_48⟩ | ⟨hz_49, hu_50, hq_51⟩
            ·
              subst hz_46
              subst hu_47
              refine ⟨rfl, ?_⟩
              refine S_w (ws' := [(h0, ob 11 f), (hQ, ar 30 Q), (hE, ar 6 E)]) rfl ?_
              refine S_if_eq (tgt := 67) X dX12_tell_55 (by decide) (by decide) (fun _ => ?_) (fun h9 => absurd h9 (by decide))
              refine S_iconst X dX12_tell_67 ?_
              exact S_zret X (Or.inl rfl) (nle rfl) (nle rfl) dX12_tell_68 (hPo _ _ (Or.inl ⟨rfl, rfl, by omega⟩))
            ·
              subst hz_49
              subst hu_50
              refine ⟨rfl, ?_⟩
              refine S_w (ws' := [(h0, ob 11 f), (hQ, ar 30 Q), (hE, ar 6 E)]) rfl ?_
              refine S_if_eq (tgt := 67) X dX12_tell_55 (by decide) (by decide) (fun h9 => absurd h9 (by decide)) (fun _ => ?_)
              refine S_iload_n X dX12_tell_58 rfl rfl ?_
              refine S_if_ne (tgt := 69) X dX12_tell_59 (by decide) (by omega) (fun c_54 => ?_) (fun c_54 => ?_)
              ·
                refine S_iload_n X dX12_tell_69 rfl rfl ?_
                refine S_iconst X dX12_tell_70 ?_
                refine S_icmp_ne (tgt := 84) X dX12_tell_71 (by decide) (by omega) (by decide) (fun c_55 => ?_) (fun c_55 => ?_)
                ·
                  refine S_aload_n X dX12_tell_84 rfl rfl ?_
                  refine S_get X fgX12_43_11 0 rfl hf1 dX12_tell_85 ?_
                  refine S_iconst X dX12_tell_88 ?_
                  refine S_iload_n X dX12_tell_89 rfl rfl ?_
                  refine S_imul X dX12_tell_90 ?_
                  refine S_iload_n X dX12_tell_91 rfl rfl ?_
                  refine S_if_ne (tgt := 99) X dX12_tell_92 (by decide) (by omega) (fun c_56 => ?_) (fun c_56 => ?_)
                  ·
                    refine S_iconst X dX12_tell_99 ?_
                    refine S_iadd X dX12_tell_100 ?_
                    refine S_iload_n X dX12_tell_101 rfl rfl ?_
                    refine S_iast X 1 rfl (by omega) (by omega) (nle rfl) dX12_tell_102 ?_
                    refine S_w (ws' := [(h0, ob 11 f), (hQ, ar 30 (uZ Q ((5 * pp) + 4) x)), (hE, ar 6 E)]) rfl ?_
                    refine S_iconst X dX12_tell_103 ?_
                    exact S_zret X (Or.inr rfl) (nle rfl) (nle rfl) dX12_tell_104 (hPo _ _ (Or.inr (Or.inr (Or.inl ⟨rfl, rfl, by omega⟩))))
                  ·
                    refine S_iconst X dX12_tell_95 ?_
                    refine S_goto (tgt := 100) X dX12_tell_96 (by decide) ?_
                    refine S_iadd X dX12_tell_100 ?_
                    refine S_iload_n X dX12_tell_101 rfl rfl ?_
                    refine S_iast X 1 rfl (by omega) (by omega) (nle rfl) dX12_tell_102 ?_
                    refine S_w (ws' := [(h0, ob 11 f), (hQ, ar 30 (uZ Q ((5 * pp) + 3) x)), (hE, ar 6 E)]) rfl ?_
                    refine S_iconst X dX12_tell_103 ?_
                    exact S_zret X (Or.inr rfl) (nle rfl) (nle rfl) dX12_tell_104 (hPo _ _ (Or.inr (Or.inl ⟨rfl, rfl, by omega⟩)))
                ·
                  refine S_aload_n X dX12_tell_74 rfl rfl ?_
                  refine S_get X fgX12_49_11 0 rfl hf2 dX12_tell_75 ?_
                  refine S_iload_n X dX12_tell_78 rfl rfl ?_
                  refine S_iload_n X dX12_tell_79 rfl rfl ?_
                  refine S_iast X 2 rfl (by omega) (by omega) (nle rfl) dX12_tell_80 ?_
                  refine S_w (ws' := [(h0, ob 11 f), (hQ, ar 30 Q), (hE, ar 6 (uZ E pp x))]) rfl ?_
                  refine S_goto (tgt := 103) X dX12_tell_81 (by decide) ?_
                  refine S_iconst X dX12_tell_103 ?_
                  exact S_zret X (Or.inr rfl) (nle rfl) (nle rfl) dX12_tell_104 (hPo _ _ (Or.inr (Or.inr (Or.inr ⟨rfl, rfl, by omega⟩))))
              ·
                refine S_iload_n X dX12_tell_62 rfl rfl ?_
                refine S_iload_n X dX12_tell_63 rfl rfl ?_
                refine S_icmp_ne (tgt := 69) X dX12_tell_64 (by decide) (by omega) (by omega) (fun c_57 => ?_) (fun c_57 => ?_)
                ·
                  refine S_iload_n X dX12_tell_69 rfl rfl ?_
                  refine S_iconst X dX12_tell_70 ?_
                  refine S_icmp_ne (tgt := 84) X dX12_tell_71 (by decide) (by omega) (by decide) (fun c_58 => ?_) (fun c_58 => ?_)
                  ·
                    refine S_aload_n X dX12_tell_84 rfl rfl ?_
                    refine S_get X fgX12_43_11 0 rfl hf1 dX12_tell_85 ?_
                    refine S_iconst X dX12_tell_88 ?_
                    refine S_iload_n X dX12_tell_89 rfl rfl ?_
                    refine S_imul X dX12_tell_90 ?_
                    refine S_iload_n X dX12_tell_91 rfl rfl ?_
                    refine S_if_ne (tgt := 99) X dX12_tell_92 (by decide) (by omega) (fun c_59 => ?_) (fun c_59 => ?_)
                    ·
                      refine S_iconst X dX12_tell_99 ?_
                      refine S_iadd X dX12_tell_100 ?_
                      refine S_iload_n X dX12_tell_101 rfl rfl ?_
                      refine S_iast X 1 rfl (by omega) (by omega) (nle rfl) dX12_tell_102 ?_
                      refine S_w (ws' := [(h0, ob 11 f), (hQ, ar 30 (uZ Q ((5 * pp) + 4) x)), (hE, ar 6 E)]) rfl ?_
                      refine S_iconst X dX12_tell_103 ?_
                      exact S_zret X (Or.inr rfl) (nle rfl) (nle rfl) dX12_tell_104 (hPo _ _ (Or.inr (Or.inr (Or.inl ⟨rfl, rfl, by omega⟩))))
                    ·
                      refine S_iconst X dX12_tell_95 ?_
                      refine S_goto (tgt := 100) X dX12_tell_96 (by decide) ?_
                      refine S_iadd X dX12_tell_100 ?_
                      refine S_iload_n X dX12_tell_101 rfl rfl ?_
                      refine S_iast X 1 rfl (by omega) (by omega) (nle rfl) dX12_tell_102 ?_
                      refine S_w (ws' := [(h0, ob 11 f), (hQ, ar 30 (uZ Q ((5 * pp) + 3) x)), (hE, ar 6 E)]) rfl ?_
                      refine S_iconst X dX12_tell_103 ?_
                      exact S_zret X (Or.inr rfl) (nle rfl) (nle rfl) dX12_tell_104 (hPo _ _ (Or.inr (Or.inl ⟨rfl, rfl, by omega⟩)))
                  ·
                    refine S_aload_n X dX12_tell_74 rfl rfl ?_
                    refine S_get X fgX12_49_11 0 rfl hf2 dX12_tell_75 ?_
                    refine S_iload_n X dX12_tell_78 rfl rfl ?_
                    refine S_iload_n X dX12_tell_79 rfl rfl ?_
                    refine S_iast X 2 rfl (by omega) (by omega) (nle rfl) dX12_tell_80 ?_
                    refine S_w (ws' := [(h0, ob 11 f), (hQ, ar 30 Q), (hE, ar 6 (uZ E pp x))]) rfl ?_
                    refine S_goto (tgt := 103) X dX12_tell_81 (by decide) ?_
                    refine S_iconst X dX12_tell_103 ?_
                    exact S_zret X (Or.inr rfl) (nle rfl) (nle rfl) dX12_tell_104 (hPo _ _ (Or.inr (Or.inr (Or.inr ⟨rfl, rfl, by omega⟩))))
                ·
                  refine S_iconst X dX12_tell_67 ?_
                  exact S_zret X (Or.inl rfl) (nle rfl) (nle rfl) dX12_tell_68 (hPo _ _ (Or.inl ⟨rfl, rfl, by omega⟩))
        ·
          refine S_aload_n X dX12_tell_31 rfl rfl ?_
          refine S_get X fgX12_253_11 0 rfl hf0 dX12_tell_32 ?_
          refine S_iconst X dX12_tell_35 ?_
          refine S_isub X dX12_tell_36 ?_
          refine S_goto (tgt := 52) X dX12_tell_37 (by decide) ?_
          refine S_calli X (kX12_in l x 0 (pl - 1) (by omega) (by omega) (by omega)) (is := []) rfl (run_S X lkX12_216 (is := []) (avs := [iv x, iv 0, iv (pl - 1)]) (rest := []) rfl rfl (nle rfl) ⟨nle rfl, nle rfl⟩ ⟨nle rfl, nle rfl⟩ dX12_tell_52 (by decide) rfl) (fun z_62 u_60 hp_61 => ?_)
          rcases hp_61 with ⟨hz_63, hu_64, hq_65⟩ | ⟨hz_66, hu_67, hq_68⟩
          ·
            subst hz_63
            subst hu_64
            refine ⟨rfl, ?_⟩
            refine S_w (ws' := [(h0, ob 11 f), (hQ, ar 30 Q), (hE, ar 6 E)]) rfl ?_
            refine S_if_eq (tgt := 67) X dX12_tell_55 (by decide) (by decide) (fun _ => ?_) (fun h9 => absurd h9 (by decide))
            refine S_iconst X dX12_tell_67 ?_
            exact S_zret X (Or.inl rfl) (nle rfl) (nle rfl) dX12_tell_68 (hPo _ _ (Or.inl ⟨rfl, rfl, by omega⟩))
          ·
            subst hz_66
            subst hu_67
            refine ⟨rfl, ?_⟩
            refine S_w (ws' := [(h0, ob 11 f), (hQ, ar 30 Q), (hE, ar 6 E)]) rfl ?_
            refine S_if_eq (tgt := 67) X dX12_tell_55 (by decide) (by decide) (fun h9 => absurd h9 (by decide)) (fun _ => ?_)
            refine S_iload_n X dX12_tell_58 rfl rfl ?_
            refine S_if_ne (tgt := 69) X dX12_tell_59 (by decide) (by omega) (fun c_71 => ?_) (fun c_71 => ?_)
            ·
              refine S_iload_n X dX12_tell_69 rfl rfl ?_
              refine S_iconst X dX12_tell_70 ?_
              refine S_icmp_ne (tgt := 84) X dX12_tell_71 (by decide) (by omega) (by decide) (fun c_72 => ?_) (fun c_72 => ?_)
              ·
                refine S_aload_n X dX12_tell_84 rfl rfl ?_
                refine S_get X fgX12_43_11 0 rfl hf1 dX12_tell_85 ?_
                refine S_iconst X dX12_tell_88 ?_
                refine S_iload_n X dX12_tell_89 rfl rfl ?_
                refine S_imul X dX12_tell_90 ?_
                refine S_iload_n X dX12_tell_91 rfl rfl ?_
                refine S_if_ne (tgt := 99) X dX12_tell_92 (by decide) (by omega) (fun c_73 => ?_) (fun c_73 => ?_)
                ·
                  refine S_iconst X dX12_tell_99 ?_
                  refine S_iadd X dX12_tell_100 ?_
                  refine S_iload_n X dX12_tell_101 rfl rfl ?_
                  refine S_iast X 1 rfl (by omega) (by omega) (nle rfl) dX12_tell_102 ?_
                  refine S_w (ws' := [(h0, ob 11 f), (hQ, ar 30 (uZ Q ((5 * pp) + 4) x)), (hE, ar 6 E)]) rfl ?_
                  refine S_iconst X dX12_tell_103 ?_
                  exact S_zret X (Or.inr rfl) (nle rfl) (nle rfl) dX12_tell_104 (hPo _ _ (Or.inr (Or.inr (Or.inl ⟨rfl, rfl, by omega⟩))))
                ·
                  refine S_iconst X dX12_tell_95 ?_
                  refine S_goto (tgt := 100) X dX12_tell_96 (by decide) ?_
                  refine S_iadd X dX12_tell_100 ?_
                  refine S_iload_n X dX12_tell_101 rfl rfl ?_
                  refine S_iast X 1 rfl (by omega) (by omega) (nle rfl) dX12_tell_102 ?_
                  refine S_w (ws' := [(h0, ob 11 f), (hQ, ar 30 (uZ Q ((5 * pp) + 3) x)), (hE, ar 6 E)]) rfl ?_
                  refine S_iconst X dX12_tell_103 ?_
                  exact S_zret X (Or.inr rfl) (nle rfl) (nle rfl) dX12_tell_104 (hPo _ _ (Or.inr (Or.inl ⟨rfl, rfl, by omega⟩)))
              ·
                refine S_aload_n X dX12_tell_74 rfl rfl ?_
                refine S_get X fgX12_49_11 0 rfl hf2 dX12_tell_75 ?_
                refine S_iload_n X dX12_tell_78 rfl rfl ?_
                refine S_iload_n X dX12_tell_79 rfl rfl ?_
                refine S_iast X 2 rfl (by omega) (by omega) (nle rfl) dX12_tell_80 ?_
                refine S_w (ws' := [(h0, ob 11 f), (hQ, ar 30 Q), (hE, ar 6 (uZ E pp x))]) rfl ?_
                refine S_goto (tgt := 103) X dX12_tell_81 (by decide) ?_
                refine S_iconst X dX12_tell_103 ?_
                exact S_zret X (Or.inr rfl) (nle rfl) (nle rfl) dX12_tell_104 (hPo _ _ (Or.inr (Or.inr (Or.inr ⟨rfl, rfl, by omega⟩))))
            ·
              refine S_iload_n X dX12_tell_62 rfl rfl ?_
              refine S_iload_n X dX12_tell_63 rfl rfl ?_
              refine S_icmp_ne (tgt := 69) X dX12_tell_64 (by decide) (by omega) (by omega) (fun c_74 => ?_) (fun c_74 => ?_)
              ·
                refine S_iload_n X dX12_tell_69 rfl rfl ?_
                refine S_iconst X dX12_tell_70 ?_
                refine S_icmp_ne (tgt := 84) X dX12_tell_71 (by decide) (by omega) (by decide) (fun c_75 => ?_) (fun c_75 => ?_)
                ·
                  refine S_aload_n X dX12_tell_84 rfl rfl ?_
                  refine S_get X fgX12_43_11 0 rfl hf1 dX12_tell_85 ?_
                  refine S_iconst X dX12_tell_88 ?_
                  refine S_iload_n X dX12_tell_89 rfl rfl ?_
                  refine S_imul X dX12_tell_90 ?_
                  refine S_iload_n X dX12_tell_91 rfl rfl ?_
                  refine S_if_ne (tgt := 99) X dX12_tell_92 (by decide) (by omega) (fun c_76 => ?_) (fun c_76 => ?_)
                  ·
                    refine S_iconst X dX12_tell_99 ?_
                    refine S_iadd X dX12_tell_100 ?_
                    refine S_iload_n X dX12_tell_101 rfl rfl ?_
                    refine S_iast X 1 rfl (by omega) (by omega) (nle rfl) dX12_tell_102 ?_
                    refine S_w (ws' := [(h0, ob 11 f), (hQ, ar 30 (uZ Q ((5 * pp) + 4) x)), (hE, ar 6 E)]) rfl ?_
                    refine S_iconst X dX12_tell_103 ?_
                    exact S_zret X (Or.inr rfl) (nle rfl) (nle rfl) dX12_tell_104 (hPo _ _ (Or.inr (Or.inr (Or.inl ⟨rfl, rfl, by omega⟩))))
                  ·
                    refine S_iconst X dX12_tell_95 ?_
                    refine S_goto (tgt := 100) X dX12_tell_96 (by decide) ?_
                    refine S_iadd X dX12_tell_100 ?_
                    refine S_iload_n X dX12_tell_101 rfl rfl ?_
                    refine S_iast X 1 rfl (by omega) (by omega) (nle rfl) dX12_tell_102 ?_
                    refine S_w (ws' := [(h0, ob 11 f), (hQ, ar 30 (uZ Q ((5 * pp) + 3) x)), (hE, ar 6 E)]) rfl ?_
                    refine S_iconst X dX12_tell_103 ?_
                    exact S_zret X (Or.inr rfl) (nle rfl) (nle rfl) dX12_tell_104 (hPo _ _ (Or.inr (Or.inl ⟨rfl, rfl, by omega⟩)))
                ·
                  refine S_aload_n X dX12_tell_74 rfl rfl ?_
                  refine S_get X fgX12_49_11 0 rfl hf2 dX12_tell_75 ?_
                  refine S_iload_n X dX12_tell_78 rfl rfl ?_
                  refine S_iload_n X dX12_tell_79 rfl rfl ?_
                  refine S_iast X 2 rfl (by omega) (by omega) (nle rfl) dX12_tell_80 ?_
                  refine S_w (ws' := [(h0, ob 11 f), (hQ, ar 30 Q), (hE, ar 6 (uZ E pp x))]) rfl ?_
                  refine S_goto (tgt := 103) X dX12_tell_81 (by decide) ?_
                  refine S_iconst X dX12_tell_103 ?_
                  exact S_zret X (Or.inr rfl) (nle rfl) (nle rfl) dX12_tell_104 (hPo _ _ (Or.inr (Or.inr (Or.inr ⟨rfl, rfl, by omega⟩))))
              ·
                refine S_iconst X dX12_tell_67 ?_
                exact S_zret X (Or.inl rfl) (nle rfl) (nle rfl) dX12_tell_68 (hPo _ _ (Or.inl ⟨rfl, rfl, by omega⟩))
      ·
        refine S_iconst X dX12_tell_22 ?_
        refine S_goto (tgt := 27) X dX12_tell_23 (by decide) ?_
        refine S_iload_n X dX12_tell_27 rfl rfl ?_
        refine S_if_ne (tgt := 40) X dX12_tell_28 (by decide) (by omega) (fun c_77 => ?_) (fun c_77 => ?_)
        ·
          refine S_iload_n X dX12_tell_40 rfl rfl ?_
          refine S_iconst X dX12_tell_41 ?_
          refine S_icmp_ne (tgt := 50) X dX12_tell_42 (by decide) (by omega) (by decide) (fun c_78 => ?_) (fun c_78 => ?_)
          ·
            refine S_bipush X dX12_tell_50 rfl ?_
            refine S_calli X (kX12_in l x (-1) 50 (by omega) (by omega) (by omega)) (is := []) rfl (run_S X lkX12_216 (is := []) (avs := [iv x, iv (-1), iv 50]) (rest := []) rfl rfl (nle rfl) ⟨nle rfl, nle rfl⟩ ⟨nle rfl, nle rfl⟩ dX12_tell_52 (by decide) rfl) (fun z_81 u_79 hp_80 => ?_)
            rcases hp_80 with ⟨hz_82, hu_83, hq_84⟩ | ⟨hz_85, hu_86, hq_87⟩
            ·
              subst hz_82
              subst hu_83
              refine ⟨rfl, ?_⟩
              refine S_w (ws' := [(h0, ob 11 f), (hQ, ar 30 Q), (hE, ar 6 E)]) rfl ?_
              refine S_if_eq (tgt := 67) X dX12_tell_55 (by decide) (by decide) (fun _ => ?_) (fun h9 => absurd h9 (by decide))
              refine S_iconst X dX12_tell_67 ?_
              exact S_zret X (Or.inl rfl) (nle rfl) (nle rfl) dX12_tell_68 (hPo _ _ (Or.inl ⟨rfl, rfl, by omega⟩))
            ·
              subst hz_85
              subst hu_86
              refine ⟨rfl, ?_⟩
              refine S_w (ws' := [(h0, ob 11 f), (hQ, ar 30 Q), (hE, ar 6 E)]) rfl ?_
              refine S_if_eq (tgt := 67) X dX12_tell_55 (by decide) (by decide) (fun h9 => absurd h9 (by decide)) (fun _ => ?_)
              refine S_iload_n X dX12_tell_58 rfl rfl ?_
              refine S_if_ne (tgt := 69) X dX12_tell_59 (by decide) (by omega) (fun c_90 => ?_) (fun c_90 => ?_)
              ·
                refine S_iload_n X dX12_tell_69 rfl rfl ?_
                refine S_iconst X dX12_tell_70 ?_
                refine S_icmp_ne (tgt := 84) X dX12_tell_71 (by decide) (by omega) (by decide) (fun c_91 => ?_) (fun c_91 => ?_)
                ·
                  refine S_aload_n X dX12_tell_84 rfl rfl ?_
                  refine S_get X fgX12_43_11 0 rfl hf1 dX12_tell_85 ?_
                  refine S_iconst X dX12_tell_88 ?_
                  refine S_iload_n X dX12_tell_89 rfl rfl ?_
                  refine S_imul X dX12_tell_90 ?_
                  refine S_iload_n X dX12_tell_91 rfl rfl ?_
                  refine S_if_ne (tgt := 99) X dX12_tell_92 (by decide) (by omega) (fun c_92 => ?_) (fun c_92 => ?_)
                  ·
                    refine S_iconst X dX12_tell_99 ?_
                    refine S_iadd X dX12_tell_100 ?_
                    refine S_iload_n X dX12_tell_101 rfl rfl ?_
                    refine S_iast X 1 rfl (by omega) (by omega) (nle rfl) dX12_tell_102 ?_
                    refine S_w (ws' := [(h0, ob 11 f), (hQ, ar 30 (uZ Q ((5 * pp) + 4) x)), (hE, ar 6 E)]) rfl ?_
                    refine S_iconst X dX12_tell_103 ?_
                    exact S_zret X (Or.inr rfl) (nle rfl) (nle rfl) dX12_tell_104 (hPo _ _ (Or.inr (Or.inr (Or.inl ⟨rfl, rfl, by omega⟩))))
                  ·
                    refine S_iconst X dX12_tell_95 ?_
                    refine S_goto (tgt := 100) X dX12_tell_96 (by decide) ?_
                    refine S_iadd X dX12_tell_100 ?_
                    refine S_iload_n X dX12_tell_101 rfl rfl ?_
                    refine S_iast X 1 rfl (by omega) (by omega) (nle rfl) dX12_tell_102 ?_
                    refine S_w (ws' := [(h0, ob 11 f), (hQ, ar 30 (uZ Q ((5 * pp) + 3) x)), (hE, ar 6 E)]) rfl ?_
                    refine S_iconst X dX12_tell_103 ?_
                    exact S_zret X (Or.inr rfl) (nle rfl) (nle rfl) dX12_tell_104 (hPo _ _ (Or.inr (Or.inl ⟨rfl, rfl, by omega⟩)))
                ·
                  refine S_aload_n X dX12_tell_74 rfl rfl ?_
                  refine S_get X fgX12_49_11 0 rfl hf2 dX12_tell_75 ?_
                  refine S_iload_n X dX12_tell_78 rfl rfl ?_
                  refine S_iload_n X dX12_tell_79 rfl rfl ?_
                  refine S_iast X 2 rfl (by omega) (by omega) (nle rfl) dX12_tell_80 ?_
                  refine S_w (ws' := [(h0, ob 11 f), (hQ, ar 30 Q), (hE, ar 6 (uZ E pp x))]) rfl ?_
                  refine S_goto (tgt := 103) X dX12_tell_81 (by decide) ?_
                  refine S_iconst X dX12_tell_103 ?_
                  exact S_zret X (Or.inr rfl) (nle rfl) (nle rfl) dX12_tell_104 (hPo _ _ (Or.inr (Or.inr (Or.inr ⟨rfl, rfl, by omega⟩))))
              ·
                refine S_iload_n X dX12_tell_62 rfl rfl ?_
                refine S_iload_n X dX12_tell_63 rfl rfl ?_
                refine S_icmp_ne (tgt := 69) X dX12_tell_64 (by decide) (by omega) (by omega) (fun c_93 => ?_) (fun c_93 => ?_)
                ·
                  refine S_iload_n X dX12_tell_69 rfl rfl ?_
                  refine S_iconst X dX12_tell_70 ?_
                  refine S_icmp_ne (tgt := 84) X dX12_tell_71 (by decide) (by omega) (by decide) (fun c_94 => ?_) (fun c_94 => ?_)
                  ·
                    refine S_aload_n X dX12_tell_84 rfl rfl ?_
                    refine S_get X fgX12_43_11 0 rfl hf1 dX12_tell_85 ?_
                    refine S_iconst X dX12_tell_88 ?_
                    refine S_iload_n X dX12_tell_89 rfl rfl ?_
                    refine S_imul X dX12_tell_90 ?_
                    refine S_iload_n X dX12_tell_91 rfl rfl ?_
                    refine S_if_ne (tgt := 99) X dX12_tell_92 (by decide) (by omega) (fun c_95 => ?_) (fun c_95 => ?_)
                    ·
                      refine S_iconst X dX12_tell_99 ?_
                      refine S_iadd X dX12_tell_100 ?_
                      refine S_iload_n X dX12_tell_101 rfl rfl ?_
                      refine S_iast X 1 rfl (by omega) (by omega) (nle rfl) dX12_tell_102 ?_
                      refine S_w (ws' := [(h0, ob 11 f), (hQ, ar 30 (uZ Q ((5 * pp) + 4) x)), (hE, ar 6 E)]) rfl ?_
                      refine S_iconst X dX12_tell_103 ?_
                      exact S_zret X (Or.inr rfl) (nle rfl) (nle rfl) dX12_tell_104 (hPo _ _ (Or.inr (Or.inr (Or.inl ⟨rfl, rfl, by omega⟩))))
                    ·
                      refine S_iconst X dX12_tell_95 ?_
                      refine S_goto (tgt := 100) X dX12_tell_96 (by decide) ?_
                      refine S_iadd X dX12_tell_100 ?_
                      refine S_iload_n X dX12_tell_101 rfl rfl ?_
                      refine S_iast X 1 rfl (by omega) (by omega) (nle rfl) dX12_tell_102 ?_
                      refine S_w (ws' := [(h0, ob 11 f), (hQ, ar 30 (uZ Q ((5 * pp) + 3) x)), (hE, ar 6 E)]) rfl ?_
                      refine S_iconst X dX12_tell_103 ?_
                      exact S_zret X (Or.inr rfl) (nle rfl) (nle rfl) dX12_tell_104 (hPo _ _ (Or.inr (Or.inl ⟨rfl, rfl, by omega⟩)))
                  ·
                    refine S_aload_n X dX12_tell_74 rfl rfl ?_
                    refine S_get X fgX12_49_11 0 rfl hf2 dX12_tell_75 ?_
                    refine S_iload_n X dX12_tell_78 rfl rfl ?_
                    refine S_iload_n X dX12_tell_79 rfl rfl ?_
                    refine S_iast X 2 rfl (by omega) (by omega) (nle rfl) dX12_tell_80 ?_
                    refine S_w (ws' := [(h0, ob 11 f), (hQ, ar 30 Q), (hE, ar 6 (uZ E pp x))]) rfl ?_
                    refine S_goto (tgt := 103) X dX12_tell_81 (by decide) ?_
                    refine S_iconst X dX12_tell_103 ?_
                    exact S_zret X (Or.inr rfl) (nle rfl) (nle rfl) dX12_tell_104 (hPo _ _ (Or.inr (Or.inr (Or.inr ⟨rfl, rfl, by omega⟩))))
                ·
                  refine S_iconst X dX12_tell_67 ?_
                  exact S_zret X (Or.inl rfl) (nle rfl) (nle rfl) dX12_tell_68 (hPo _ _ (Or.inl ⟨rfl, rfl, by omega⟩))
          ·
            refine S_bipush X dX12_tell_45 rfl ?_
            refine S_goto (tgt := 52) X dX12_tell_47 (by decide) ?_
            refine S_calli X (kX12_in l x (-1) 10 (by omega) (by omega) (by omega)) (is := []) rfl (run_S X lkX12_216 (is := []) (avs := [iv x, iv (-1), iv 10]) (rest := []) rfl rfl (nle rfl) ⟨nle rfl, nle rfl⟩ ⟨nle rfl, nle rfl⟩ dX12_tell_52 (by decide) rfl) (fun z_98 u_96 hp_97 => ?_)
            rcases hp_97 with ⟨hz_99, hu_100, hq_101⟩ | ⟨hz_102, hu_103, hq_104⟩
            ·
              subst hz_99
              subst hu_100
              refine ⟨rfl, ?_⟩
              refine S_w (ws' := [(h0, ob 11 f), (hQ, ar 30 Q), (hE, ar 6 E)]) rfl ?_
              refine S_if_eq (tgt := 67) X dX12_tell_55 (by decide) (by decide) (fun _ => ?_) (fun h9 => absurd h9 (by decide))
              refine S_iconst X dX12_tell_67 ?_
              exact S_zret X (Or.inl rfl) (nle rfl) (nle rfl) dX12_tell_68 (hPo _ _ (Or.inl ⟨rfl, rfl, by omega⟩))
            ·
              subst hz_102
              subst hu_103
              refine ⟨rfl, ?_⟩
              refine S_w (ws' := [(h0, ob 11 f), (hQ, ar 30 Q), (hE, ar 6 E)]) rfl ?_
              refine S_if_eq (tgt := 67) X dX12_tell_55 (by decide) (by decide) (fun h9 => absurd h9 (by decide)) (fun _ => ?_)
              refine S_iload_n X dX12_tell_58 rfl rfl ?_
              refine S_if_ne (tgt := 69) X dX12_tell_59 (by decide) (by omega) (fun c_107 => ?_) (fun c_107 => ?_)
              ·
                refine S_iload_n X dX12_tell_69 rfl rfl ?_
                refine S_iconst X dX12_tell_70 ?_
                refine S_icmp_ne (tgt := 84) X dX12_tell_71 (by decide) (by omega) (by decide) (fun c_108 => ?_) (fun c_108 => ?_)
                ·
                  refine S_aload_n X dX12_tell_84 rfl rfl ?_
                  refine S_get X fgX12_43_11 0 rfl hf1 dX12_tell_85 ?_
                  refine S_iconst X dX12_tell_88 ?_
                  refine S_iload_n X dX12_tell_89 rfl rfl ?_
                  refine S_imul X dX12_tell_90 ?_
                  refine S_iload_n X dX12_tell_91 rfl rfl ?_
                  refine S_if_ne (tgt := 99) X dX12_tell_92 (by decide) (by omega) (fun c_109 => ?_) (fun c_109 => ?_)
                  ·
                    refine S_iconst X dX12_tell_99 ?_
                    refine S_iadd X dX12_tell_100 ?_
                    refine S_iload_n X dX12_tell_101 rfl rfl ?_
                    refine S_iast X 1 rfl (by omega) (by omega) (nle rfl) dX12_tell_102 ?_
                    refine S_w (ws' := [(h0, ob 11 f), (hQ, ar 30 (uZ Q ((5 * pp) + 4) x)), (hE, ar 6 E)]) rfl ?_
                    refine S_iconst X dX12_tell_103 ?_
                    exact S_zret X (Or.inr rfl) (nle rfl) (nle rfl) dX12_tell_104 (hPo _ _ (Or.inr (Or.inr (Or.inl ⟨rfl, rfl, by omega⟩))))
                  ·
                    refine S_iconst X dX12_tell_95 ?_
                    refine S_goto (tgt := 100) X dX12_tell_96 (by decide) ?_
                    refine S_iadd X dX12_tell_100 ?_
                    refine S_iload_n X dX12_tell_101 rfl rfl ?_
                    refine S_iast X 1 rfl (by omega) (by omega) (nle rfl) dX12_tell_102 ?_
                    refine S_w (ws' := [(h0, ob 11 f), (hQ, ar 30 (uZ Q ((5 * pp) + 3) x)), (hE, ar 6 E)]) rfl ?_
                    refine S_iconst X dX12_tell_103 ?_
                    exact S_zret X (Or.inr rfl) (nle rfl) (nle rfl) dX12_tell_104 (hPo _ _ (Or.inr (Or.inl ⟨rfl, rfl, by omega⟩)))
                ·
                  refine S_aload_n X dX12_tell_74 rfl rfl ?_
                  refine S_get X fgX12_49_11 0 rfl hf2 dX12_tell_75 ?_
                  refine S_iload_n X dX12_tell_78 rfl rfl ?_
                  refine S_iload_n X dX12_tell_79 rfl rfl ?_
                  refine S_iast X 2 rfl (by omega) (by omega) (nle rfl) dX12_tell_80 ?_
                  refine S_w (ws' := [(h0, ob 11 f), (hQ, ar 30 Q), (hE, ar 6 (uZ E pp x))]) rfl ?_
                  refine S_goto (tgt := 103) X dX12_tell_81 (by decide) ?_
                  refine S_iconst X dX12_tell_103 ?_
                  exact S_zret X (Or.inr rfl) (nle rfl) (nle rfl) dX12_tell_104 (hPo _ _ (Or.inr (Or.inr (Or.inr ⟨rfl, rfl, by omega⟩))))
              ·
                refine S_iload_n X dX12_tell_62 rfl rfl ?_
                refine S_iload_n X dX12_tell_63 rfl rfl ?_
                refine S_icmp_ne (tgt := 69) X dX12_tell_64 (by decide) (by omega) (by omega) (fun c_110 => ?_) (fun c_110 => ?_)
                ·
                  refine S_iload_n X dX12_tell_69 rfl rfl ?_
                  refine S_iconst X dX12_tell_70 ?_
                  refine S_icmp_ne (tgt := 84) X dX12_tell_71 (by decide) (by omega) (by decide) (fun c_111 => ?_) (fun c_111 => ?_)
                  ·
                    refine S_aload_n X dX12_tell_84 rfl rfl ?_
                    refine S_get X fgX12_43_11 0 rfl hf1 dX12_tell_85 ?_
                    refine S_iconst X dX12_tell_88 ?_
                    refine S_iload_n X dX12_tell_89 rfl rfl ?_
                    refine S_imul X dX12_tell_90 ?_
                    refine S_iload_n X dX12_tell_91 rfl rfl ?_
                    refine S_if_ne (tgt := 99) X dX12_tell_92 (by decide) (by omega) (fun c_112 => ?_) (fun c_112 => ?_)
                    ·
                      refine S_iconst X dX12_tell_99 ?_
                      refine S_iadd X dX12_tell_100 ?_
                      refine S_iload_n X dX12_tell_101 rfl rfl ?_
                      refine S_iast X 1 rfl (by omega) (by omega) (nle rfl) dX12_tell_102 ?_
                      refine S_w (ws' := [(h0, ob 11 f), (hQ, ar 30 (uZ Q ((5 * pp) + 4) x)), (hE, ar 6 E)]) rfl ?_
                      refine S_iconst X dX12_tell_103 ?_
                      exact S_zret X (Or.inr rfl) (nle rfl) (nle rfl) dX12_tell_104 (hPo _ _ (Or.inr (Or.inr (Or.inl ⟨rfl, rfl, by omega⟩))))
                    ·
                      refine S_iconst X dX12_tell_95 ?_
                      refine S_goto (tgt := 100) X dX12_tell_96 (by decide) ?_
                      refine S_iadd X dX12_tell_100 ?_
                      refine S_iload_n X dX12_tell_101 rfl rfl ?_
                      refine S_iast X 1 rfl (by omega) (by omega) (nle rfl) dX12_tell_102 ?_
                      refine S_w (ws' := [(h0, ob 11 f), (hQ, ar 30 (uZ Q ((5 * pp) + 3) x)), (hE, ar 6 E)]) rfl ?_
                      refine S_iconst X dX12_tell_103 ?_
                      exact S_zret X (Or.inr rfl) (nle rfl) (nle rfl) dX12_tell_104 (hPo _ _ (Or.inr (Or.inl ⟨rfl, rfl, by omega⟩)))
                  ·
                    refine S_aload_n X dX12_tell_74 rfl rfl ?_
                    refine S_get X fgX12_49_11 0 rfl hf2 dX12_tell_75 ?_
                    refine S_iload_n X dX12_tell_78 rfl rfl ?_
                    refine S_iload_n X dX12_tell_79 rfl rfl ?_
                    refine S_iast X 2 rfl (by omega) (by omega) (nle rfl) dX12_tell_80 ?_
                    refine S_w (ws' := [(h0, ob 11 f), (hQ, ar 30 Q), (hE, ar 6 (uZ E pp x))]) rfl ?_
                    refine S_goto (tgt := 103) X dX12_tell_81 (by decide) ?_
                    refine S_iconst X dX12_tell_103 ?_
                    exact S_zret X (Or.inr rfl) (nle rfl) (nle rfl) dX12_tell_104 (hPo _ _ (Or.inr (Or.inr (Or.inr ⟨rfl, rfl, by omega⟩))))
                ·
                  refine S_iconst X dX12_tell_67 ?_
                  exact S_zret X (Or.inl rfl) (nle rfl) (nle rfl) dX12_tell_68 (hPo _ _ (Or.inl ⟨rfl, rfl, by omega⟩))
        ·
          refine S_aload_n X dX12_tell_31 rfl rfl ?_
          refine S_get X fgX12_253_11 0 rfl hf0 dX12_tell_32 ?_
          refine S_iconst X dX12_tell_35 ?_
          refine S_isub X dX12_tell_36 ?_
          refine S_goto (tgt := 52) X dX12_tell_37 (by decide) ?_
          refine S_calli X (kX12_in l x (-1) (pl - 1) (by omega) (by omega) (by omega)) (is := []) rfl (run_S X lkX12_216 (is := []) (avs := [iv x, iv (-1), iv (pl - 1)]) (rest := []) rfl rfl (nle rfl) ⟨nle rfl, nle rfl⟩ ⟨nle rfl, nle rfl⟩ dX12_tell_52 (by decide) rfl) (fun z_115 u_113 hp_114 => ?_)
          rcases hp_114 with ⟨hz_116, hu_117, hq_118⟩ | ⟨hz_119, hu_120, hq_121⟩
          ·
            subst hz_116
            subst hu_117
            refine ⟨rfl, ?_⟩
            refine S_w (ws' := [(h0, ob 11 f), (hQ, ar 30 Q), (hE, ar 6 E)]) rfl ?_
            refine S_if_eq (tgt := 67) X dX12_tell_55 (by decide) (by decide) (fun _ => ?_) (fun h9 => absurd h9 (by decide))
            refine S_iconst X dX12_tell_67 ?_
            exact S_zret X (Or.inl rfl) (nle rfl) (nle rfl) dX12_tell_68 (hPo _ _ (Or.inl ⟨rfl, rfl, by omega⟩))
          ·
            subst hz_119
            subst hu_120
            refine ⟨rfl, ?_⟩
            refine S_w (ws' := [(h0, ob 11 f), (hQ, ar 30 Q), (hE, ar 6 E)]) rfl ?_
            refine S_if_eq (tgt := 67) X dX12_tell_55 (by decide) (by decide) (fun h9 => absurd h9 (by decide)) (fun _ => ?_)
            refine S_iload_n X dX12_tell_58 rfl rfl ?_
            refine S_if_ne (tgt := 69) X dX12_tell_59 (by decide) (by omega) (fun c_124 => ?_) (fun c_124 => ?_)
            ·
              refine S_iload_n X dX12_tell_69 rfl rfl ?_
              refine S_iconst X dX12_tell_70 ?_
              refine S_icmp_ne (tgt := 84) X dX12_tell_71 (by decide) (by omega) (by decide) (fun c_125 => ?_) (fun c_125 => ?_)
              ·
                refine S_aload_n X dX12_tell_84 rfl rfl ?_
                refine S_get X fgX12_43_11 0 rfl hf1 dX12_tell_85 ?_
                refine S_iconst X dX12_tell_88 ?_
                refine S_iload_n X dX12_tell_89 rfl rfl ?_
                refine S_imul X dX12_tell_90 ?_
                refine S_iload_n X dX12_tell_91 rfl rfl ?_
                refine S_if_ne (tgt := 99) X dX12_tell_92 (by decide) (by omega) (fun c_126 => ?_) (fun c_126 => ?_)
                ·
                  refine S_iconst X dX12_tell_99 ?_
                  refine S_iadd X dX12_tell_100 ?_
                  refine S_iload_n X dX12_tell_101 rfl rfl ?_
                  refine S_iast X 1 rfl (by omega) (by omega) (nle rfl) dX12_tell_102 ?_
                  refine S_w (ws' := [(h0, ob 11 f), (hQ, ar 30 (uZ Q ((5 * pp) + 4) x)), (hE, ar 6 E)]) rfl ?_
                  refine S_iconst X dX12_tell_103 ?_
                  exact S_zret X (Or.inr rfl) (nle rfl) (nle rfl) dX12_tell_104 (hPo _ _ (Or.inr (Or.inr (Or.inl ⟨rfl, rfl, by omega⟩))))
                ·
                  refine S_iconst X dX12_tell_95 ?_
                  refine S_goto (tgt := 100) X dX12_tell_96 (by decide) ?_
                  refine S_iadd X dX12_tell_100 ?_
                  refine S_iload_n X dX12_tell_101 rfl rfl ?_
                  refine S_iast X 1 rfl (by omega) (by omega) (nle rfl) dX12_tell_102 ?_
                  refine S_w (ws' := [(h0, ob 11 f), (hQ, ar 30 (uZ Q ((5 * pp) + 3) x)), (hE, ar 6 E)]) rfl ?_
                  refine S_iconst X dX12_tell_103 ?_
                  exact S_zret X (Or.inr rfl) (nle rfl) (nle rfl) dX12_tell_104 (hPo _ _ (Or.inr (Or.inl ⟨rfl, rfl, by omega⟩)))
              ·
                refine S_aload_n X dX12_tell_74 rfl rfl ?_
                refine S_get X fgX12_49_11 0 rfl hf2 dX12_tell_75 ?_
                refine S_iload_n X dX12_tell_78 rfl rfl ?_
                refine S_iload_n X dX12_tell_79 rfl rfl ?_
                refine S_iast X 2 rfl (by omega) (by omega) (nle rfl) dX12_tell_80 ?_
                refine S_w (ws' := [(h0, ob 11 f), (hQ, ar 30 Q), (hE, ar 6 (uZ E pp x))]) rfl ?_
                refine S_goto (tgt := 103) X dX12_tell_81 (by decide) ?_
                refine S_iconst X dX12_tell_103 ?_
                exact S_zret X (Or.inr rfl) (nle rfl) (nle rfl) dX12_tell_104 (hPo _ _ (Or.inr (Or.inr (Or.inr ⟨rfl, rfl, by omega⟩))))
            ·
              refine S_iload_n X dX12_tell_62 rfl rfl ?_
              refine S_iload_n X dX12_tell_63 rfl rfl ?_
              refine S_icmp_ne (tgt := 69) X dX12_tell_64 (by decide) (by omega) (by omega) (fun c_127 => ?_) (fun c_127 => ?_)
              ·
                refine S_iload_n X dX12_tell_69 rfl rfl ?_
                refine S_iconst X dX12_tell_70 ?_
                refine S_icmp_ne (tgt := 84) X dX12_tell_71 (by decide) (by omega) (by decide) (fun c_128 => ?_) (fun c_128 => ?_)
                ·
                  refine S_aload_n X dX12_tell_84 rfl rfl ?_
                  refine S_get X fgX12_43_11 0 rfl hf1 dX12_tell_85 ?_
                  refine S_iconst X dX12_tell_88 ?_
                  refine S_iload_n X dX12_tell_89 rfl rfl ?_
                  refine S_imul X dX12_tell_90 ?_
                  refine S_iload_n X dX12_tell_91 rfl rfl ?_
                  refine S_if_ne (tgt := 99) X dX12_tell_92 (by decide) (by omega) (fun c_129 => ?_) (fun c_129 => ?_)
                  ·
                    refine S_iconst X dX12_tell_99 ?_
                    refine S_iadd X dX12_tell_100 ?_
                    refine S_iload_n X dX12_tell_101 rfl rfl ?_
                    refine S_iast X 1 rfl (by omega) (by omega) (nle rfl) dX12_tell_102 ?_
                    refine S_w (ws' := [(h0, ob 11 f), (hQ, ar 30 (uZ Q ((5 * pp) + 4) x)), (hE, ar 6 E)]) rfl ?_
                    refine S_iconst X dX12_tell_103 ?_
                    exact S_zret X (Or.inr rfl) (nle rfl) (nle rfl) dX12_tell_104 (hPo _ _ (Or.inr (Or.inr (Or.inl ⟨rfl, rfl, by omega⟩))))
                  ·
                    refine S_iconst X dX12_tell_95 ?_
                    refine S_goto (tgt := 100) X dX12_tell_96 (by decide) ?_
                    refine S_iadd X dX12_tell_100 ?_
                    refine S_iload_n X dX12_tell_101 rfl rfl ?_
                    refine S_iast X 1 rfl (by omega) (by omega) (nle rfl) dX12_tell_102 ?_
                    refine S_w (ws' := [(h0, ob 11 f), (hQ, ar 30 (uZ Q ((5 * pp) + 3) x)), (hE, ar 6 E)]) rfl ?_
                    refine S_iconst X dX12_tell_103 ?_
                    exact S_zret X (Or.inr rfl) (nle rfl) (nle rfl) dX12_tell_104 (hPo _ _ (Or.inr (Or.inl ⟨rfl, rfl, by omega⟩)))
                ·
                  refine S_aload_n X dX12_tell_74 rfl rfl ?_
                  refine S_get X fgX12_49_11 0 rfl hf2 dX12_tell_75 ?_
                  refine S_iload_n X dX12_tell_78 rfl rfl ?_
                  refine S_iload_n X dX12_tell_79 rfl rfl ?_
                  refine S_iast X 2 rfl (by omega) (by omega) (nle rfl) dX12_tell_80 ?_
                  refine S_w (ws' := [(h0, ob 11 f), (hQ, ar 30 Q), (hE, ar 6 (uZ E pp x))]) rfl ?_
                  refine S_goto (tgt := 103) X dX12_tell_81 (by decide) ?_
                  refine S_iconst X dX12_tell_103 ?_
                  exact S_zret X (Or.inr rfl) (nle rfl) (nle rfl) dX12_tell_104 (hPo _ _ (Or.inr (Or.inr (Or.inr ⟨rfl, rfl, by omega⟩))))
              ·
                refine S_iconst X dX12_tell_67 ?_
                exact S_zret X (Or.inl rfl) (nle rfl) (nle rfl) dX12_tell_68 (hPo _ _ (Or.inl ⟨rfl, rfl, by omega⟩))
set_option maxHeartbeats 4000000 in
set_option maxRecDepth 100000 in
theorem kX12_mark (l : Launch) (h0 : Nat) (f : Nat → AV) (pl : Int) (mk : Int) (b : Int) (v : Int) (hf0 : f 21 = iv pl) (hpl : 0 ≤ pl ∧ pl ≤ 6) (hx_b : inR b) (hv : v = 0 ∨ v = 1) : AMi l yX12_mark cX12_mark 3 .boolean 1 0 0 [rv h0, iv b, iv v] [(h0, ob 11 (uF f 26 (iv mk)))] (fun z u => (z = 0 ∧ u = [(h0, ob 11 (uF f 26 (iv mk)))] ∧ (pl = 0 ∨ b < 0 ∨ 29 < b ∨ zAnd (zShr mk b) 1 = v)) ∨ (z = 1 ∧ u = [(h0, ob 11 (uF f 26 (iv (zXor mk (zShl 1 b)))))] ∧ (1 ≤ pl ∧ 0 ≤ b ∧ b ≤ 29 ∧ zAnd (zShr mk b) 1 ≠ v))) := by
  refine AMi.of2 rfl (nle rfl) ?_
  intro D G A p e s m args below meth c Po hPo X
  refine S_aload_n X dX12_mark_0 rfl rfl ?_
  refine S_get X fgX12_253_11 0 rfl hf0 dX12_mark_1 ?_
  refine S_if_eq (tgt := 29) X dX12_mark_4 (by decide) (by omega) (fun c_1 => ?_) (fun c_1 => ?_)
  ·
    refine S_iconst X dX12_mark_29 ?_
    exact S_zret X (Or.inl rfl) (nle rfl) (nle rfl) dX12_mark_30 (hPo _ _ (Or.inl (⟨by first | rfl | omega, rfl, by first | rfl | assumption | omega⟩)))
  ·
    refine S_iload_n X dX12_mark_7 rfl rfl ?_
    refine S_iconst X dX12_mark_8 ?_
    refine S_bipush X dX12_mark_9 rfl ?_
    refine S_calli X (kX12_in l b 0 29 (by omega) (by omega) (by omega)) (is := []) rfl (run_S X lkX12_216 (is := []) (avs := [iv b, iv 0, iv 29]) (rest := []) rfl rfl (nle rfl) ⟨nle rfl, nle rfl⟩ ⟨nle rfl, nle rfl⟩ dX12_mark_11 (by decide) rfl) (fun z_4 u_2 hp_3 => ?_)
    rcases hp_3 with ⟨hz_5, hu_6, hq_7⟩ | ⟨hz_8, hu_9, hq_10⟩
    ·
      subst hz_5
      subst hu_6
      refine ⟨rfl, ?_⟩
      refine S_w (ws' := [(h0, ob 11 (uF f 26 (iv mk)))]) rfl ?_
      refine S_if_eq (tgt := 29) X dX12_mark_14 (by decide) (by decide) (fun _ => ?_) (fun h9 => absurd h9 (by decide))
      refine S_iconst X dX12_mark_29 ?_
      exact S_zret X (Or.inl rfl) (nle rfl) (nle rfl) dX12_mark_30 (hPo _ _ (Or.inl (⟨by first | rfl | omega, rfl, by first | rfl | assumption | omega⟩)))
    ·
      subst hz_8
      subst hu_9
      refine ⟨rfl, ?_⟩
      refine S_w (ws' := [(h0, ob 11 (uF f 26 (iv mk)))]) rfl ?_
      refine S_if_eq (tgt := 29) X dX12_mark_14 (by decide) (by decide) (fun h9 => absurd h9 (by decide)) (fun _ => ?_)
      have hza := zAnd1 (zShr mk b)
      refine S_aload_n X dX12_mark_17 rfl rfl ?_
      refine S_get (v := iv mk) X fgX12_265_11 0 rfl rfl dX12_mark_18 ?_
      refine S_iload_n X dX12_mark_21 rfl rfl ?_
      refine S_calli X (kX12_has l mk b ) (is := []) rfl (run_S X lkX12_226 (is := []) (avs := [iv mk, iv b]) (rest := []) rfl rfl (nle rfl) ⟨nle rfl, nle rfl⟩ ⟨nle rfl, nle rfl⟩ dX12_mark_22 (by decide) rfl) (fun z_15 u_13 hp_14 => ?_)
      rcases hp_14 with ⟨hz_16, hu_17, hq_18⟩ | ⟨hz_19, hu_20, hq_21⟩
      ·
        subst hz_16
        subst hu_17
        refine ⟨rfl, ?_⟩
        refine S_w (ws' := [(h0, ob 11 (uF f 26 (iv mk)))]) rfl ?_
        refine S_iload_n X dX12_mark_25 rfl rfl ?_
        refine S_icmp_ne (tgt := 31) X dX12_mark_26 (by decide) (by decide) (by omega) (fun c_22 => ?_) (fun c_22 => ?_)
        ·
          refine S_aload_n X dX12_mark_31 rfl rfl ?_
          refine S_dup X dX12_mark_32 ?_
          refine S_get (v := iv mk) X fgX12_265_11 0 rfl rfl dX12_mark_33 ?_
          refine S_iconst X dX12_mark_36 ?_
          refine S_iload_n X dX12_mark_37 rfl rfl ?_
          refine S_ishl X dX12_mark_38 ?_
          refine S_ixor X dX12_mark_39 ?_
          refine S_put X fpX12_265_11 0 rfl FT_i dX12_mark_40 ?_
          refine S_w (ws' := [(h0, ob 11 (uF f 26 (iv (zXor mk (zShl 1 b)))))]) (by simp only [List.set]; rw [uF_same (k := 26)]) ?_
          refine S_iconst X dX12_mark_43 ?_
          exact S_zret X (Or.inr rfl) (nle rfl) (nle rfl) dX12_mark_44 (hPo _ _ (Or.inr (⟨by first | rfl | omega, rfl, by first | rfl | assumption | omega⟩)))
        ·
          refine S_iconst X dX12_mark_29 ?_
          exact S_zret X (Or.inl rfl) (nle rfl) (nle rfl) dX12_mark_30 (hPo _ _ (Or.inl (⟨by first | rfl | omega, rfl, by first | rfl | assumption | omega⟩)))
      ·
        subst hz_19
        subst hu_20
        refine ⟨rfl, ?_⟩
        refine S_w (ws' := [(h0, ob 11 (uF f 26 (iv mk)))]) rfl ?_
        refine S_iload_n X dX12_mark_25 rfl rfl ?_
        refine S_icmp_ne (tgt := 31) X dX12_mark_26 (by decide) (by decide) (by omega) (fun c_23 => ?_) (fun c_23 => ?_)
        ·
          refine S_aload_n X dX12_mark_31 rfl rfl ?_
          refine S_dup X dX12_mark_32 ?_
          refine S_get (v := iv mk) X fgX12_265_11 0 rfl rfl dX12_mark_33 ?_
          refine S_iconst X dX12_mark_36 ?_
          refine S_iload_n X dX12_mark_37 rfl rfl ?_
          refine S_ishl X dX12_mark_38 ?_
          refine S_ixor X dX12_mark_39 ?_
          refine S_put X fpX12_265_11 0 rfl FT_i dX12_mark_40 ?_
          refine S_w (ws' := [(h0, ob 11 (uF f 26 (iv (zXor mk (zShl 1 b)))))]) (by simp only [List.set]; rw [uF_same (k := 26)]) ?_
          refine S_iconst X dX12_mark_43 ?_
          exact S_zret X (Or.inr rfl) (nle rfl) (nle rfl) dX12_mark_44 (hPo _ _ (Or.inr (⟨by first | rfl | omega, rfl, by first | rfl | assumption | omega⟩)))
        ·
          refine S_iconst X dX12_mark_29 ?_
          exact S_zret X (Or.inl rfl) (nle rfl) (nle rfl) dX12_mark_30 (hPo _ _ (Or.inl (⟨by first | rfl | omega, rfl, by first | rfl | assumption | omega⟩)))
set_option maxHeartbeats 4000000 in
set_option maxRecDepth 100000 in
theorem kX12_image (l : Launch) (h0 : Nat) (f : Nat → AV) (pl : Int) (hB : Nat) (B : Int → Int) (hib : Nat) (Ib : Int → Int) (dy : Int) (idy : Int) (hi9 : Int) (hf0 : f 21 = iv pl) (hf1 : f 23 = rv hB) (hf2 : f 47 = rv hib) (hf3 : f 25 = iv dy) (hpl : 0 ≤ pl ∧ pl ≤ 6) : AMi l yX12_image cX12_image 2 .int 0 0 0 [rv h0] [(h0, ob 11 (uF (uF f 48 (iv idy)) 49 (iv hi9))), (hB, ar 6 B), (hib, ar 6 Ib)] (fun z u => (z = -1 ∧ u = [(h0, ob 11 (uF (uF f 48 (iv idy)) 49 (iv hi9))), (hB, ar 6 B), (hib, ar 6 Ib)] ∧ pl = 0) ∨ (∃ I2 : Int → Int, z = dy ∧ u = [(h0, ob 11 (uF (uF f 48 (iv dy)) 49 (iv 1))), (hB, ar 6 B), (hib, ar 6 I2)] ∧ 1 ≤ pl ∧ (∀ x, 0 ≤ x → x < 6 → I2 x = B x))) := by
  refine AMi.of2 rfl (nle rfl) ?_
  intro D G A p e s m args below meth c Po hPo X
  refine S_aload_n X dX12_image_0 rfl rfl ?_
  refine S_get X fgX12_253_11 0 rfl hf0 dX12_image_1 ?_
  refine S_if_ne (tgt := 9) X dX12_image_4 (by decide) (by omega) (fun c_1 => ?_) (fun c_1 => ?_)
  ·
    refine S_iconst X dX12_image_9 ?_
    refine S_istore_n X dX12_image_10 rfl (nle rfl) ?_
    have lp11_1 : ∀ (N : Nat) (i : Int) (Iv : Int → Int) (L : Nat → Option AV), 0 ≤ i ∧ i ≤ 6 → (∀ x, 0 ≤ x → x < i → Iv x = B x) → L 0 = some (rv h0) → L 1 = some (iv i) → 7 - i < (N : Int) → S_ p l e (rmD 0 0 0) s m args below meth c (MQ below (QcI D G A Po) args s 0 0 A) D G A 2 0 0 11 L [] [(h0, ob 11 (uF (uF f 48 (iv idy)) 49 (iv hi9))), (hB, ar 6 B), (hib, ar 6 Iv)] := by
      intro N
      induction N with
      | zero =>
        intro i Iv L11 hi hk hL11_0 hL11_1 hN11
        exfalso; omega
      | succ N ih11 =>
        intro i Iv L11 hi hk hL11_0 hL11_1 hN11
        refine S_iload_n X dX12_image_11 rfl hL11_1 ?_
        refine S_bipush X dX12_image_12 rfl ?_
        refine S_icmp_ge (tgt := 35) X dX12_image_14 (by decide) (by omega) (by decide) (fun c_2 => ?_) (fun c_2 => ?_)
        ·
          refine S_aload_n X dX12_image_35 rfl hL11_0 ?_
          refine S_aload_n X dX12_image_36 rfl hL11_0 ?_
          refine S_get X fgX12_259_11 0 rfl hf3 dX12_image_37 ?_
          refine S_put X fpX12_368_11 0 rfl FT_i dX12_image_40 ?_
          refine S_w (ws' := [(h0, ob 11 (uF (uF f 48 (iv dy)) 49 (iv hi9))), (hB, ar 6 B), (hib, ar 6 Iv)]) (by simp only [List.set]; rw [uF_mv (j := 49) (k := 48) (by decide), uF_same (k := 48)]) ?_
          refine S_aload_n X dX12_image_43 rfl hL11_0 ?_
          refine S_iconst X dX12_image_44 ?_
          refine S_put X fpX12_271_11 0 rfl (FT_b (Or.inr rfl)) dX12_image_45 ?_
          refine S_w (ws' := [(h0, ob 11 (uF (uF f 48 (iv dy)) 49 (iv 1))), (hB, ar 6 B), (hib, ar 6 Iv)]) (by simp only [List.set]; rw [uF_same (k := 49)]) ?_
          refine S_aload_n X dX12_image_48 rfl hL11_0 ?_
          refine S_get X fgX12_259_11 0 rfl hf3 dX12_image_49 ?_
          exact S_iret X (nle rfl) (nle rfl) dX12_image_52 (hPo _ _ (Or.inr ⟨_, rfl, rfl, by omega, fun x h0 h1 => hk x h0 (by omega)⟩))
        ·
          refine S_aload_n X dX12_image_17 rfl hL11_0 ?_
          refine S_get X fgX12_98_11 0 rfl hf2 dX12_image_18 ?_
          refine S_iload_n X dX12_image_21 rfl hL11_1 ?_
          refine S_aload_n X dX12_image_22 rfl hL11_0 ?_
          refine S_get X fgX12_46_11 0 rfl hf1 dX12_image_23 ?_
          refine S_iload_n X dX12_image_26 rfl hL11_1 ?_
          refine S_iald X 1 rfl (by omega) (by omega) (nle rfl) dX12_image_27 ?_
          refine S_iast X 2 rfl (by omega) (by omega) (nle rfl) dX12_image_28 ?_
          refine S_w (ws' := [(h0, ob 11 (uF (uF f 48 (iv idy)) 49 (iv hi9))), (hB, ar 6 B), (hib, ar 6 (uZ Iv i (B i)))]) rfl ?_
          refine S_iinc X dX12_image_29 (nle rfl) hL11_1 ?_
          refine S_goto (tgt := 11) X dX12_image_32 (by decide) ?_
          exact ih11 (i + 1) (uZ Iv i (B i)) _ (by omega) (fun x h0 h1 => (by omega : x < i ∨ x = i).elim (fun q9 => by rw [uZ_ne (by omega)]; exact hk x h0 q9) (fun q9 => by rw [q9]; exact uZ_at)) hL11_0 rfl (by omega)
    exact lp11_1 (Int.toNat (7 - 0) + 1) 0 Ib _ (by omega) (fun x h0 h1 => by omega) rfl rfl (by omega)
  ·
    refine S_iconst X dX12_image_7 ?_
    exact S_iret X (nle rfl) (nle rfl) dX12_image_8 (hPo _ _ (Or.inl ⟨rfl, rfl, by omega⟩))
set_option maxHeartbeats 4000000 in
set_option maxRecDepth 100000 in
theorem kX12_back (l : Launch) (h0 : Nat) (f : Nat → AV) (hB : Nat) (B : Int → Int) (hib : Nat) (Ib : Int → Int) (dy : Int) (idy : Int) (hi9 : Int) (ac : Int) (hf0 : f 23 = rv hB) (hf1 : f 47 = rv hib) (hf2 : f 48 = iv idy) (hf3 : f 49 = iv hi9) (hh : hi9 = 0 ∨ hi9 = 1) : AMi l yX12_back cX12_back 2 .int 0 0 0 [rv h0] [(h0, ob 11 (uF (uF f 25 (iv dy)) 32 (iv ac))), (hB, ar 6 B), (hib, ar 6 Ib)] (fun z u => (z = -1 ∧ u = [(h0, ob 11 (uF (uF f 25 (iv dy)) 32 (iv ac))), (hB, ar 6 B), (hib, ar 6 Ib)] ∧ hi9 = 0) ∨ (∃ B2 : Int → Int, z = idy ∧ u = [(h0, ob 11 (uF (uF f 25 (iv idy)) 32 (iv 0))), (hB, ar 6 B2), (hib, ar 6 Ib)] ∧ hi9 = 1 ∧ (∀ x, 0 ≤ x → x < 6 → B2 x = Ib x))) := by
  refine AMi.of2 rfl (nle rfl) ?_
  intro D G A p e s m args below meth c Po hPo X
  refine S_aload_n X dX12_back_0 rfl rfl ?_
  refine S_get X fgX12_271_11 0 rfl hf3 dX12_back_1 ?_
  refine S_if_ne (tgt := 9) X dX12_back_4 (by decide) (by omega) (fun c_1 => ?_) (fun c_1 => ?_)
  ·
    refine S_iconst X dX12_back_9 ?_
    refine S_istore_n X dX12_back_10 rfl (nle rfl) ?_
    have lp11_1 : ∀ (N : Nat) (i : Int) (Bv : Int → Int) (L : Nat → Option AV), 0 ≤ i ∧ i ≤ 6 → (∀ x, 0 ≤ x → x < i → Bv x = Ib x) → L 0 = some (rv h0) → L 1 = some (iv i) → 7 - i < (N : Int) → S_ p l e (rmD 0 0 0) s m args below meth c (MQ below (QcI D G A Po) args s 0 0 A) D G A 2 0 0 11 L [] [(h0, ob 11 (uF (uF f 25 (iv dy)) 32 (iv ac))), (hB, ar 6 Bv), (hib, ar 6 Ib)] := by
      intro N
      induction N with
      | zero =>
        intro i Bv L11 hi hk hL11_0 hL11_1 hN11
        exfalso; omega
      | succ N ih11 =>
        intro i Bv L11 hi hk hL11_0 hL11_1 hN11
        refine S_iload_n X dX12_back_11 rfl hL11_1 ?_
        refine S_bipush X dX12_back_12 rfl ?_
        refine S_icmp_ge (tgt := 35) X dX12_back_14 (by decide) (by omega) (by decide) (fun c_2 => ?_) (fun c_2 => ?_)
        ·
          refine S_aload_n X dX12_back_35 rfl hL11_0 ?_
          refine S_aload_n X dX12_back_36 rfl hL11_0 ?_
          refine S_get X fgX12_368_11 0 rfl hf2 dX12_back_37 ?_
          refine S_put X fpX12_259_11 0 rfl FT_i dX12_back_40 ?_
          refine S_w (ws' := [(h0, ob 11 (uF (uF f 25 (iv idy)) 32 (iv ac))), (hB, ar 6 Bv), (hib, ar 6 Ib)]) (by simp only [List.set]; rw [uF_mv (j := 32) (k := 25) (by decide), uF_same (k := 25)]) ?_
          refine S_aload_n X dX12_back_43 rfl hL11_0 ?_
          refine S_iconst X dX12_back_44 ?_
          refine S_put X fpX12_262_11 0 rfl FT_i dX12_back_45 ?_
          refine S_w (ws' := [(h0, ob 11 (uF (uF f 25 (iv idy)) 32 (iv 0))), (hB, ar 6 Bv), (hib, ar 6 Ib)]) (by simp only [List.set]; rw [uF_same (k := 32)]) ?_
          refine S_aload_n X dX12_back_48 rfl hL11_0 ?_
          refine S_get (v := iv idy) X fgX12_259_11 0 rfl rfl dX12_back_49 ?_
          exact S_iret X (nle rfl) (nle rfl) dX12_back_52 (hPo _ _ (Or.inr ⟨_, rfl, rfl, by omega, fun x h0 h1 => hk x h0 (by omega)⟩))
        ·
          refine S_aload_n X dX12_back_17 rfl hL11_0 ?_
          refine S_get X fgX12_46_11 0 rfl hf0 dX12_back_18 ?_
          refine S_iload_n X dX12_back_21 rfl hL11_1 ?_
          refine S_aload_n X dX12_back_22 rfl hL11_0 ?_
          refine S_get X fgX12_98_11 0 rfl hf1 dX12_back_23 ?_
          refine S_iload_n X dX12_back_26 rfl hL11_1 ?_
          refine S_iald X 2 rfl (by omega) (by omega) (nle rfl) dX12_back_27 ?_
          refine S_iast X 1 rfl (by omega) (by omega) (nle rfl) dX12_back_28 ?_
          refine S_w (ws' := [(h0, ob 11 (uF (uF f 25 (iv dy)) 32 (iv ac))), (hB, ar 6 (uZ Bv i (Ib i))), (hib, ar 6 Ib)]) rfl ?_
          refine S_iinc X dX12_back_29 (nle rfl) hL11_1 ?_
          refine S_goto (tgt := 11) X dX12_back_32 (by decide) ?_
          exact ih11 (i + 1) (uZ Bv i (Ib i)) _ (by omega) (fun x h0 h1 => (by omega : x < i ∨ x = i).elim (fun q9 => by rw [uZ_ne (by omega)]; exact hk x h0 q9) (fun q9 => by rw [q9]; exact uZ_at)) hL11_0 rfl (by omega)
    exact lp11_1 (Int.toNat (7 - 0) + 1) 0 B _ (by omega) (fun x h0 h1 => by omega) rfl rfl (by omega)
  ·
    refine S_iconst X dX12_back_7 ?_
    exact S_iret X (nle rfl) (nle rfl) dX12_back_8 (hPo _ _ (Or.inl ⟨rfl, rfl, by omega⟩))
set_option maxHeartbeats 4000000 in
set_option maxRecDepth 100000 in
theorem kX12_undo (l : Launch) (h0 : Nat) (f : Nat → AV) (hB : Nat) (B : Int → Int) (dy : Int) (ac : Int) (hK : Nat) (K : Int → Int) (hf0 : f 23 = rv hB) (hf1 : f 31 = rv hK) (hac : 0 ≤ ac ∧ ac ≤ 60) : AMi l yX12_undo cX12_undo 2 .int 0 0 0 [rv h0] [(h0, ob 11 (uF (uF f 25 (iv dy)) 32 (iv ac))), (hB, ar 6 B), (hK, ar 360 K)] (fun z u => (z = -1 ∧ u = [(h0, ob 11 (uF (uF f 25 (iv dy)) 32 (iv ac))), (hB, ar 6 B), (hK, ar 360 K)] ∧ ac = 0) ∨ (∃ B2 : Int → Int, z = dy - 1 ∧ u = [(h0, ob 11 (uF (uF f 25 (iv (dy - 1))) 32 (iv (ac - 1)))), (hB, ar 6 B2), (hK, ar 360 K)] ∧ 1 ≤ ac ∧ (∀ x, 0 ≤ x → x < 6 → B2 x = K (6 * (ac - 1) + x)))) := by
  refine AMi.of2 rfl (nle rfl) ?_
  intro D G A p e s m args below meth c Po hPo X
  refine S_aload_n X dX12_undo_0 rfl rfl ?_
  refine S_get (v := iv ac) X fgX12_262_11 0 rfl rfl dX12_undo_1 ?_
  refine S_if_ne (tgt := 9) X dX12_undo_4 (by decide) (by omega) (fun c_1 => ?_) (fun c_1 => ?_)
  ·
    refine S_aload_n X dX12_undo_9 rfl rfl ?_
    refine S_dup X dX12_undo_10 ?_
    refine S_get (v := iv ac) X fgX12_262_11 0 rfl rfl dX12_undo_11 ?_
    refine S_iconst X dX12_undo_14 ?_
    refine S_isub X dX12_undo_15 ?_
    refine S_put X fpX12_262_11 0 rfl FT_i dX12_undo_16 ?_
    refine S_w (ws' := [(h0, ob 11 (uF (uF f 25 (iv dy)) 32 (iv (ac - 1)))), (hB, ar 6 B), (hK, ar 360 K)]) (by simp only [List.set]; rw [uF_same (k := 32)]) ?_
    refine S_iconst X dX12_undo_19 ?_
    refine S_istore_n X dX12_undo_20 rfl (nle rfl) ?_
    have lp21_1 : ∀ (N : Nat) (i : Int) (Bv : Int → Int) (L : Nat → Option AV), 0 ≤ i ∧ i ≤ 6 → (∀ x, 0 ≤ x → x < i → Bv x = K (6 * (ac - 1) + x)) → L 0 = some (rv h0) → L 1 = some (iv i) → 7 - i < (N : Int) → S_ p l e (rmD 0 0 0) s m args below meth c (MQ below (QcI D G A Po) args s 0 0 A) D G A 2 0 0 21 L [] [(h0, ob 11 (uF (uF f 25 (iv dy)) 32 (iv (ac - 1)))), (hB, ar 6 Bv), (hK, ar 360 K)] := by
      intro N
      induction N with
      | zero =>
        intro i Bv L21 hi hk hL21_0 hL21_1 hN21
        exfalso; omega
      | succ N ih21 =>
        intro i Bv L21 hi hk hL21_0 hL21_1 hN21
        refine S_iload_n X dX12_undo_21 rfl hL21_1 ?_
        refine S_bipush X dX12_undo_22 rfl ?_
        refine S_icmp_ge (tgt := 53) X dX12_undo_24 (by decide) (by omega) (by decide) (fun c_2 => ?_) (fun c_2 => ?_)
        ·
          refine S_aload_n X dX12_undo_53 rfl hL21_0 ?_
          refine S_dup X dX12_undo_54 ?_
          refine S_get (v := iv dy) X fgX12_259_11 0 rfl rfl dX12_undo_55 ?_
          refine S_iconst X dX12_undo_58 ?_
          refine S_isub X dX12_undo_59 ?_
          refine S_put X fpX12_259_11 0 rfl FT_i dX12_undo_60 ?_
          refine S_w (ws' := [(h0, ob 11 (uF (uF f 25 (iv (dy - 1))) 32 (iv (ac - 1)))), (hB, ar 6 Bv), (hK, ar 360 K)]) (by simp only [List.set]; rw [uF_mv (j := 32) (k := 25) (by decide), uF_same (k := 25)]) ?_
          refine S_aload_n X dX12_undo_63 rfl hL21_0 ?_
          refine S_get (v := iv (dy - 1)) X fgX12_259_11 0 rfl rfl dX12_undo_64 ?_
          exact S_iret X (nle rfl) (nle rfl) dX12_undo_67 (hPo _ _ (Or.inr ⟨_, rfl, rfl, by omega, fun x h0 h1 => hk x h0 (by omega)⟩))
        ·
          refine S_aload_n X dX12_undo_27 rfl hL21_0 ?_
          refine S_get X fgX12_46_11 0 rfl hf0 dX12_undo_28 ?_
          refine S_iload_n X dX12_undo_31 rfl hL21_1 ?_
          refine S_aload_n X dX12_undo_32 rfl hL21_0 ?_
          refine S_get X fgX12_62_11 0 rfl hf1 dX12_undo_33 ?_
          refine S_bipush X dX12_undo_36 rfl ?_
          refine S_aload_n X dX12_undo_38 rfl hL21_0 ?_
          refine S_get (v := iv (ac - 1)) X fgX12_262_11 0 rfl rfl dX12_undo_39 ?_
          refine S_imul X dX12_undo_42 ?_
          refine S_iload_n X dX12_undo_43 rfl hL21_1 ?_
          refine S_iadd X dX12_undo_44 ?_
          refine S_iald X 2 rfl (by omega) (by omega) (nle rfl) dX12_undo_45 ?_
          refine S_iast X 1 rfl (by omega) (by omega) (nle rfl) dX12_undo_46 ?_
          refine S_w (ws' := [(h0, ob 11 (uF (uF f 25 (iv dy)) 32 (iv (ac - 1)))), (hB, ar 6 (uZ Bv i (K ((6 * (ac - 1)) + i)))), (hK, ar 360 K)]) rfl ?_
          refine S_iinc X dX12_undo_47 (nle rfl) hL21_1 ?_
          refine S_goto (tgt := 21) X dX12_undo_50 (by decide) ?_
          exact ih21 (i + 1) (uZ Bv i (K ((6 * (ac - 1)) + i))) _ (by omega) (fun x h0 h1 => (by omega : x < i ∨ x = i).elim (fun q9 => by rw [uZ_ne (by omega)]; exact hk x h0 q9) (fun q9 => by rw [q9]; exact uZ_at)) hL21_0 rfl (by omega)
    exact lp21_1 (Int.toNat (7 - 0) + 1) 0 B _ (by omega) (fun x h0 h1 => by omega) rfl rfl (by omega)
  ·
    refine S_iconst X dX12_undo_7 ?_
    exact S_iret X (nle rfl) (nle rfl) dX12_undo_8 (hPo _ _ (Or.inl ⟨rfl, rfl, by omega⟩))
set_option maxHeartbeats 4000000 in
set_option maxRecDepth 100000 in
theorem kX12_roll (l : Launch) (h0 : Nat) (f : Nat → AV) (pl : Int) (rl : Int) (hrp : Nat) (hrb : Nat) (hrt : Nat) (RP : Int → Int) (RB : Int → Int) (RT : Int → Int) (pp : Int) (b : Int) (t : Int) (hf0 : f 21 = iv pl) (hf1 : f 43 = rv hrp) (hf2 : f 44 = rv hrb) (hf3 : f 45 = rv hrt) (hpl : 0 ≤ pl ∧ pl ≤ 6) (hrl : 0 ≤ rl ∧ rl ≤ 20) (hx_pp : inR pp) (hx_b : inR b) (hx_t : inR t) : AMi l yX12_roll cX12_roll 4 .int 2 0 0 [rv h0, iv pp, iv b, iv t] [(h0, ob 11 (uF f 46 (iv rl))), (hrp, ar 20 RP), (hrb, ar 20 RB), (hrt, ar 20 RT)] (fun z u => (z = -1 ∧ u = [(h0, ob 11 (uF f 46 (iv rl))), (hrp, ar 20 RP), (hrb, ar 20 RB), (hrt, ar 20 RT)] ∧ (¬ ((0 ≤ pp ∧ pp < pl) ∧ (0 ≤ b ∧ b ≤ 29) ∧ (0 ≤ t ∧ t ≤ 9999) ∧ rl < 20))) ∨ (z = rl + 1 ∧ u = [(h0, ob 11 (uF f 46 (iv (rl + 1)))), (hrp, ar 20 (uZ RP rl pp)), (hrb, ar 20 (uZ RB rl b)), (hrt, ar 20 (uZ RT rl t))] ∧ ((0 ≤ pp ∧ pp < pl) ∧ (0 ≤ b ∧ b ≤ 29) ∧ (0 ≤ t ∧ t ≤ 9999) ∧ rl < 20))) := by
  refine AMi.of2 rfl (nle rfl) ?_
  intro D G A p e s m args below meth c Po hPo X
  refine S_aload_n X dX12_roll_0 rfl rfl ?_
  refine S_iload_n X dX12_roll_1 rfl rfl ?_
  refine S_calli X (kX12_isPlayer l h0 (uF f 46 (iv rl)) pl pp hf0 (by omega) (by omega)) (is := [0]) rfl (run_V X lkX12_281 0 rfl rfl (is := [0]) (avs := [iv pp]) (rest := []) rfl rfl (nle rfl) ⟨nle rfl, nle rfl⟩ ⟨nle rfl, nle rfl⟩ dX12_roll_2 (by decide) rfl) (fun z_3 u_1 hp_2 => ?_)
  rcases hp_2 with ⟨hz_4, hu_5, hq_6⟩ | ⟨hz_7, hu_8, hq_9⟩
  ·
    subst hz_4
    subst hu_5
    refine ⟨rfl, ?_⟩
    refine S_w (ws' := [(h0, ob 11 (uF f 46 (iv rl))), (hrp, ar 20 RP), (hrb, ar 20 RB), (hrt, ar 20 RT)]) rfl ?_
    refine S_if_eq (tgt := 38) X dX12_roll_5 (by decide) (by decide) (fun _ => ?_) (fun h9 => absurd h9 (by decide))
    refine S_iconst X dX12_roll_38 ?_
    exact S_iret X (nle rfl) (nle rfl) dX12_roll_39 (hPo _ _ (Or.inl (⟨by first | rfl | omega, rfl, by first | rfl | assumption | omega⟩)))
  ·
    subst hz_7
    subst hu_8
    refine ⟨rfl, ?_⟩
    refine S_w (ws' := [(h0, ob 11 (uF f 46 (iv rl))), (hrp, ar 20 RP), (hrb, ar 20 RB), (hrt, ar 20 RT)]) rfl ?_
    refine S_if_eq (tgt := 38) X dX12_roll_5 (by decide) (by decide) (fun h9 => absurd h9 (by decide)) (fun _ => ?_)
    refine S_iload_n X dX12_roll_8 rfl rfl ?_
    refine S_iconst X dX12_roll_9 ?_
    refine S_bipush X dX12_roll_10 rfl ?_
    refine S_calli X (kX12_in l b 0 29 (by omega) (by omega) (by omega)) (is := []) rfl (run_S X lkX12_216 (is := []) (avs := [iv b, iv 0, iv 29]) (rest := []) rfl rfl (nle rfl) ⟨nle rfl, nle rfl⟩ ⟨nle rfl, nle rfl⟩ dX12_roll_12 (by decide) rfl) (fun z_14 u_12 hp_13 => ?_)
    rcases hp_13 with ⟨hz_15, hu_16, hq_17⟩ | ⟨hz_18, hu_19, hq_20⟩
    ·
      subst hz_15
      subst hu_16
      refine ⟨rfl, ?_⟩
      refine S_w (ws' := [(h0, ob 11 (uF f 46 (iv rl))), (hrp, ar 20 RP), (hrb, ar 20 RB), (hrt, ar 20 RT)]) rfl ?_
      refine S_if_eq (tgt := 38) X dX12_roll_15 (by decide) (by decide) (fun _ => ?_) (fun h9 => absurd h9 (by decide))
      refine S_iconst X dX12_roll_38 ?_
      exact S_iret X (nle rfl) (nle rfl) dX12_roll_39 (hPo _ _ (Or.inl (⟨by first | rfl | omega, rfl, by first | rfl | assumption | omega⟩)))
    ·
      subst hz_18
      subst hu_19
      refine ⟨rfl, ?_⟩
      refine S_w (ws' := [(h0, ob 11 (uF f 46 (iv rl))), (hrp, ar 20 RP), (hrb, ar 20 RB), (hrt, ar 20 RT)]) rfl ?_
      refine S_if_eq (tgt := 38) X dX12_roll_15 (by decide) (by decide) (fun h9 => absurd h9 (by decide)) (fun _ => ?_)
      refine S_iload_n X dX12_roll_18 rfl rfl ?_
      refine S_iconst X dX12_roll_19 ?_
      refine S_sipush X dX12_roll_20 rfl ?_
      refine S_calli X (kX12_in l t 0 9999 (by omega) (by omega) (by omega)) (is := []) rfl (run_S X lkX12_216 (is := []) (avs := [iv t, iv 0, iv 9999]) (rest := []) rfl rfl (nle rfl) ⟨nle rfl, nle rfl⟩ ⟨nle rfl, nle rfl⟩ dX12_roll_23 (by decide) rfl) (fun z_25 u_23 hp_24 => ?_)
      rcases hp_24 with ⟨hz_26, hu_27, hq_28⟩ | ⟨hz_29, hu_30, hq_31⟩
      ·
        subst hz_26
        subst hu_27
        refine ⟨rfl, ?_⟩
        refine S_w (ws' := [(h0, ob 11 (uF f 46 (iv rl))), (hrp, ar 20 RP), (hrb, ar 20 RB), (hrt, ar 20 RT)]) rfl ?_
        refine S_if_eq (tgt := 38) X dX12_roll_26 (by decide) (by decide) (fun _ => ?_) (fun h9 => absurd h9 (by decide))
        refine S_iconst X dX12_roll_38 ?_
        exact S_iret X (nle rfl) (nle rfl) dX12_roll_39 (hPo _ _ (Or.inl (⟨by first | rfl | omega, rfl, by first | rfl | assumption | omega⟩)))
      ·
        subst hz_29
        subst hu_30
        refine ⟨rfl, ?_⟩
        refine S_w (ws' := [(h0, ob 11 (uF f 46 (iv rl))), (hrp, ar 20 RP), (hrb, ar 20 RB), (hrt, ar 20 RT)]) rfl ?_
        refine S_if_eq (tgt := 38) X dX12_roll_26 (by decide) (by decide) (fun h9 => absurd h9 (by decide)) (fun _ => ?_)
        refine S_aload_n X dX12_roll_29 rfl rfl ?_
        refine S_get (v := iv rl) X fgX12_268_11 0 rfl rfl dX12_roll_30 ?_
        refine S_bipush X dX12_roll_33 rfl ?_
        refine S_icmp_ne (tgt := 40) X dX12_roll_35 (by decide) (by omega) (by decide) (fun c_34 => ?_) (fun c_34 => ?_)
        ·
          refine S_aload_n X dX12_roll_40 rfl rfl ?_
          refine S_get X fgX12_89_11 0 rfl hf1 dX12_roll_41 ?_
          refine S_aload_n X dX12_roll_44 rfl rfl ?_
          refine S_get (v := iv rl) X fgX12_268_11 0 rfl rfl dX12_roll_45 ?_
          refine S_iload_n X dX12_roll_48 rfl rfl ?_
          refine S_iast X 1 rfl (by omega) (by omega) (nle rfl) dX12_roll_49 ?_
          refine S_w (ws' := [(h0, ob 11 (uF f 46 (iv rl))), (hrp, ar 20 (uZ RP rl pp)), (hrb, ar 20 RB), (hrt, ar 20 RT)]) rfl ?_
          refine S_aload_n X dX12_roll_50 rfl rfl ?_
          refine S_get X fgX12_92_11 0 rfl hf2 dX12_roll_51 ?_
          refine S_aload_n X dX12_roll_54 rfl rfl ?_
          refine S_get (v := iv rl) X fgX12_268_11 0 rfl rfl dX12_roll_55 ?_
          refine S_iload_n X dX12_roll_58 rfl rfl ?_
          refine S_iast X 2 rfl (by omega) (by omega) (nle rfl) dX12_roll_59 ?_
          refine S_w (ws' := [(h0, ob 11 (uF f 46 (iv rl))), (hrp, ar 20 (uZ RP rl pp)), (hrb, ar 20 (uZ RB rl b)), (hrt, ar 20 RT)]) rfl ?_
          refine S_aload_n X dX12_roll_60 rfl rfl ?_
          refine S_get X fgX12_95_11 0 rfl hf3 dX12_roll_61 ?_
          refine S_aload_n X dX12_roll_64 rfl rfl ?_
          refine S_get (v := iv rl) X fgX12_268_11 0 rfl rfl dX12_roll_65 ?_
          refine S_iload_n X dX12_roll_68 rfl rfl ?_
          refine S_iast X 3 rfl (by omega) (by omega) (nle rfl) dX12_roll_69 ?_
          refine S_w (ws' := [(h0, ob 11 (uF f 46 (iv rl))), (hrp, ar 20 (uZ RP rl pp)), (hrb, ar 20 (uZ RB rl b)), (hrt, ar 20 (uZ RT rl t))]) rfl ?_
          refine S_aload_n X dX12_roll_70 rfl rfl ?_
          refine S_dup X dX12_roll_71 ?_
          refine S_get (v := iv rl) X fgX12_268_11 0 rfl rfl dX12_roll_72 ?_
          refine S_iconst X dX12_roll_75 ?_
          refine S_iadd X dX12_roll_76 ?_
          refine S_put X fpX12_268_11 0 rfl FT_i dX12_roll_77 ?_
          refine S_w (ws' := [(h0, ob 11 (uF f 46 (iv (rl + 1)))), (hrp, ar 20 (uZ RP rl pp)), (hrb, ar 20 (uZ RB rl b)), (hrt, ar 20 (uZ RT rl t))]) (by simp only [List.set]; rw [uF_same (k := 46)]) ?_
          refine S_aload_n X dX12_roll_80 rfl rfl ?_
          refine S_get (v := iv (rl + 1)) X fgX12_268_11 0 rfl rfl dX12_roll_81 ?_
          exact S_iret X (nle rfl) (nle rfl) dX12_roll_84 (hPo _ _ (Or.inr (⟨by first | rfl | omega, rfl, by first | rfl | assumption | omega⟩)))
        ·
          refine S_iconst X dX12_roll_38 ?_
          exact S_iret X (nle rfl) (nle rfl) dX12_roll_39 (hPo _ _ (Or.inl (⟨by first | rfl | omega, rfl, by first | rfl | assumption | omega⟩)))
set_option maxHeartbeats 4000000 in
set_option maxRecDepth 100000 in
theorem kX12_count (l : Launch) (h0 : Nat) (f : Nat → AV) (v : Int) (c0 : Int) (c1 : Int) (c2 : Int) (c3 : Int) (c4 : Int) (c5v : Int) (c6 : Int) (c7 : Int) (c8 : Int) (c9 : Int) (c10 : Int) (c11 : Int) (hf0 : f 21 = iv c0) (hf1 : f 22 = iv c1) (hf2 : f 13 = iv c2) (hf3 : f 2 = iv c3) (hf4 : f 25 = iv c4) (hf5 : f 27 = iv c5v) (hf6 : f 28 = iv c6) (hf7 : f 29 = iv c7) (hf8 : f 30 = iv c8) (hf9 : f 26 = iv c9) (hf10 : f 46 = iv c10) (hf11 : f 32 = iv c11) (hx_v : inR v) : AMi l yX12_count cX12_count 2 .int 0 0 0 [rv h0, iv v] [(h0, ob 11 f)] (fun z u => ∃ z9 : Int, z = z9 ∧ u = [(h0, ob 11 f)]) := by
  refine AMi.of2 rfl (nle rfl) ?_
  intro D G A p e s m args below meth c Po hPo X
  refine S_iload_n X dX12_count_0 rfl rfl ?_
  by_cases hs_1 : v = 0
  · refine S_tswIn (j := 0) (tgt := 64) X dX12_count_1 hs_1 rfl (by decide) (by decide) ?_
    refine S_aload_n X dX12_count_64 rfl rfl ?_
    refine S_get X fgX12_253_11 0 rfl hf0 dX12_count_65 ?_
    exact S_iret X (nle rfl) (nle rfl) dX12_count_68 (hPo _ _ (⟨_, rfl, rfl⟩))
  by_cases hs_2 : v = 1
  · refine S_tswIn (j := 1) (tgt := 69) X dX12_count_1 hs_2 rfl (by decide) (by decide) ?_
    refine S_aload_n X dX12_count_69 rfl rfl ?_
    refine S_get X fgX12_256_11 0 rfl hf1 dX12_count_70 ?_
    exact S_iret X (nle rfl) (nle rfl) dX12_count_73 (hPo _ _ (⟨_, rfl, rfl⟩))
  by_cases hs_3 : v = 2
  · refine S_tswIn (j := 2) (tgt := 74) X dX12_count_1 hs_3 rfl (by decide) (by decide) ?_
    refine S_aload_n X dX12_count_74 rfl rfl ?_
    refine S_get X fgX12_278_11 0 rfl hf2 dX12_count_75 ?_
    exact S_iret X (nle rfl) (nle rfl) dX12_count_78 (hPo _ _ (⟨_, rfl, rfl⟩))
  by_cases hs_4 : v = 3
  · refine S_tswIn (j := 3) (tgt := 79) X dX12_count_1 hs_4 rfl (by decide) (by decide) ?_
    refine S_aload_n X dX12_count_79 rfl rfl ?_
    refine S_get X fgX12_108_11 0 rfl hf3 dX12_count_80 ?_
    exact S_iret X (nle rfl) (nle rfl) dX12_count_83 (hPo _ _ (⟨_, rfl, rfl⟩))
  by_cases hs_5 : v = 4
  · refine S_tswIn (j := 4) (tgt := 84) X dX12_count_1 hs_5 rfl (by decide) (by decide) ?_
    refine S_aload_n X dX12_count_84 rfl rfl ?_
    refine S_get X fgX12_259_11 0 rfl hf4 dX12_count_85 ?_
    exact S_iret X (nle rfl) (nle rfl) dX12_count_88 (hPo _ _ (⟨_, rfl, rfl⟩))
  by_cases hs_6 : v = 5
  · refine S_tswIn (j := 5) (tgt := 89) X dX12_count_1 hs_6 rfl (by decide) (by decide) ?_
    refine S_aload_n X dX12_count_89 rfl rfl ?_
    refine S_get X fgX12_52_11 0 rfl hf5 dX12_count_90 ?_
    exact S_iret X (nle rfl) (nle rfl) dX12_count_93 (hPo _ _ (⟨_, rfl, rfl⟩))
  by_cases hs_7 : v = 6
  · refine S_tswIn (j := 6) (tgt := 94) X dX12_count_1 hs_7 rfl (by decide) (by decide) ?_
    refine S_aload_n X dX12_count_94 rfl rfl ?_
    refine S_get X fgX12_56_11 0 rfl hf6 dX12_count_95 ?_
    exact S_iret X (nle rfl) (nle rfl) dX12_count_98 (hPo _ _ (⟨_, rfl, rfl⟩))
  by_cases hs_8 : v = 7
  · refine S_tswIn (j := 7) (tgt := 99) X dX12_count_1 hs_8 rfl (by decide) (by decide) ?_
    refine S_aload_n X dX12_count_99 rfl rfl ?_
    refine S_get X fgX12_287_11 0 rfl hf7 dX12_count_100 ?_
    exact S_iret X (nle rfl) (nle rfl) dX12_count_103 (hPo _ _ (⟨_, rfl, rfl⟩))
  by_cases hs_9 : v = 8
  · refine S_tswIn (j := 8) (tgt := 104) X dX12_count_1 hs_9 rfl (by decide) (by decide) ?_
    refine S_aload_n X dX12_count_104 rfl rfl ?_
    refine S_get X fgX12_59_11 0 rfl hf8 dX12_count_105 ?_
    exact S_iret X (nle rfl) (nle rfl) dX12_count_108 (hPo _ _ (⟨_, rfl, rfl⟩))
  by_cases hs_10 : v = 9
  · refine S_tswIn (j := 9) (tgt := 109) X dX12_count_1 hs_10 rfl (by decide) (by decide) ?_
    refine S_aload_n X dX12_count_109 rfl rfl ?_
    refine S_get X fgX12_265_11 0 rfl hf9 dX12_count_110 ?_
    exact S_iret X (nle rfl) (nle rfl) dX12_count_113 (hPo _ _ (⟨_, rfl, rfl⟩))
  by_cases hs_11 : v = 10
  · refine S_tswIn (j := 10) (tgt := 114) X dX12_count_1 hs_11 rfl (by decide) (by decide) ?_
    refine S_aload_n X dX12_count_114 rfl rfl ?_
    refine S_get X fgX12_268_11 0 rfl hf10 dX12_count_115 ?_
    exact S_iret X (nle rfl) (nle rfl) dX12_count_118 (hPo _ _ (⟨_, rfl, rfl⟩))
  by_cases hs_12 : v = 11
  · refine S_tswIn (j := 11) (tgt := 119) X dX12_count_1 hs_12 rfl (by decide) (by decide) ?_
    refine S_aload_n X dX12_count_119 rfl rfl ?_
    refine S_get X fgX12_262_11 0 rfl hf11 dX12_count_120 ?_
    exact S_iret X (nle rfl) (nle rfl) dX12_count_123 (hPo _ _ (⟨_, rfl, rfl⟩))
  refine S_tswOut (tgt := 124) X dX12_count_1 (by omega) (by omega) (by decide) ?_
  refine S_ldcw (n := -1000000) X (by rw [show i32 (-1000000) = (-1000000 : Int32) from by decide]; exact m1595) dX12_count_124 ?_
  exact S_iret X (nle rfl) (nle rfl) dX12_count_127 (hPo _ _ (⟨_, rfl, rfl⟩))
set_option maxHeartbeats 4000000 in
set_option maxRecDepth 100000 in
theorem kX12_keepBeats (l : Launch) (h0 : Nat) (f : Nat → AV) (pl : Int) (hB : Nat) (B : Int → Int) (hwb : Nat) (Wb : Int → Int) (i : Int) (hf0 : f 21 = iv pl) (hf1 : f 23 = rv hB) (hf2 : f 36 = rv hwb) (hpl : 0 ≤ pl ∧ pl ≤ 6) (hi : 0 ≤ i ∧ i ≤ 6) : AMv l yX12_keepBeats cX12_keepBeats 3 0 0 0 [rv h0, iv i] [(h0, ob 11 f), (hB, ar 6 B), (hwb, ar 42 Wb)] (fun u => ∃ Wb2 : Int → Int, u = [(h0, ob 11 f), (hB, ar 6 B), (hwb, ar 42 Wb2)] ∧ (∀ x, 0 ≤ x → x < pl → Wb2 (6 * i + x) = B x) ∧ (∀ x, x < 6 * i ∨ 6 * i + 6 ≤ x → Wb2 x = Wb x)) := by
  refine AMv.of2 rfl (nle rfl) ?_
  intro D G A p e s m args below meth c Po hPo hnm X
  refine S_iconst X dX12_keepBeats_0 ?_
  refine S_istore_n X dX12_keepBeats_1 rfl (nle rfl) ?_
  have lp2_0 : ∀ (N : Nat) (j : Int) (Wv : Int → Int) (L : Nat → Option AV), 0 ≤ j ∧ j ≤ pl → (∀ x, 0 ≤ x → x < j → Wv (6 * i + x) = B x) → (∀ x, x < 6 * i ∨ 6 * i + 6 ≤ x → Wv x = Wb x) → L 0 = some (rv h0) → L 1 = some (iv i) → L 2 = some (iv j) → pl + 1 - j < (N : Int) → S_ p l e (rmD 0 0 0) s m args below meth c (MQ below (QcV D G A Po) args s 0 0 A) D G A 3 0 0 2 L [] [(h0, ob 11 f), (hB, ar 6 B), (hwb, ar 42 Wv)] := by
    intro N
    induction N with
    | zero =>
      intro j Wv L2 hj hk hk2 hL2_0 hL2_1 hL2_2 hN2
      exfalso; omega
    | succ N ih2 =>
      intro j Wv L2 hj hk hk2 hL2_0 hL2_1 hL2_2 hN2
      refine S_iload_n X dX12_keepBeats_2 rfl hL2_2 ?_
      refine S_aload_n X dX12_keepBeats_3 rfl hL2_0 ?_
      refine S_get X fgX12_253_11 0 rfl hf0 dX12_keepBeats_4 ?_
      refine S_icmp_ge (tgt := 33) X dX12_keepBeats_7 (by decide) (by omega) (by omega) (fun c_1 => ?_) (fun c_1 => ?_)
      ·
        exact S_vret X (nle rfl) (nle rfl) dX12_keepBeats_33 (hPo _ (⟨_, rfl, fun x h0 h1 => hk x h0 (by omega), hk2⟩))
      ·
        refine S_aload_n X dX12_keepBeats_10 rfl hL2_0 ?_
        refine S_get X fgX12_74_11 0 rfl hf2 dX12_keepBeats_11 ?_
        refine S_bipush X dX12_keepBeats_14 rfl ?_
        refine S_iload_n X dX12_keepBeats_16 rfl hL2_1 ?_
        refine S_imul X dX12_keepBeats_17 ?_
        refine S_iload_n X dX12_keepBeats_18 rfl hL2_2 ?_
        refine S_iadd X dX12_keepBeats_19 ?_
        refine S_aload_n X dX12_keepBeats_20 rfl hL2_0 ?_
        refine S_get X fgX12_46_11 0 rfl hf1 dX12_keepBeats_21 ?_
        refine S_iload_n X dX12_keepBeats_24 rfl hL2_2 ?_
        refine S_iald X 1 rfl (by omega) (by omega) (nle rfl) dX12_keepBeats_25 ?_
        refine S_iast X 2 rfl (by omega) (by omega) (nle rfl) dX12_keepBeats_26 ?_
        refine S_w (ws' := [(h0, ob 11 f), (hB, ar 6 B), (hwb, ar 42 (uZ Wv ((6 * i) + j) (B j)))]) rfl ?_
        refine S_iinc X dX12_keepBeats_27 (nle rfl) hL2_2 ?_
        refine S_goto (tgt := 2) X dX12_keepBeats_30 (by decide) ?_
        exact ih2 (j + 1) (uZ Wv ((6 * i) + j) (B j)) _ (by omega) (fun x h0 h1 => (by omega : x < j ∨ x = j).elim (fun q9 => by rw [uZ_ne (by omega)]; exact hk x h0 q9) (fun q9 => by rw [q9]; exact uZ_at)) (fun x h => by rw [uZ_ne (by omega)]; exact hk2 x h) hL2_0 hL2_1 rfl (by omega)
  exact lp2_0 (Int.toNat (pl + 1 - 0) + 1) 0 Wb _ (by omega) (fun x h0 h1 => by omega) (fun x h => rfl) rfl rfl rfl (by omega)
set_option maxHeartbeats 4000000 in
set_option maxRecDepth 100000 in
theorem kX12_takeBeats (l : Launch) (h0 : Nat) (f : Nat → AV) (pl : Int) (hB : Nat) (B : Int → Int) (hwb : Nat) (Wb : Int → Int) (i : Int) (hf0 : f 21 = iv pl) (hf1 : f 23 = rv hB) (hf2 : f 36 = rv hwb) (hpl : 0 ≤ pl ∧ pl ≤ 6) (hi : 0 ≤ i ∧ i ≤ 6) : AMv l yX12_takeBeats cX12_takeBeats 3 0 0 0 [rv h0, iv i] [(h0, ob 11 f), (hB, ar 6 B), (hwb, ar 42 Wb)] (fun u => ∃ B2 : Int → Int, u = [(h0, ob 11 f), (hB, ar 6 B2), (hwb, ar 42 Wb)] ∧ (∀ x, 0 ≤ x → x < pl → B2 x = Wb (6 * i + x)) ∧ (∀ x, x < 0 ∨ pl ≤ x → B2 x = B x)) := by
  refine AMv.of2 rfl (nle rfl) ?_
  intro D G A p e s m args below meth c Po hPo hnm X
  refine S_iconst X dX12_takeBeats_0 ?_
  refine S_istore_n X dX12_takeBeats_1 rfl (nle rfl) ?_
  have lp2_0 : ∀ (N : Nat) (j : Int) (Bv : Int → Int) (L : Nat → Option AV), 0 ≤ j ∧ j ≤ pl → (∀ x, 0 ≤ x → x < j → Bv x = Wb (6 * i + x)) → (∀ x, x < 0 ∨ pl ≤ x → Bv x = B x) → L 0 = some (rv h0) → L 1 = some (iv i) → L 2 = some (iv j) → pl + 1 - j < (N : Int) → S_ p l e (rmD 0 0 0) s m args below meth c (MQ below (QcV D G A Po) args s 0 0 A) D G A 3 0 0 2 L [] [(h0, ob 11 f), (hB, ar 6 Bv), (hwb, ar 42 Wb)] := by
    intro N
    induction N with
    | zero =>
      intro j Bv L2 hj hk hk2 hL2_0 hL2_1 hL2_2 hN2
      exfalso; omega
    | succ N ih2 =>
      intro j Bv L2 hj hk hk2 hL2_0 hL2_1 hL2_2 hN2
      refine S_iload_n X dX12_takeBeats_2 rfl hL2_2 ?_
      refine S_aload_n X dX12_takeBeats_3 rfl hL2_0 ?_
      refine S_get X fgX12_253_11 0 rfl hf0 dX12_takeBeats_4 ?_
      refine S_icmp_ge (tgt := 33) X dX12_takeBeats_7 (by decide) (by omega) (by omega) (fun c_1 => ?_) (fun c_1 => ?_)
      ·
        exact S_vret X (nle rfl) (nle rfl) dX12_takeBeats_33 (hPo _ (⟨_, rfl, fun x h0 h1 => hk x h0 (by omega), hk2⟩))
      ·
        refine S_aload_n X dX12_takeBeats_10 rfl hL2_0 ?_
        refine S_get X fgX12_46_11 0 rfl hf1 dX12_takeBeats_11 ?_
        refine S_iload_n X dX12_takeBeats_14 rfl hL2_2 ?_
        refine S_aload_n X dX12_takeBeats_15 rfl hL2_0 ?_
        refine S_get X fgX12_74_11 0 rfl hf2 dX12_takeBeats_16 ?_
        refine S_bipush X dX12_takeBeats_19 rfl ?_
        refine S_iload_n X dX12_takeBeats_21 rfl hL2_1 ?_
        refine S_imul X dX12_takeBeats_22 ?_
        refine S_iload_n X dX12_takeBeats_23 rfl hL2_2 ?_
        refine S_iadd X dX12_takeBeats_24 ?_
        refine S_iald X 2 rfl (by omega) (by omega) (nle rfl) dX12_takeBeats_25 ?_
        refine S_iast X 1 rfl (by omega) (by omega) (nle rfl) dX12_takeBeats_26 ?_
        refine S_w (ws' := [(h0, ob 11 f), (hB, ar 6 (uZ Bv j (Wb ((6 * i) + j)))), (hwb, ar 42 Wb)]) rfl ?_
        refine S_iinc X dX12_takeBeats_27 (nle rfl) hL2_2 ?_
        refine S_goto (tgt := 2) X dX12_takeBeats_30 (by decide) ?_
        exact ih2 (j + 1) (uZ Bv j (Wb ((6 * i) + j))) _ (by omega) (fun x h0 h1 => (by omega : x < j ∨ x = j).elim (fun q9 => by rw [uZ_ne (by omega)]; exact hk x h0 q9) (fun q9 => by rw [q9]; exact uZ_at)) (fun x h => by rw [uZ_ne (by omega)]; exact hk2 x h) hL2_0 hL2_1 rfl (by omega)
  exact lp2_0 (Int.toNat (pl + 1 - 0) + 1) 0 B _ (by omega) (fun x h0 h1 => by omega) (fun x h => rfl) rfl rfl rfl (by omega)
end pt_39rq3
