def zHeld (v a b : Int) : Int := if v < a then a else if b < v then b else v
theorem uF_id {α : Type} {f : Nat → α} {k : Nat} {v : α} (h : f k = v) : f = uF f k v := by
  funext j
  unfold uF
  split
  · next e => rw [e, h]
  · rfl
set_option maxHeartbeats 4000000 in
set_option maxRecDepth 100000 in
theorem kX11_held (l : Launch) (v : Int) (a : Int) (b : Int) (hv : inR v) (ha : inR a) (hb : inR b) : AMi l yX11_held cX11_held 3 .int 0 0 0 [iv v, iv a, iv b] [] (fun z u => z = zHeld v a b ∧ u = []) := by
  refine AMi.of2 rfl (nle rfl) ?_
  intro D G A p e s m args below meth c Po hPo X
  refine S_iload_n X dX11_held_0 rfl rfl ?_
  refine S_iload_n X dX11_held_1 rfl rfl ?_
  refine S_icmp_ge (tgt := 9) X dX11_held_2 (by decide) (by omega) (by omega) (fun c_1 => ?_) (fun c_1 => ?_)
  ·
    refine S_iload_n X dX11_held_9 rfl rfl ?_
    refine S_iload_n X dX11_held_10 rfl rfl ?_
    refine S_icmp_le (tgt := 18) X dX11_held_11 (by decide) (by omega) (by omega) (fun c_2 => ?_) (fun c_2 => ?_)
    ·
      refine S_iload_n X dX11_held_18 rfl rfl ?_
      exact S_iret X (nle rfl) (nle rfl) dX11_held_19 (hPo _ _ (⟨by unfold zHeld; split <;> (try split) <;> omega, rfl⟩))
    ·
      refine S_iload_n X dX11_held_14 rfl rfl ?_
      refine S_goto (tgt := 19) X dX11_held_15 (by decide) ?_
      exact S_iret X (nle rfl) (nle rfl) dX11_held_19 (hPo _ _ (⟨by unfold zHeld; split <;> (try split) <;> omega, rfl⟩))
  ·
    refine S_iload_n X dX11_held_5 rfl rfl ?_
    refine S_goto (tgt := 19) X dX11_held_6 (by decide) ?_
    exact S_iret X (nle rfl) (nle rfl) dX11_held_19 (hPo _ _ (⟨by unfold zHeld; split <;> (try split) <;> omega, rfl⟩))
set_option maxHeartbeats 4000000 in
set_option maxRecDepth 100000 in
theorem kX4_beatIn (l : Launch) (h0 : Nat) (hb : Nat) (f : Nat → AV) (B : Int → Int) (q : Int) (b : Int) (hf0 : f 0 = rv hb) (h1 : 0 ≤ q ∧ q < 6 ∧ 0 ≤ b ∧ b < 201) : AMi l yX4_beatIn cX4_beatIn 3 .int 0 0 0 [rv h0, iv q, iv b] [(h0, ob 4 f), (hb, ar 1206 B)] (fun z u => z = B (b * 6 + q) ∧ u = [(h0, ob 4 f), (hb, ar 1206 B)]) := by
  refine AMi.of2 rfl (nle rfl) ?_
  intro D G A p e s m args below meth c Po hPo X
  refine S_aload_n X dX4_beatIn_0 rfl rfl ?_
  refine S_get X fgX4_11_4 0 rfl hf0 dX4_beatIn_1 ?_
  refine S_iload_n X dX4_beatIn_4 rfl rfl ?_
  refine S_bipush X dX4_beatIn_5 rfl ?_
  refine S_imul X dX4_beatIn_7 ?_
  refine S_iload_n X dX4_beatIn_8 rfl rfl ?_
  refine S_iadd X dX4_beatIn_9 ?_
  refine S_iald X 1 rfl (by omega) (by omega) (nle rfl) dX4_beatIn_10 ?_
  exact S_iret X (nle rfl) (nle rfl) dX4_beatIn_11 (hPo _ _ (⟨by first | rfl | omega, rfl⟩))
set_option maxHeartbeats 4000000 in
set_option maxRecDepth 100000 in
theorem kX5_peek_8 (l : Launch) (h0 : Nat) (ht : Nat) (hb : Nat) (f : Nat → AV) (ft : Nat → AV) (B : Int → Int) (at0 : Int) (n : Int) (hf0 : f 0 = rv ht) (hf1 : f 1 = iv at0) (hf2 : ft 0 = rv hb) (hf3 : ft 1 = iv n) (h1 : 0 ≤ at0 ∧ at0 ≤ 160 ∧ 0 ≤ n ∧ n ≤ 160) (hB : ∀ j, inR (B j)) : AMi l yX5_peek cX5_peek 1 .int 0 0 0 [rv h0] [(h0, ob 8 f), (ht, ob 6 ft), (hb, ar 160 B)] (fun z u => ∃ a2 : Int, ∃ r : Int, z = r ∧ u = [(h0, ob 8 (uF f 1 (iv a2))), (ht, ob 6 ft), (hb, ar 160 B)] ∧ at0 ≤ a2 ∧ a2 ≤ 160) := by
  refine AMi.of2 rfl (nle rfl) ?_
  intro D G A p e s m args below meth c Po hPo X
  refine S_w (ws' := [(h0, ob 8 (uF f 1 (iv at0))), (ht, ob 6 ft), (hb, ar 160 B)]) (by rw [uF_id hf1]) ?_
  have lp0_0 : ∀ (N : Nat) (a : Int) (L : Nat → Option AV), at0 ≤ a ∧ a ≤ 160 → L 0 = some (rv h0) → 160 - a < (N : Int) → S_ p l e (rmD 0 0 0) s m args below meth c (MQ below (QcI D G A Po) args s 0 0 A) D G A 1 0 0 0 L [] [(h0, ob 8 (uF f 1 (iv a))), (ht, ob 6 ft), (hb, ar 160 B)] := by
    intro N
    induction N with
    | zero =>
      intro a L0 hi hL0_0 hN0
      exfalso; omega
    | succ N ih0 =>
      intro a L0 hi hL0_0 hN0
      refine S_aload_n X dX5_peek_0 rfl hL0_0 ?_
      refine S_get X fgX5_15_8 0 rfl rfl dX5_peek_1 ?_
      refine S_aload_n X dX5_peek_4 rfl hL0_0 ?_
      refine S_get X fgX5_9_8 0 rfl hf0 dX5_peek_5 ?_
      refine S_get X fgX5_37_6 1 rfl hf3 dX5_peek_8 ?_
      refine S_icmp_ge (tgt := 54) X dX5_peek_11 (by decide) (by omega) (by omega) (fun c_1 => ?_) (fun c_1 => ?_)
      ·
        refine S_aload_n X dX5_peek_54 rfl hL0_0 ?_
        refine S_get X fgX5_15_8 0 rfl rfl dX5_peek_55 ?_
        refine S_aload_n X dX5_peek_58 rfl hL0_0 ?_
        refine S_get X fgX5_9_8 0 rfl hf0 dX5_peek_59 ?_
        refine S_get X fgX5_37_6 1 rfl hf3 dX5_peek_62 ?_
        refine S_icmp_ge (tgt := 93) X dX5_peek_65 (by decide) (by omega) (by omega) (fun c_2 => ?_) (fun c_2 => ?_)
        ·
          refine S_iconst X dX5_peek_93 ?_
          exact S_iret X (nle rfl) (nle rfl) dX5_peek_94 (hPo _ _ (⟨_, _, by first | rfl | omega, rfl, by first | rfl | assumption | omega⟩))
        ·
          refine S_aload_n X dX5_peek_68 rfl hL0_0 ?_
          refine S_get X fgX5_15_8 0 rfl rfl dX5_peek_69 ?_
          refine S_sipush X dX5_peek_72 rfl ?_
          refine S_icmp_ge (tgt := 93) X dX5_peek_75 (by decide) (by omega) (by decide) (fun c_3 => ?_) (fun c_3 => ?_)
          ·
            refine S_iconst X dX5_peek_93 ?_
            exact S_iret X (nle rfl) (nle rfl) dX5_peek_94 (hPo _ _ (⟨_, _, by first | rfl | omega, rfl, by first | rfl | assumption | omega⟩))
          ·
            refine S_aload_n X dX5_peek_78 rfl hL0_0 ?_
            refine S_get X fgX5_9_8 0 rfl hf0 dX5_peek_79 ?_
            refine S_get X fgX5_51_6 1 rfl hf2 dX5_peek_82 ?_
            refine S_aload_n X dX5_peek_85 rfl hL0_0 ?_
            refine S_get X fgX5_15_8 0 rfl rfl dX5_peek_86 ?_
            refine S_iald X 2 rfl (by omega) (by omega) (nle rfl) dX5_peek_89 ?_
            have hb_4 := hB a
            refine S_goto (tgt := 94) X dX5_peek_90 (by decide) ?_
            exact S_iret X (nle rfl) (nle rfl) dX5_peek_94 (hPo _ _ (⟨_, _, by first | rfl | omega, rfl, by first | rfl | assumption | omega⟩))
      ·
        refine S_aload_n X dX5_peek_14 rfl hL0_0 ?_
        refine S_get X fgX5_15_8 0 rfl rfl dX5_peek_15 ?_
        refine S_sipush X dX5_peek_18 rfl ?_
        refine S_icmp_ge (tgt := 54) X dX5_peek_21 (by decide) (by omega) (by decide) (fun c_5 => ?_) (fun c_5 => ?_)
        ·
          refine S_aload_n X dX5_peek_54 rfl hL0_0 ?_
          refine S_get X fgX5_15_8 0 rfl rfl dX5_peek_55 ?_
          refine S_aload_n X dX5_peek_58 rfl hL0_0 ?_
          refine S_get X fgX5_9_8 0 rfl hf0 dX5_peek_59 ?_
          refine S_get X fgX5_37_6 1 rfl hf3 dX5_peek_62 ?_
          refine S_icmp_ge (tgt := 93) X dX5_peek_65 (by decide) (by omega) (by omega) (fun c_6 => ?_) (fun c_6 => ?_)
          ·
            refine S_iconst X dX5_peek_93 ?_
            exact S_iret X (nle rfl) (nle rfl) dX5_peek_94 (hPo _ _ (⟨_, _, by first | rfl | omega, rfl, by first | rfl | assumption | omega⟩))
          ·
            refine S_aload_n X dX5_peek_68 rfl hL0_0 ?_
            refine S_get X fgX5_15_8 0 rfl rfl dX5_peek_69 ?_
            refine S_sipush X dX5_peek_72 rfl ?_
            refine S_icmp_ge (tgt := 93) X dX5_peek_75 (by decide) (by omega) (by decide) (fun c_7 => ?_) (fun c_7 => ?_)
            ·
              refine S_iconst X dX5_peek_93 ?_
              exact S_iret X (nle rfl) (nle rfl) dX5_peek_94 (hPo _ _ (⟨_, _, by first | rfl | omega, rfl, by first | rfl | assumption | omega⟩))
            ·
              refine S_aload_n X dX5_peek_78 rfl hL0_0 ?_
              refine S_get X fgX5_9_8 0 rfl hf0 dX5_peek_79 ?_
              refine S_get X fgX5_51_6 1 rfl hf2 dX5_peek_82 ?_
              refine S_aload_n X dX5_peek_85 rfl hL0_0 ?_
              refine S_get X fgX5_15_8 0 rfl rfl dX5_peek_86 ?_
              refine S_iald X 2 rfl (by omega) (by omega) (nle rfl) dX5_peek_89 ?_
              have hb_8 := hB a
              refine S_goto (tgt := 94) X dX5_peek_90 (by decide) ?_
              exact S_iret X (nle rfl) (nle rfl) dX5_peek_94 (hPo _ _ (⟨_, _, by first | rfl | omega, rfl, by first | rfl | assumption | omega⟩))
        ·
          refine S_aload_n X dX5_peek_24 rfl hL0_0 ?_
          refine S_get X fgX5_9_8 0 rfl hf0 dX5_peek_25 ?_
          refine S_get X fgX5_51_6 1 rfl hf2 dX5_peek_28 ?_
          refine S_aload_n X dX5_peek_31 rfl hL0_0 ?_
          refine S_get X fgX5_15_8 0 rfl rfl dX5_peek_32 ?_
          refine S_iald X 2 rfl (by omega) (by omega) (nle rfl) dX5_peek_35 ?_
          have hb_9 := hB a
          refine S_bipush X dX5_peek_36 rfl ?_
          refine S_icmp_ne (tgt := 54) X dX5_peek_38 (by decide) (by omega) (by decide) (fun c_10 => ?_) (fun c_10 => ?_)
          ·
            refine S_aload_n X dX5_peek_54 rfl hL0_0 ?_
            refine S_get X fgX5_15_8 0 rfl rfl dX5_peek_55 ?_
            refine S_aload_n X dX5_peek_58 rfl hL0_0 ?_
            refine S_get X fgX5_9_8 0 rfl hf0 dX5_peek_59 ?_
            refine S_get X fgX5_37_6 1 rfl hf3 dX5_peek_62 ?_
            refine S_icmp_ge (tgt := 93) X dX5_peek_65 (by decide) (by omega) (by omega) (fun c_11 => ?_) (fun c_11 => ?_)
            ·
              refine S_iconst X dX5_peek_93 ?_
              exact S_iret X (nle rfl) (nle rfl) dX5_peek_94 (hPo _ _ (⟨_, _, by first | rfl | omega, rfl, by first | rfl | assumption | omega⟩))
            ·
              refine S_aload_n X dX5_peek_68 rfl hL0_0 ?_
              refine S_get X fgX5_15_8 0 rfl rfl dX5_peek_69 ?_
              refine S_sipush X dX5_peek_72 rfl ?_
              refine S_icmp_ge (tgt := 93) X dX5_peek_75 (by decide) (by omega) (by decide) (fun c_12 => ?_) (fun c_12 => ?_)
              ·
                refine S_iconst X dX5_peek_93 ?_
                exact S_iret X (nle rfl) (nle rfl) dX5_peek_94 (hPo _ _ (⟨_, _, by first | rfl | omega, rfl, by first | rfl | assumption | omega⟩))
              ·
                refine S_aload_n X dX5_peek_78 rfl hL0_0 ?_
                refine S_get X fgX5_9_8 0 rfl hf0 dX5_peek_79 ?_
                refine S_get X fgX5_51_6 1 rfl hf2 dX5_peek_82 ?_
                refine S_aload_n X dX5_peek_85 rfl hL0_0 ?_
                refine S_get X fgX5_15_8 0 rfl rfl dX5_peek_86 ?_
                refine S_iald X 2 rfl (by omega) (by omega) (nle rfl) dX5_peek_89 ?_
                have hb_13 := hB a
                refine S_goto (tgt := 94) X dX5_peek_90 (by decide) ?_
                exact S_iret X (nle rfl) (nle rfl) dX5_peek_94 (hPo _ _ (⟨_, _, by first | rfl | omega, rfl, by first | rfl | assumption | omega⟩))
          ·
            refine S_aload_n X dX5_peek_41 rfl hL0_0 ?_
            refine S_dup X dX5_peek_42 ?_
            refine S_get X fgX5_15_8 0 rfl rfl dX5_peek_43 ?_
            refine S_iconst X dX5_peek_46 ?_
            refine S_iadd X dX5_peek_47 ?_
            refine S_put X fpX5_15_8 0 rfl FT_i dX5_peek_48 ?_
            refine S_w (ws' := [(h0, ob 8 (uF f 1 (iv (a + 1)))), (ht, ob 6 ft), (hb, ar 160 B)]) (by simp only [List.set]; rw [uF_same (k := 1)]) ?_
            refine S_goto (tgt := 0) X dX5_peek_51 (by decide) ?_
            exact ih0 (a + 1) _ (by omega) hL0_0 (by omega)
  exact lp0_0 (Int.toNat (160 - at0) + 1) at0 _ (by omega) rfl (by omega)
