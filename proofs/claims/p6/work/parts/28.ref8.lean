def okFl (pl : Int) (R : Int → Int) : Prop := 0 < pl ∧ ∀ i, 0 ≤ i → i < pl → R (5 * i + 3) ≠ i ∧ R (5 * i + 3) < pl
set_option maxHeartbeats 4000000 in
set_option maxRecDepth 100000 in
theorem kX12_areTold (l : Launch) (h0 : Nat) (f : Nat → AV) (a : Int) (dp : Int) (tx : Int) (pl : Int) (hR : Nat) (R1 : Int → Int) (w : Int) (hf0 : f 17 = rv hR) (hpl : 0 ≤ pl ∧ pl ≤ 6) (hRr : ∀ i, 0 ≤ i → i < pl → -1 ≤ R1 (5 * i + 3) ∧ R1 (5 * i + 3) ≤ 5) : AMi l yX12_areTold cX12_areTold 3 .boolean 2 0 0 [rv h0] [(h0, ob 11 (uF (uF (uF (uF (uF f 18 (iv pl)) 14 (iv tx)) 3 (iv a)) 4 (iv w)) 5 (iv dp))), (hR, ar 30 R1)] (fun z u => (z = 0 ∧ u = [(h0, ob 11 (uF (uF (uF (uF (uF f 18 (iv pl)) 14 (iv tx)) 3 (iv a)) 4 (iv w)) 5 (iv dp))), (hR, ar 30 R1)] ∧ ¬ okFl pl R1) ∨ (z = 1 ∧ u = [(h0, ob 11 (uF (uF (uF (uF (uF f 18 (iv pl)) 14 (iv tx)) 3 (iv a)) 4 (iv w)) 5 (iv dp))), (hR, ar 30 R1)] ∧ okFl pl R1)) := by
  refine AMi.of2 rfl (nle rfl) ?_
  intro D G A p e s m args below meth c Po hPo X
  refine S_iconst X dX12_areTold_0 ?_
  refine S_istore_n X dX12_areTold_1 rfl (nle rfl) ?_
  have lp2_0 : ∀ (N : Nat) (i : Int) (L : Nat → Option AV), 0 ≤ i ∧ i ≤ pl → (∀ j, 0 ≤ j → j < i → R1 (5 * j + 3) ≠ j ∧ R1 (5 * j + 3) < pl) → L 0 = some (rv h0) → L 1 = some (iv i) → 7 - i < (N : Int) → S_ p l e (rmD 2 0 0) s m args below meth c (MQ below (QcI D G A Po) args s 0 0 A) D G A 3 0 0 2 L [] [(h0, ob 11 (uF (uF (uF (uF (uF f 18 (iv pl)) 14 (iv tx)) 3 (iv a)) 4 (iv w)) 5 (iv dp))), (hR, ar 30 R1)] := by
    intro N
    induction N with
    | zero =>
      intro i L2 hi hk hL2_0 hL2_1 hN2
      exfalso; omega
    | succ N ih2 =>
      intro i L2 hi hk hL2_0 hL2_1 hN2
      refine S_iload_n X dX12_areTold_2 rfl hL2_1 ?_
      refine S_aload_n X dX12_areTold_3 rfl hL2_0 ?_
      refine S_get (v := iv pl) X fgX12_220_11 0 rfl rfl dX12_areTold_4 ?_
      refine S_icmp_ge (tgt := 42) X dX12_areTold_7 (by decide) (by omega) (by omega) (fun c_1 => ?_) (fun c_1 => ?_)
      ·
        refine S_aload_n X dX12_areTold_42 rfl hL2_0 ?_
        refine S_get (v := iv pl) X fgX12_220_11 0 rfl rfl dX12_areTold_43 ?_
        refine S_if_le (tgt := 53) X dX12_areTold_46 (by decide) (by omega) (fun c_2 => ?_) (fun c_2 => ?_)
        ·
          refine S_iconst X dX12_areTold_53 ?_
          exact S_zret X (Or.inl rfl) (nle rfl) (nle rfl) dX12_areTold_54 (hPo _ _ (Or.inl ⟨rfl, rfl, fun q9 => by have := q9.1; omega⟩))
        ·
          refine S_iconst X dX12_areTold_49 ?_
          refine S_goto (tgt := 54) X dX12_areTold_50 (by decide) ?_
          exact S_zret X (Or.inr rfl) (nle rfl) (nle rfl) dX12_areTold_54 (hPo _ _ (Or.inr ⟨rfl, rfl, by omega, fun j h0 h1 => hk j h0 (by omega)⟩))
      ·
        refine S_aload_n X dX12_areTold_10 rfl hL2_0 ?_
        refine S_get X fgX12_40_11 0 rfl hf0 dX12_areTold_11 ?_
        refine S_iconst X dX12_areTold_14 ?_
        refine S_iload_n X dX12_areTold_15 rfl hL2_1 ?_
        refine S_imul X dX12_areTold_16 ?_
        refine S_iconst X dX12_areTold_17 ?_
        refine S_iadd X dX12_areTold_18 ?_
        refine S_iald X 1 rfl (by omega) (by omega) (nle rfl) dX12_areTold_19 ?_
        have hb_1 := hRr i (by omega) (by omega)
        refine S_istore_n X dX12_areTold_20 rfl (nle rfl) ?_
        refine S_iload_n X dX12_areTold_21 rfl rfl ?_
        refine S_iload_n X dX12_areTold_22 rfl hL2_1 ?_
        refine S_icmp_eq (tgt := 34) X dX12_areTold_23 (by decide) (by omega) (by omega) (fun c_3 => ?_) (fun c_3 => ?_)
        ·
          refine S_iconst X dX12_areTold_34 ?_
          exact S_zret X (Or.inl rfl) (nle rfl) (nle rfl) dX12_areTold_35 (hPo _ _ (Or.inl ⟨rfl, rfl, fun q9 => by have := q9.2 i (by omega) (by omega); omega⟩))
        ·
          refine S_iload_n X dX12_areTold_26 rfl rfl ?_
          refine S_aload_n X dX12_areTold_27 rfl hL2_0 ?_
          refine S_get (v := iv pl) X fgX12_220_11 0 rfl rfl dX12_areTold_28 ?_
          refine S_icmp_lt (tgt := 36) X dX12_areTold_31 (by decide) (by omega) (by omega) (fun c_4 => ?_) (fun c_4 => ?_)
          ·
            refine S_iinc X dX12_areTold_36 (nle rfl) hL2_1 ?_
            refine S_goto (tgt := 2) X dX12_areTold_39 (by decide) ?_
            exact ih2 (i + 1) _ (by omega) (fun j h0 h1 => (by omega : j < i ∨ j = i).elim (fun q9 => hk j h0 q9) (fun q9 => by rw [q9]; exact ⟨by omega, by omega⟩)) hL2_0 rfl (by omega)
          ·
            refine S_iconst X dX12_areTold_34 ?_
            exact S_zret X (Or.inl rfl) (nle rfl) (nle rfl) dX12_areTold_35 (hPo _ _ (Or.inl ⟨rfl, rfl, fun q9 => by have := q9.2 i (by omega) (by omega); omega⟩))
  exact lp2_0 (Int.toNat (7 - 0) + 1) 0 _ (by omega) (fun j h0 h1 => by omega) rfl rfl (by omega)
