set_option maxHeartbeats 4000000 in
set_option maxRecDepth 100000 in
theorem kX12_end (l : Launch) (h0 : Nat) (f : Nat → AV) (n : Int) (k : Int) (hn : 0 ≤ n ∧ n ≤ 160) (hk : inR k) : AMi l yX12_end cX12_end 2 .boolean 0 0 0 [rv h0, iv k] [(h0, ob 11 (uF f 2 (iv n)))] (fun z u => (z = 0 ∧ u = [(h0, ob 11 (uF f 2 (iv n)))] ∧ (¬ (0 ≤ k ∧ k ≤ n))) ∨ (z = 1 ∧ u = [(h0, ob 11 (uF f 2 (iv k)))] ∧ (0 ≤ k ∧ k ≤ n))) := by
  refine AMi.of2 rfl (nle rfl) ?_
  intro D G A p e s m args below meth c Po hPo X
  refine S_iload_n X dX12_end_0 rfl rfl ?_
  refine S_if_lt (tgt := 12) X dX12_end_1 (by decide) (by omega) (fun c_1 => ?_) (fun c_1 => ?_)
  ·
    refine S_iconst X dX12_end_12 ?_
    exact S_zret X (Or.inl rfl) (nle rfl) (nle rfl) dX12_end_13 (hPo _ _ (Or.inl (⟨by first | rfl | omega, rfl, by first | rfl | assumption | omega⟩)))
  ·
    refine S_iload_n X dX12_end_4 rfl rfl ?_
    refine S_aload_n X dX12_end_5 rfl rfl ?_
    refine S_get (v := iv n) X fgX12_108_11 0 rfl rfl dX12_end_6 ?_
    refine S_icmp_le (tgt := 14) X dX12_end_9 (by decide) (by omega) (by omega) (fun c_2 => ?_) (fun c_2 => ?_)
    ·
      refine S_aload_n X dX12_end_14 rfl rfl ?_
      refine S_iload_n X dX12_end_15 rfl rfl ?_
      refine S_put X fpX12_108_11 0 rfl FT_i dX12_end_16 ?_
      refine S_w (ws' := [(h0, ob 11 (uF f 2 (iv k)))]) (by simp only [List.set]; rw [uF_same (k := 2)]) ?_
      refine S_iconst X dX12_end_19 ?_
      exact S_zret X (Or.inr rfl) (nle rfl) (nle rfl) dX12_end_20 (hPo _ _ (Or.inr (⟨by first | rfl | omega, rfl, by first | rfl | assumption | omega⟩)))
    ·
      refine S_iconst X dX12_end_12 ?_
      exact S_zret X (Or.inl rfl) (nle rfl) (nle rfl) dX12_end_13 (hPo _ _ (Or.inl (⟨by first | rfl | omega, rfl, by first | rfl | assumption | omega⟩)))
