
set_option maxHeartbeats 4000000 in
set_option maxRecDepth 100000 in
theorem kX7_init (l : Launch) (o9 : Nat) : AMv l yX7_init cX7_init 1 1 1 160 [rv o9] [(o9, ob 6 fzX7)] (fun u => ∃ b1 : Nat, u = [(o9, ob 6 (uF fzX7 0 (rv b1))), (b1, ar 160 (fun _ => 0))]) := by
  refine AMv.of2 rfl (nle rfl) ?_
  intro D G A p e s m args below meth c Po hPo hnm X
  refine S_aload_n X dX7_init_0 rfl rfl ?_
  refine S_obj X m119 m112 m113 dX7_init_1 (nle rfl) (nle rfl) ?_
  refine S_aload_n X dX7_init_4 rfl rfl ?_
  refine S_sipush X dX7_init_5 rfl ?_
  refine S_newa (N := 160) X m130 (by decide) (nle rfl) (nle rfl) dX7_init_8 (fun q_1 => ?_)
  refine S_w (ws' := [(o9, ob 6 fzX7), (q_1, ar 160 (fun _ => 0))]) rfl ?_
  refine S_putF X hnm fpX7_9_6 0 rfl FT_a dX7_init_10 ?_
  refine S_w (ws' := [(o9, ob 6 (uF fzX7 0 (rv q_1))), (q_1, ar 160 (fun _ => 0))]) rfl ?_
  exact S_vret X (nle rfl) (nle rfl) dX7_init_13 (hPo _ (⟨_, rfl⟩))
set_option maxHeartbeats 4000000 in
set_option maxRecDepth 100000 in
theorem kX8_init (l : Launch) (o9 : Nat) : AMv l yX8_init cX8_init 1 1 5 30 [rv o9] [(o9, ob 7 fzX8)] (fun u => ∃ b1 : Nat, ∃ b2 : Nat, ∃ b3 : Nat, ∃ b4 : Nat, ∃ b5 : Nat, u = [(o9, ob 7 (uF (uF (uF (uF (uF (uF fzX8 1 (iv 60)) 2 (rv b1)) 3 (rv b2)) 4 (rv b3)) 5 (rv b4)) 6 (rv b5))), (b1, ar 6 (fun _ => 0)), (b2, ar 6 (fun _ => 0)), (b3, ar 6 (fun _ => 0)), (b4, ar 6 (fun _ => 0)), (b5, ar 6 (fun _ => 0))]) := by
  refine AMv.of2 rfl (nle rfl) ?_
  intro D G A p e s m args below meth c Po hPo hnm X
  refine S_aload_n X dX8_init_0 rfl rfl ?_
  refine S_obj X m145 m112 m113 dX8_init_1 (nle rfl) (nle rfl) ?_
  refine S_aload_n X dX8_init_4 rfl rfl ?_
  refine S_bipush X dX8_init_5 rfl ?_
  refine S_put X fpX8_9_7 0 rfl FT_i dX8_init_7 ?_
  refine S_w (ws' := [(o9, ob 7 (uF fzX8 1 (iv 60)))]) rfl ?_
  refine S_aload_n X dX8_init_10 rfl rfl ?_
  refine S_bipush X dX8_init_11 rfl ?_
  refine S_newa (N := 6) X m130 (by decide) (nle rfl) (nle rfl) dX8_init_13 (fun q_1 => ?_)
  refine S_w (ws' := [(o9, ob 7 (uF fzX8 1 (iv 60))), (q_1, ar 6 (fun _ => 0))]) rfl ?_
  refine S_putF X hnm fpX8_15_7 0 rfl FT_a dX8_init_15 ?_
  refine S_w (ws' := [(o9, ob 7 (uF (uF fzX8 1 (iv 60)) 2 (rv q_1))), (q_1, ar 6 (fun _ => 0))]) rfl ?_
  refine S_aload_n X dX8_init_18 rfl rfl ?_
  refine S_bipush X dX8_init_19 rfl ?_
  refine S_newa (N := 6) X m130 (by decide) (nle rfl) (nle rfl) dX8_init_21 (fun q_2 => ?_)
  refine S_w (ws' := [(o9, ob 7 (uF (uF fzX8 1 (iv 60)) 2 (rv q_1))), (q_1, ar 6 (fun _ => 0)), (q_2, ar 6 (fun _ => 0))]) rfl ?_
  refine S_putF X hnm fpX8_19_7 0 rfl FT_a dX8_init_23 ?_
  refine S_w (ws' := [(o9, ob 7 (uF (uF (uF fzX8 1 (iv 60)) 2 (rv q_1)) 3 (rv q_2))), (q_1, ar 6 (fun _ => 0)), (q_2, ar 6 (fun _ => 0))]) rfl ?_
  refine S_aload_n X dX8_init_26 rfl rfl ?_
  refine S_bipush X dX8_init_27 rfl ?_
  refine S_newa (N := 6) X m130 (by decide) (nle rfl) (nle rfl) dX8_init_29 (fun q_3 => ?_)
  refine S_w (ws' := [(o9, ob 7 (uF (uF (uF fzX8 1 (iv 60)) 2 (rv q_1)) 3 (rv q_2))), (q_1, ar 6 (fun _ => 0)), (q_2, ar 6 (fun _ => 0)), (q_3, ar 6 (fun _ => 0))]) rfl ?_
  refine S_putF X hnm fpX8_22_7 0 rfl FT_a dX8_init_31 ?_
  refine S_w (ws' := [(o9, ob 7 (uF (uF (uF (uF fzX8 1 (iv 60)) 2 (rv q_1)) 3 (rv q_2)) 4 (rv q_3))), (q_1, ar 6 (fun _ => 0)), (q_2, ar 6 (fun _ => 0)), (q_3, ar 6 (fun _ => 0))]) rfl ?_
  refine S_aload_n X dX8_init_34 rfl rfl ?_
  refine S_bipush X dX8_init_35 rfl ?_
  refine S_newa (N := 6) X m130 (by decide) (nle rfl) (nle rfl) dX8_init_37 (fun q_4 => ?_)
  refine S_w (ws' := [(o9, ob 7 (uF (uF (uF (uF fzX8 1 (iv 60)) 2 (rv q_1)) 3 (rv q_2)) 4 (rv q_3))), (q_1, ar 6 (fun _ => 0)), (q_2, ar 6 (fun _ => 0)), (q_3, ar 6 (fun _ => 0)), (q_4, ar 6 (fun _ => 0))]) rfl ?_
  refine S_putF X hnm fpX8_25_7 0 rfl FT_a dX8_init_39 ?_
  refine S_w (ws' := [(o9, ob 7 (uF (uF (uF (uF (uF fzX8 1 (iv 60)) 2 (rv q_1)) 3 (rv q_2)) 4 (rv q_3)) 5 (rv q_4))), (q_1, ar 6 (fun _ => 0)), (q_2, ar 6 (fun _ => 0)), (q_3, ar 6 (fun _ => 0)), (q_4, ar 6 (fun _ => 0))]) rfl ?_
  refine S_aload_n X dX8_init_42 rfl rfl ?_
  refine S_bipush X dX8_init_43 rfl ?_
  refine S_newa (N := 6) X m130 (by decide) (nle rfl) (nle rfl) dX8_init_45 (fun q_5 => ?_)
  refine S_w (ws' := [(o9, ob 7 (uF (uF (uF (uF (uF fzX8 1 (iv 60)) 2 (rv q_1)) 3 (rv q_2)) 4 (rv q_3)) 5 (rv q_4))), (q_1, ar 6 (fun _ => 0)), (q_2, ar 6 (fun _ => 0)), (q_3, ar 6 (fun _ => 0)), (q_4, ar 6 (fun _ => 0)), (q_5, ar 6 (fun _ => 0))]) rfl ?_
  refine S_putF X hnm fpX8_28_7 0 rfl FT_a dX8_init_47 ?_
  refine S_w (ws' := [(o9, ob 7 (uF (uF (uF (uF (uF (uF fzX8 1 (iv 60)) 2 (rv q_1)) 3 (rv q_2)) 4 (rv q_3)) 5 (rv q_4)) 6 (rv q_5))), (q_1, ar 6 (fun _ => 0)), (q_2, ar 6 (fun _ => 0)), (q_3, ar 6 (fun _ => 0)), (q_4, ar 6 (fun _ => 0)), (q_5, ar 6 (fun _ => 0))]) rfl ?_
  exact S_vret X (nle rfl) (nle rfl) dX8_init_50 (hPo _ (⟨_, _, _, _, _, rfl⟩))
set_option maxHeartbeats 4000000 in
set_option maxRecDepth 100000 in
theorem kX0_init (l : Launch) (o9 : Nat) : AMv l yX0_init cX0_init 1 1 2 366 [rv o9] [(o9, ob 0 fzX0)] (fun u => ∃ b1 : Nat, ∃ b2 : Nat, u = [(o9, ob 0 (uF (uF fzX0 5 (rv b1)) 6 (rv b2))), (b1, ar 6 (fun _ => 0)), (b2, ar 360 (fun _ => 0))]) := by
  refine AMv.of2 rfl (nle rfl) ?_
  intro D G A p e s m args below meth c Po hPo hnm X
  refine S_aload_n X dX0_init_0 rfl rfl ?_
  refine S_obj X m230 m112 m113 dX0_init_1 (nle rfl) (nle rfl) ?_
  refine S_aload_n X dX0_init_4 rfl rfl ?_
  refine S_bipush X dX0_init_5 rfl ?_
  refine S_newa (N := 6) X m130 (by decide) (nle rfl) (nle rfl) dX0_init_7 (fun q_1 => ?_)
  refine S_w (ws' := [(o9, ob 0 fzX0), (q_1, ar 6 (fun _ => 0))]) rfl ?_
  refine S_putF X hnm fpX0_9_0 0 rfl FT_a dX0_init_9 ?_
  refine S_w (ws' := [(o9, ob 0 (uF fzX0 5 (rv q_1))), (q_1, ar 6 (fun _ => 0))]) rfl ?_
  refine S_aload_n X dX0_init_12 rfl rfl ?_
  refine S_sipush X dX0_init_13 rfl ?_
  refine S_newa (N := 360) X m130 (by decide) (nle rfl) (nle rfl) dX0_init_16 (fun q_2 => ?_)
  refine S_w (ws' := [(o9, ob 0 (uF fzX0 5 (rv q_1))), (q_1, ar 6 (fun _ => 0)), (q_2, ar 360 (fun _ => 0))]) rfl ?_
  refine S_putF X hnm fpX0_15_0 0 rfl FT_a dX0_init_18 ?_
  refine S_w (ws' := [(o9, ob 0 (uF (uF fzX0 5 (rv q_1)) 6 (rv q_2))), (q_1, ar 6 (fun _ => 0)), (q_2, ar 360 (fun _ => 0))]) rfl ?_
  exact S_vret X (nle rfl) (nle rfl) dX0_init_21 (hPo _ (⟨_, _, rfl⟩))
set_option maxHeartbeats 4000000 in
set_option maxRecDepth 100000 in
theorem kX6_init (l : Launch) (o9 : Nat) : AMv l yX6_init cX6_init 1 1 4 24 [rv o9] [(o9, ob 5 fzX6)] (fun u => ∃ b1 : Nat, ∃ b2 : Nat, ∃ b3 : Nat, ∃ b4 : Nat, u = [(o9, ob 5 (uF (uF (uF (uF (uF fzX6 1 (iv 9)) 4 (rv b1)) 5 (rv b2)) 6 (rv b3)) 7 (rv b4))), (b1, ar 6 (fun _ => 0)), (b2, ar 6 (fun _ => 0)), (b3, ar 6 (fun _ => 0)), (b4, ar 6 (fun _ => 0))]) := by
  refine AMv.of2 rfl (nle rfl) ?_
  intro D G A p e s m args below meth c Po hPo hnm X
  refine S_aload_n X dX6_init_0 rfl rfl ?_
  refine S_obj X m261 m112 m113 dX6_init_1 (nle rfl) (nle rfl) ?_
  refine S_aload_n X dX6_init_4 rfl rfl ?_
  refine S_bipush X dX6_init_5 rfl ?_
  refine S_put X fpX6_9_5 0 rfl FT_i dX6_init_7 ?_
  refine S_w (ws' := [(o9, ob 5 (uF fzX6 1 (iv 9)))]) rfl ?_
  refine S_aload_n X dX6_init_10 rfl rfl ?_
  refine S_bipush X dX6_init_11 rfl ?_
  refine S_newa (N := 6) X m130 (by decide) (nle rfl) (nle rfl) dX6_init_13 (fun q_1 => ?_)
  refine S_w (ws' := [(o9, ob 5 (uF fzX6 1 (iv 9))), (q_1, ar 6 (fun _ => 0))]) rfl ?_
  refine S_putF X hnm fpX6_15_5 0 rfl FT_a dX6_init_15 ?_
  refine S_w (ws' := [(o9, ob 5 (uF (uF fzX6 1 (iv 9)) 4 (rv q_1))), (q_1, ar 6 (fun _ => 0))]) rfl ?_
  refine S_aload_n X dX6_init_18 rfl rfl ?_
  refine S_bipush X dX6_init_19 rfl ?_
  refine S_newa (N := 6) X m130 (by decide) (nle rfl) (nle rfl) dX6_init_21 (fun q_2 => ?_)
  refine S_w (ws' := [(o9, ob 5 (uF (uF fzX6 1 (iv 9)) 4 (rv q_1))), (q_1, ar 6 (fun _ => 0)), (q_2, ar 6 (fun _ => 0))]) rfl ?_
  refine S_putF X hnm fpX6_19_5 0 rfl FT_a dX6_init_23 ?_
  refine S_w (ws' := [(o9, ob 5 (uF (uF (uF fzX6 1 (iv 9)) 4 (rv q_1)) 5 (rv q_2))), (q_1, ar 6 (fun _ => 0)), (q_2, ar 6 (fun _ => 0))]) rfl ?_
  refine S_aload_n X dX6_init_26 rfl rfl ?_
  refine S_bipush X dX6_init_27 rfl ?_
  refine S_newa (N := 6) X m130 (by decide) (nle rfl) (nle rfl) dX6_init_29 (fun q_3 => ?_)
  refine S_w (ws' := [(o9, ob 5 (uF (uF (uF fzX6 1 (iv 9)) 4 (rv q_1)) 5 (rv q_2))), (q_1, ar 6 (fun _ => 0)), (q_2, ar 6 (fun _ => 0)), (q_3, ar 6 (fun _ => 0))]) rfl ?_
  refine S_putF X hnm fpX6_22_5 0 rfl FT_a dX6_init_31 ?_
  refine S_w (ws' := [(o9, ob 5 (uF (uF (uF (uF fzX6 1 (iv 9)) 4 (rv q_1)) 5 (rv q_2)) 6 (rv q_3))), (q_1, ar 6 (fun _ => 0)), (q_2, ar 6 (fun _ => 0)), (q_3, ar 6 (fun _ => 0))]) rfl ?_
  refine S_aload_n X dX6_init_34 rfl rfl ?_
  refine S_bipush X dX6_init_35 rfl ?_
  refine S_newa (N := 6) X m130 (by decide) (nle rfl) (nle rfl) dX6_init_37 (fun q_4 => ?_)
  refine S_w (ws' := [(o9, ob 5 (uF (uF (uF (uF fzX6 1 (iv 9)) 4 (rv q_1)) 5 (rv q_2)) 6 (rv q_3))), (q_1, ar 6 (fun _ => 0)), (q_2, ar 6 (fun _ => 0)), (q_3, ar 6 (fun _ => 0)), (q_4, ar 6 (fun _ => 0))]) rfl ?_
  refine S_putF X hnm fpX6_25_5 0 rfl FT_a dX6_init_39 ?_
  refine S_w (ws' := [(o9, ob 5 (uF (uF (uF (uF (uF fzX6 1 (iv 9)) 4 (rv q_1)) 5 (rv q_2)) 6 (rv q_3)) 7 (rv q_4))), (q_1, ar 6 (fun _ => 0)), (q_2, ar 6 (fun _ => 0)), (q_3, ar 6 (fun _ => 0)), (q_4, ar 6 (fun _ => 0))]) rfl ?_
  exact S_vret X (nle rfl) (nle rfl) dX6_init_42 (hPo _ (⟨_, _, _, _, rfl⟩))
set_option maxHeartbeats 4000000 in
set_option maxRecDepth 100000 in
theorem kX4_init (l : Launch) (o9 : Nat) : AMv l yX4_init cX4_init 1 1 4 1422 [rv o9] [(o9, ob 4 fzX4)] (fun u => ∃ b1 : Nat, ∃ b2 : Nat, ∃ b3 : Nat, ∃ b4 : Nat, u = [(o9, ob 4 (uF (uF (uF (uF fzX4 0 (rv b1)) 1 (rv b2)) 2 (rv b3)) 3 (rv b4))), (b1, ar 1206 (fun _ => 0)), (b2, ar 180 (fun _ => 0)), (b3, ar 6 (fun _ => 0)), (b4, ar 30 (fun _ => 0))]) := by
  refine AMv.of2 rfl (nle rfl) ?_
  intro D G A p e s m args below meth c Po hPo hnm X
  refine S_aload_n X dX4_init_0 rfl rfl ?_
  refine S_obj X m312 m112 m113 dX4_init_1 (nle rfl) (nle rfl) ?_
  refine S_aload_n X dX4_init_4 rfl rfl ?_
  refine S_sipush X dX4_init_5 rfl ?_
  refine S_newa (N := 1206) X m130 (by decide) (nle rfl) (nle rfl) dX4_init_8 (fun q_1 => ?_)
  refine S_w (ws' := [(o9, ob 4 fzX4), (q_1, ar 1206 (fun _ => 0))]) rfl ?_
  refine S_putF X hnm fpX4_11_4 0 rfl FT_a dX4_init_10 ?_
  refine S_w (ws' := [(o9, ob 4 (uF fzX4 0 (rv q_1))), (q_1, ar 1206 (fun _ => 0))]) rfl ?_
  refine S_aload_n X dX4_init_13 rfl rfl ?_
  refine S_sipush X dX4_init_14 rfl ?_
  refine S_newa (N := 180) X m130 (by decide) (nle rfl) (nle rfl) dX4_init_17 (fun q_2 => ?_)
  refine S_w (ws' := [(o9, ob 4 (uF fzX4 0 (rv q_1))), (q_1, ar 1206 (fun _ => 0)), (q_2, ar 180 (fun _ => 0))]) rfl ?_
  refine S_putF X hnm fpX4_15_4 0 rfl FT_a dX4_init_19 ?_
  refine S_w (ws' := [(o9, ob 4 (uF (uF fzX4 0 (rv q_1)) 1 (rv q_2))), (q_1, ar 1206 (fun _ => 0)), (q_2, ar 180 (fun _ => 0))]) rfl ?_
  refine S_aload_n X dX4_init_22 rfl rfl ?_
  refine S_bipush X dX4_init_23 rfl ?_
  refine S_newa (N := 6) X m130 (by decide) (nle rfl) (nle rfl) dX4_init_25 (fun q_3 => ?_)
  refine S_w (ws' := [(o9, ob 4 (uF (uF fzX4 0 (rv q_1)) 1 (rv q_2))), (q_1, ar 1206 (fun _ => 0)), (q_2, ar 180 (fun _ => 0)), (q_3, ar 6 (fun _ => 0))]) rfl ?_
  refine S_putF X hnm fpX4_18_4 0 rfl FT_a dX4_init_27 ?_
  refine S_w (ws' := [(o9, ob 4 (uF (uF (uF fzX4 0 (rv q_1)) 1 (rv q_2)) 2 (rv q_3))), (q_1, ar 1206 (fun _ => 0)), (q_2, ar 180 (fun _ => 0)), (q_3, ar 6 (fun _ => 0))]) rfl ?_
  refine S_aload_n X dX4_init_30 rfl rfl ?_
  refine S_bipush X dX4_init_31 rfl ?_
  refine S_newa (N := 30) X m130 (by decide) (nle rfl) (nle rfl) dX4_init_33 (fun q_4 => ?_)
  refine S_w (ws' := [(o9, ob 4 (uF (uF (uF fzX4 0 (rv q_1)) 1 (rv q_2)) 2 (rv q_3))), (q_1, ar 1206 (fun _ => 0)), (q_2, ar 180 (fun _ => 0)), (q_3, ar 6 (fun _ => 0)), (q_4, ar 30 (fun _ => 0))]) rfl ?_
  refine S_putF X hnm fpX4_21_4 0 rfl FT_a dX4_init_35 ?_
  refine S_w (ws' := [(o9, ob 4 (uF (uF (uF (uF fzX4 0 (rv q_1)) 1 (rv q_2)) 2 (rv q_3)) 3 (rv q_4))), (q_1, ar 1206 (fun _ => 0)), (q_2, ar 180 (fun _ => 0)), (q_3, ar 6 (fun _ => 0)), (q_4, ar 30 (fun _ => 0))]) rfl ?_
  exact S_vret X (nle rfl) (nle rfl) dX4_init_38 (hPo _ (⟨_, _, _, _, rfl⟩))
set_option maxHeartbeats 4000000 in
set_option maxRecDepth 100000 in
theorem kX3_init (l : Launch) (o9 : Nat) : AMv l yX3_init cX3_init 1 1 3 68 [rv o9] [(o9, ob 3 fzX3)] (fun u => ∃ b1 : Nat, ∃ b2 : Nat, ∃ b3 : Nat, u = [(o9, ob 3 (uF (uF (uF fzX3 2 (rv b1)) 3 (rv b2)) 4 (rv b3))), (b1, ar 31 (fun _ => 0)), (b2, ar 31 (fun _ => 0)), (b3, ar 6 (fun _ => 0))]) := by
  refine AMv.of2 rfl (nle rfl) ?_
  intro D G A p e s m args below meth c Po hPo hnm X
  refine S_aload_n X dX3_init_0 rfl rfl ?_
  refine S_obj X m349 m112 m113 dX3_init_1 (nle rfl) (nle rfl) ?_
  refine S_aload_n X dX3_init_4 rfl rfl ?_
  refine S_bipush X dX3_init_5 rfl ?_
  refine S_newa (N := 31) X m130 (by decide) (nle rfl) (nle rfl) dX3_init_7 (fun q_1 => ?_)
  refine S_w (ws' := [(o9, ob 3 fzX3), (q_1, ar 31 (fun _ => 0))]) rfl ?_
  refine S_putF X hnm fpX3_9_3 0 rfl FT_a dX3_init_9 ?_
  refine S_w (ws' := [(o9, ob 3 (uF fzX3 2 (rv q_1))), (q_1, ar 31 (fun _ => 0))]) rfl ?_
  refine S_aload_n X dX3_init_12 rfl rfl ?_
  refine S_bipush X dX3_init_13 rfl ?_
  refine S_newa (N := 31) X m130 (by decide) (nle rfl) (nle rfl) dX3_init_15 (fun q_2 => ?_)
  refine S_w (ws' := [(o9, ob 3 (uF fzX3 2 (rv q_1))), (q_1, ar 31 (fun _ => 0)), (q_2, ar 31 (fun _ => 0))]) rfl ?_
  refine S_putF X hnm fpX3_15_3 0 rfl FT_a dX3_init_17 ?_
  refine S_w (ws' := [(o9, ob 3 (uF (uF fzX3 2 (rv q_1)) 3 (rv q_2))), (q_1, ar 31 (fun _ => 0)), (q_2, ar 31 (fun _ => 0))]) rfl ?_
  refine S_aload_n X dX3_init_20 rfl rfl ?_
  refine S_bipush X dX3_init_21 rfl ?_
  refine S_newa (N := 6) X m130 (by decide) (nle rfl) (nle rfl) dX3_init_23 (fun q_3 => ?_)
  refine S_w (ws' := [(o9, ob 3 (uF (uF fzX3 2 (rv q_1)) 3 (rv q_2))), (q_1, ar 31 (fun _ => 0)), (q_2, ar 31 (fun _ => 0)), (q_3, ar 6 (fun _ => 0))]) rfl ?_
  refine S_putF X hnm fpX3_18_3 0 rfl FT_a dX3_init_25 ?_
  refine S_w (ws' := [(o9, ob 3 (uF (uF (uF fzX3 2 (rv q_1)) 3 (rv q_2)) 4 (rv q_3))), (q_1, ar 31 (fun _ => 0)), (q_2, ar 31 (fun _ => 0)), (q_3, ar 6 (fun _ => 0))]) rfl ?_
  exact S_vret X (nle rfl) (nle rfl) dX3_init_28 (hPo _ (⟨_, _, _, rfl⟩))
set_option maxHeartbeats 4000000 in
set_option maxRecDepth 100000 in
theorem kX10_init (l : Launch) (o9 : Nat) (p1 : Nat) (p2 : Nat) : AMv l yX10_init cX10_init 3 1 2 48 [rv o9, rv p1, rv p2] [(o9, ob 9 fzX10)] (fun u => ∃ b1 : Nat, ∃ b2 : Nat, u = [(o9, ob 9 (uF (uF (uF (uF fzX10 5 (rv b1)) 6 (rv b2)) 3 (rv p1)) 4 (rv p2))), (b1, ar 6 (fun _ => 0)), (b2, ar 42 (fun _ => 0))]) := by
  refine AMv.of2 rfl (nle rfl) ?_
  intro D G A p e s m args below meth c Po hPo hnm X
  refine S_aload_n X dX10_init_0 rfl rfl ?_
  refine S_obj X m373 m112 m113 dX10_init_1 (nle rfl) (nle rfl) ?_
  refine S_aload_n X dX10_init_4 rfl rfl ?_
  refine S_bipush X dX10_init_5 rfl ?_
  refine S_newa (N := 6) X m130 (by decide) (nle rfl) (nle rfl) dX10_init_7 (fun q_1 => ?_)
  refine S_w (ws' := [(o9, ob 9 fzX10), (q_1, ar 6 (fun _ => 0))]) rfl ?_
  refine S_putF X hnm fpX10_9_9 0 rfl FT_a dX10_init_9 ?_
  refine S_w (ws' := [(o9, ob 9 (uF fzX10 5 (rv q_1))), (q_1, ar 6 (fun _ => 0))]) rfl ?_
  refine S_aload_n X dX10_init_12 rfl rfl ?_
  refine S_bipush X dX10_init_13 rfl ?_
  refine S_newa (N := 42) X m130 (by decide) (nle rfl) (nle rfl) dX10_init_15 (fun q_2 => ?_)
  refine S_w (ws' := [(o9, ob 9 (uF fzX10 5 (rv q_1))), (q_1, ar 6 (fun _ => 0)), (q_2, ar 42 (fun _ => 0))]) rfl ?_
  refine S_putF X hnm fpX10_15_9 0 rfl FT_a dX10_init_17 ?_
  refine S_w (ws' := [(o9, ob 9 (uF (uF fzX10 5 (rv q_1)) 6 (rv q_2))), (q_1, ar 6 (fun _ => 0)), (q_2, ar 42 (fun _ => 0))]) rfl ?_
  refine S_aload_n X dX10_init_20 rfl rfl ?_
  refine S_aload_n X dX10_init_21 rfl rfl ?_
  refine S_putF X hnm fpX10_18_9 0 rfl FT_o dX10_init_22 ?_
  refine S_w (ws' := [(o9, ob 9 (uF (uF (uF fzX10 5 (rv q_1)) 6 (rv q_2)) 3 (rv p1))), (q_1, ar 6 (fun _ => 0)), (q_2, ar 42 (fun _ => 0))]) rfl ?_
  refine S_aload_n X dX10_init_25 rfl rfl ?_
  refine S_aload_n X dX10_init_26 rfl rfl ?_
  refine S_putF X hnm fpX10_22_9 0 rfl FT_o dX10_init_27 ?_
  refine S_w (ws' := [(o9, ob 9 (uF (uF (uF (uF fzX10 5 (rv q_1)) 6 (rv q_2)) 3 (rv p1)) 4 (rv p2))), (q_1, ar 6 (fun _ => 0)), (q_2, ar 42 (fun _ => 0))]) rfl ?_
  exact S_vret X (nle rfl) (nle rfl) dX10_init_30 (hPo _ (⟨_, _, rfl⟩))
set_option maxHeartbeats 4000000 in
set_option maxRecDepth 100000 in
theorem kX5_init_8 (l : Launch) (o9 : Nat) (p1 : Nat) : AMv l yX5_init cX5_init 2 1 0 0 [rv o9, rv p1] [(o9, ob 8 fzX9)] (fun u => u = [(o9, ob 8 (uF fzX9 0 (rv p1)))]) := by
  refine AMv.of2 rfl (nle rfl) ?_
  intro D G A p e s m args below meth c Po hPo hnm X
  refine S_aload_n X dX5_init_0 rfl rfl ?_
  refine S_obj X m139 m112 m113 dX5_init_1 (nle rfl) (nle rfl) ?_
  refine S_aload_n X dX5_init_4 rfl rfl ?_
  refine S_aload_n X dX5_init_5 rfl rfl ?_
  refine S_putF X hnm fpX5_9_8 0 rfl FT_o dX5_init_6 ?_
  refine S_w (ws' := [(o9, ob 8 (uF fzX9 0 (rv p1)))]) rfl ?_
  exact S_vret X (nle rfl) (nle rfl) dX5_init_9 (hPo _ (rfl))
set_option maxHeartbeats 4000000 in
set_option maxRecDepth 100000 in
theorem kX5_init_2 (l : Launch) (o9 : Nat) (p1 : Nat) : AMv l yX5_init cX5_init 2 1 0 0 [rv o9, rv p1] [(o9, ob 2 fzX2)] (fun u => u = [(o9, ob 2 (uF fzX2 0 (rv p1)))]) := by
  refine AMv.of2 rfl (nle rfl) ?_
  intro D G A p e s m args below meth c Po hPo hnm X
  refine S_aload_n X dX5_init_0 rfl rfl ?_
  refine S_obj X m139 m112 m113 dX5_init_1 (nle rfl) (nle rfl) ?_
  refine S_aload_n X dX5_init_4 rfl rfl ?_
  refine S_aload_n X dX5_init_5 rfl rfl ?_
  refine S_putF X hnm fpX5_9_2 0 rfl FT_o dX5_init_6 ?_
  refine S_w (ws' := [(o9, ob 2 (uF fzX2 0 (rv p1)))]) rfl ?_
  exact S_vret X (nle rfl) (nle rfl) dX5_init_9 (hPo _ (rfl))
set_option maxHeartbeats 4000000 in
set_option maxRecDepth 100000 in
theorem kX9_init (l : Launch) (o9 : Nat) (p1 : Nat) : AMv l yX9_init cX9_init 2 2 6 37 [rv o9, rv p1] [(o9, ob 8 fzX9)] (fun u => ∃ o8 : Nat, ∃ b1 : Nat, ∃ b2 : Nat, ∃ b3 : Nat, ∃ b4 : Nat, ∃ b5 : Nat, u = [(o9, ob 8 (uF (uF fzX9 0 (rv p1)) 3 (rv o8))), (o8, ob 7 (uF (uF (uF (uF (uF (uF fzX8 1 (iv 60)) 2 (rv b1)) 3 (rv b2)) 4 (rv b3)) 5 (rv b4)) 6 (rv b5))), (b1, ar 6 (fun _ => 0)), (b2, ar 6 (fun _ => 0)), (b3, ar 6 (fun _ => 0)), (b4, ar 6 (fun _ => 0)), (b5, ar 6 (fun _ => 0))]) := by
  refine AMv.of2 rfl (nle rfl) ?_
  intro D G A p e s m args below meth c Po hPo hnm X
  refine S_aload_n X dX9_init_0 rfl rfl ?_
  refine S_aload_n X dX9_init_1 rfl rfl ?_
  refine S_callv X (kX5_init_8 l o9 p1 ) (is := [0]) rfl (run_I X lkX9_3 (is := [0]) (avs := [rv p1]) (rest := []) rfl rfl (nle rfl) ⟨nle rfl, nle rfl⟩ ⟨nle rfl, nle rfl⟩ dX9_init_2 (by decide) rfl) (fun u_1 hp_2 => ?_)
  have hu_5 := hp_2
  subst hu_5
  refine ⟨rfl, ?_⟩
  refine S_w (ws' := [(o9, ob 8 (uF fzX9 0 (rv p1)))]) rfl ?_
  refine S_aload_n X dX9_init_5 rfl rfl ?_
  refine S_new (ci := 7) (f0 := fzX8) X tyX8 iuX8 tyX8_ok m140 m141 m89 rfl fzX8_ok (nle rfl) (nle rfl) dX9_init_6 (fun q_6 => ?_)
  refine S_w (ws' := [(o9, ob 8 (uF fzX9 0 (rv p1))), (q_6, ob 7 fzX8)]) rfl ?_
  refine S_dup X dX9_init_9 ?_
  refine S_callvA [0] (wr := [(o9, ob 8 (uF fzX9 0 (rv p1)))]) X (kX8_init l q_6 ) (is := [1]) rfl rfl (by decide) (by decide) (run_IN X lkX9_11 (is := [1]) (avs := []) (rest := [rv q_6, rv o9]) rfl rfl (nle rfl) ⟨nle rfl, nle rfl⟩ ⟨nle rfl, nle rfl⟩ dX9_init_10 (by decide) rfl) (fun u_7 hp_8 => ?_)
  obtain ⟨b1_10, b2_11, b3_12, b4_13, b5_14, hu_16⟩ := hp_8
  subst hu_16
  refine S_w (ws' := [(o9, ob 8 (uF fzX9 0 (rv p1))), (q_6, ob 7 (uF (uF (uF (uF (uF (uF fzX8 1 (iv 60)) 2 (rv b1_10)) 3 (rv b2_11)) 4 (rv b3_12)) 5 (rv b4_13)) 6 (rv b5_14))), (b1_10, ar 6 (fun _ => 0)), (b2_11, ar 6 (fun _ => 0)), (b3_12, ar 6 (fun _ => 0)), (b4_13, ar 6 (fun _ => 0)), (b5_14, ar 6 (fun _ => 0))]) rfl ?_
  refine S_putF X hnm fpX9_14_8 0 rfl FT_o dX9_init_13 ?_
  refine S_w (ws' := [(o9, ob 8 (uF (uF fzX9 0 (rv p1)) 3 (rv q_6))), (q_6, ob 7 (uF (uF (uF (uF (uF (uF fzX8 1 (iv 60)) 2 (rv b1_10)) 3 (rv b2_11)) 4 (rv b3_12)) 5 (rv b4_13)) 6 (rv b5_14))), (b1_10, ar 6 (fun _ => 0)), (b2_11, ar 6 (fun _ => 0)), (b3_12, ar 6 (fun _ => 0)), (b4_13, ar 6 (fun _ => 0)), (b5_14, ar 6 (fun _ => 0))]) rfl ?_
  exact S_vret X (nle rfl) (nle rfl) dX9_init_16 (hPo _ (⟨_, _, _, _, _, _, rfl⟩))
set_option maxHeartbeats 4000000 in
set_option maxRecDepth 100000 in
theorem kX2_init (l : Launch) (o9 : Nat) (p1 : Nat) : AMv l yX2_init cX2_init 2 2 1 160 [rv o9, rv p1] [(o9, ob 2 fzX2)] (fun u => ∃ b1 : Nat, u = [(o9, ob 2 (uF (uF fzX2 0 (rv p1)) 3 (rv b1))), (b1, ar 160 (fun _ => 0))]) := by
  refine AMv.of2 rfl (nle rfl) ?_
  intro D G A p e s m args below meth c Po hPo hnm X
  refine S_aload_n X dX2_init_0 rfl rfl ?_
  refine S_aload_n X dX2_init_1 rfl rfl ?_
  refine S_callv X (kX5_init_2 l o9 p1 ) (is := [0]) rfl (run_I X lkX2_3 (is := [0]) (avs := [rv p1]) (rest := []) rfl rfl (nle rfl) ⟨nle rfl, nle rfl⟩ ⟨nle rfl, nle rfl⟩ dX2_init_2 (by decide) rfl) (fun u_1 hp_2 => ?_)
  have hu_5 := hp_2
  subst hu_5
  refine ⟨rfl, ?_⟩
  refine S_w (ws' := [(o9, ob 2 (uF fzX2 0 (rv p1)))]) rfl ?_
  refine S_aload_n X dX2_init_5 rfl rfl ?_
  refine S_sipush X dX2_init_6 rfl ?_
  refine S_newa (N := 160) X m130 (by decide) (nle rfl) (nle rfl) dX2_init_9 (fun q_6 => ?_)
  refine S_w (ws' := [(o9, ob 2 (uF fzX2 0 (rv p1))), (q_6, ar 160 (fun _ => 0))]) rfl ?_
  refine S_putF X hnm fpX2_11_2 0 rfl FT_a dX2_init_11 ?_
  refine S_w (ws' := [(o9, ob 2 (uF (uF fzX2 0 (rv p1)) 3 (rv q_6))), (q_6, ar 160 (fun _ => 0))]) rfl ?_
  exact S_vret X (nle rfl) (nle rfl) dX2_init_14 (hPo _ (⟨_, rfl⟩))
