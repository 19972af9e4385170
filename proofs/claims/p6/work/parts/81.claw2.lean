
set_option maxHeartbeats 4000000 in
set_option maxRecDepth 100000 in
theorem kJ7_copyOf_59c91 (l : Launch) (a9 : Nat) (n9 : Nat) (g9 : Int → Int) (N : Nat) (hN : N ≤ n9 ∧ n9 ≤ 160) : AMr l yJ7_copyOf_59c91 cJ7_copyOf_59c91 3 (.array .int) 1 1 160 [rv a9, iv (N : Int)] [(a9, ar n9 g9)] (fun z u => ∃ g2 : Int → Int, u = [(a9, ar n9 g9), (z, ar N g2)] ∧ (∀ j, 0 ≤ j → j < (N : Int) → g2 j = g9 j)) := by
  refine AMr.of2 rfl (nle rfl) ?_
  intro D G A p e s m args below meth c Po hPo X
  refine S_iload_n X dJ7_copyOf_59c91_0 rfl rfl ?_
  refine S_aload_n X dJ7_copyOf_59c91_1 rfl rfl ?_
  refine S_alen X 0 rfl dJ7_copyOf_59c91_2 ?_
  refine S_icmp_ne (tgt := 14) X dJ7_copyOf_59c91_3 (by decide) (by omega) (by omega) (fun c_1 => ?_) (fun c_1 => ?_)
  ·
    refine S_iload_n X dJ7_copyOf_59c91_14 rfl rfl ?_
    refine S_newa (N := N) X m130 (by omega) (nle rfl) (by first | exact nle rfl | (simp only [rmD]; omega) | omega) dJ7_copyOf_59c91_15 (fun q_2 => ?_)
    refine S_w (ws' := [(a9, ar n9 g9), (q_2, ar N (fun _ => 0))]) rfl ?_
    refine S_astore_n X dJ7_copyOf_59c91_17 rfl (nle rfl) ?_
    refine S_aload_n X dJ7_copyOf_59c91_18 rfl rfl ?_
    refine S_iconst X dJ7_copyOf_59c91_19 ?_
    refine S_aload_n X dJ7_copyOf_59c91_20 rfl rfl ?_
    refine S_iconst X dJ7_copyOf_59c91_21 ?_
    refine S_aload_n X dJ7_copyOf_59c91_22 rfl rfl ?_
    refine S_alen X 0 rfl dJ7_copyOf_59c91_23 ?_
    refine S_iload_n X dJ7_copyOf_59c91_24 rfl rfl ?_
    refine S_mmin X lkJ7_304 rfl rfl (by omega) (by omega) (nle rfl) (nle rfl) (nle rfl) (by first | exact nle rfl | (simp only [rmD]; omega) | omega) dJ7_copyOf_59c91_25 ?_
    refine S_copy (sp := 0) (dp := 0) (n := min (n9 : Int) (N : Int)) X m668 m632 m631 m97 0 1 rfl rfl (by decide) (by decide) (by omega) (by omega) (by omega) (by omega) (by omega) (nle rfl) (nle rfl) dJ7_copyOf_59c91_28 ?_
    refine S_w (ws' := [(a9, ar n9 g9), (q_2, ar N (cpZ g9 (fun _ => 0) 0 0 (min (n9 : Int) (N : Int))))]) rfl ?_
    refine S_aload_n X dJ7_copyOf_59c91_31 rfl rfl ?_
    exact S_aret X (Or.inr ⟨_, rfl⟩) (by first | exact nle rfl | (simp only [rmD]; omega) | omega) (by first | exact nle rfl | (simp only [rmD]; omega) | omega) dJ7_copyOf_59c91_32 (hPo _ _ (⟨_, rfl, fun j h0 h1 => cpZ_in ⟨h0, by omega⟩⟩))
  ·
    refine S_aload_n X dJ7_copyOf_59c91_6 rfl rfl ?_
    refine S_clone X m658 m659 m660 m661 m662 mn663 0 rfl (nle rfl) (nle rfl) (nle rfl) (by first | exact nle rfl | (simp only [rmD]; omega) | omega) dJ7_copyOf_59c91_7 (fun q_3 => ?_)
    refine S_w (ws' := [(a9, ar n9 g9), (q_3, ar n9 g9)]) rfl ?_
    refine S_castI X m664 1 rfl dJ7_copyOf_59c91_10 ?_
    exact S_aret X (Or.inr ⟨_, rfl⟩) (by first | exact nle rfl | (simp only [rmD]; omega) | omega) (by first | exact nle rfl | (simp only [rmD]; omega) | omega) dJ7_copyOf_59c91_13 (hPo _ _ (⟨_, by rw [show N = n9 by omega], fun j h0 h1 => rfl⟩))
set_option maxHeartbeats 4000000 in
set_option maxRecDepth 100000 in
theorem kX1_init (l : Launch) (oL : Nat) (aC : Nat) (nc : Nat) (CC : Int → Int) (hnc : nc ≤ 160) (hCr : ∀ j, 0 ≤ j → j < (nc : Int) → inR (CC j)) : AMv l yX1_init cX1_init 4 1 2 1160 [rv oL, rv aC] [(oL, ob 1 fzX1), (aC, ar nc CC)] (fun u => (∃ b1 : Nat, ∃ b2 : Nat, u = [(oL, ob 1 (uF (uF (uF fzX1 0 (rv aC)) 1 (rv b1)) 2 (rv b2))), (aC, ar nc CC), (b1, ar nc (fun _ => 0)), (b2, ar 1000 (fun _ => 0))]) ∨ (∃ b1 : Nat, ∃ b2 : Nat, u = [(oL, ob 1 (uF (uF (uF fzX1 0 (rv aC)) 1 (rv b1)) 2 (rv b2))), (aC, ar nc CC), (b1, ar nc (fun _ => 0)), (b2, ar 0 (fun _ => 0))] ∧ (∀ j, 0 ≤ j → j < (nc : Int) → CC j ≠ -111))) := by
  refine AMv.of2 rfl (nle rfl) ?_
  intro D G A p e s m args below meth c Po hPo hnm X
  refine S_aload_n X dX1_init_0 rfl rfl ?_
  refine S_obj X m672 m112 m113 dX1_init_1 (nle rfl) (nle rfl) ?_
  refine S_iconst X dX1_init_4 ?_
  refine S_istore_n X dX1_init_5 rfl (nle rfl) ?_
  refine S_iconst X dX1_init_6 ?_
  refine S_istore_n X dX1_init_7 rfl (nle rfl) ?_
  have lp8_0 : ∀ (N : Nat) (i : Int) (b : Int) (L : Nat → Option AV), 0 ≤ i ∧ i ≤ (nc : Int) → b = 0 ∨ b = 1 → (b = 1 ∨ ∀ j, 0 ≤ j → j < i → CC j ≠ -111) → L 0 = some (rv oL) → L 1 = some (rv aC) → L 2 = some (iv b) → L 3 = some (iv i) → (nc : Int) + 1 - i < (N : Int) → S_ p l e (rmD 1 2 1160) s m args below meth c (MQ below (QcV D G A Po) args s 2 1160 A) D G A 4 0 0 8 L [] [(oL, ob 1 fzX1), (aC, ar nc CC)] := by
    intro N
    induction N with
    | zero =>
      intro i b L8 hi hb hno hL8_0 hL8_1 hL8_2 hL8_3 hN8
      exfalso; omega
    | succ N ih8 =>
      intro i b L8 hi hb hno hL8_0 hL8_1 hL8_2 hL8_3 hN8
      refine S_iload_n X dX1_init_8 rfl hL8_3 ?_
      refine S_aload_n X dX1_init_9 rfl hL8_1 ?_
      refine S_alen X 1 rfl dX1_init_10 ?_
      refine S_icmp_ge (tgt := 30) X dX1_init_11 (by decide) (by omega) (by omega) (fun c_1 => ?_) (fun c_1 => ?_)
      ·
        refine S_aload_n X dX1_init_30 rfl hL8_0 ?_
        refine S_aload_n X dX1_init_31 rfl hL8_1 ?_
        refine S_putF X hnm fpX1_9_1 0 rfl FT_a dX1_init_32 ?_
        refine S_w (ws' := [(oL, ob 1 (uF fzX1 0 (rv aC))), (aC, ar nc CC)]) rfl ?_
        refine S_aload_n X dX1_init_35 rfl hL8_0 ?_
        refine S_aload_n X dX1_init_36 rfl hL8_1 ?_
        refine S_alen X 1 rfl dX1_init_37 ?_
        refine S_newa (N := nc) X m130 (by omega) (nle rfl) (by first | exact nle rfl | (simp only [rmD]; omega) | omega) dX1_init_38 (fun q_2 => ?_)
        refine S_w (ws' := [(oL, ob 1 (uF fzX1 0 (rv aC))), (aC, ar nc CC), (q_2, ar nc (fun _ => 0))]) rfl ?_
        refine S_putF X hnm fpX1_15_1 0 rfl FT_a dX1_init_40 ?_
        refine S_w (ws' := [(oL, ob 1 (uF (uF fzX1 0 (rv aC)) 1 (rv q_2))), (aC, ar nc CC), (q_2, ar nc (fun _ => 0))]) rfl ?_
        refine S_aload_n X dX1_init_43 rfl hL8_0 ?_
        refine S_iload_n X dX1_init_44 rfl hL8_2 ?_
        refine S_if_eq (tgt := 54) X dX1_init_45 (by decide) (by omega) (fun c_3 => ?_) (fun c_3 => ?_)
        ·
          refine S_iconst X dX1_init_54 ?_
          refine S_newa (N := 0) X m130 (by decide) (nle rfl) (by first | exact nle rfl | (simp only [rmD]; omega) | omega) dX1_init_55 (fun q_4 => ?_)
          refine S_w (ws' := [(oL, ob 1 (uF (uF fzX1 0 (rv aC)) 1 (rv q_2))), (aC, ar nc CC), (q_2, ar nc (fun _ => 0)), (q_4, ar 0 (fun _ => 0))]) rfl ?_
          refine S_putF X hnm fpX1_18_1 0 rfl FT_a dX1_init_57 ?_
          refine S_w (ws' := [(oL, ob 1 (uF (uF (uF fzX1 0 (rv aC)) 1 (rv q_2)) 2 (rv q_4))), (aC, ar nc CC), (q_2, ar nc (fun _ => 0)), (q_4, ar 0 (fun _ => 0))]) rfl ?_
          exact S_vret X (nle rfl) (by first | exact nle rfl | (simp only [rmD]; omega) | omega) dX1_init_60 (hPo _ (Or.inr ⟨_, _, rfl, fun j h0 h1 => (hno.resolve_left (by omega)) j h0 (by omega)⟩))
        ·
          refine S_sipush X dX1_init_48 rfl ?_
          refine S_goto (tgt := 55) X dX1_init_51 (by decide) ?_
          refine S_newa (N := 1000) X m130 (by decide) (nle rfl) (by first | exact nle rfl | (simp only [rmD]; omega) | omega) dX1_init_55 (fun q_5 => ?_)
          refine S_w (ws' := [(oL, ob 1 (uF (uF fzX1 0 (rv aC)) 1 (rv q_2))), (aC, ar nc CC), (q_2, ar nc (fun _ => 0)), (q_5, ar 1000 (fun _ => 0))]) rfl ?_
          refine S_putF X hnm fpX1_18_1 0 rfl FT_a dX1_init_57 ?_
          refine S_w (ws' := [(oL, ob 1 (uF (uF (uF fzX1 0 (rv aC)) 1 (rv q_2)) 2 (rv q_5))), (aC, ar nc CC), (q_2, ar nc (fun _ => 0)), (q_5, ar 1000 (fun _ => 0))]) rfl ?_
          exact S_vret X (nle rfl) (by first | exact nle rfl | (simp only [rmD]; omega) | omega) dX1_init_60 (hPo _ (Or.inl ⟨_, _, rfl⟩))
      ·
        have hC9 := hCr i (by omega) (by omega)
        refine S_aload_n X dX1_init_14 rfl hL8_1 ?_
        refine S_iload_n X dX1_init_15 rfl hL8_3 ?_
        refine S_iald X 1 rfl (by omega) (by omega) (by omega) dX1_init_16 ?_
        refine S_bipush X dX1_init_17 rfl ?_
        refine S_icmp_ne (tgt := 24) X dX1_init_19 (by decide) (by omega) (by decide) (fun c_6 => ?_) (fun c_6 => ?_)
        ·
          refine S_iinc X dX1_init_24 (nle rfl) hL8_3 ?_
          refine S_goto (tgt := 8) X dX1_init_27 (by decide) ?_
          exact ih8 (i + 1) b _ (by omega) (by omega) (hno.imp id (fun h9 j h0 h1 => (by omega : j < i ∨ j = i).elim (fun q9 => h9 j h0 q9) (fun q9 => by rw [q9]; omega))) hL8_0 hL8_1 hL8_2 rfl (by omega)
        ·
          refine S_iconst X dX1_init_22 ?_
          refine S_istore_n X dX1_init_23 rfl (nle rfl) ?_
          refine S_iinc X dX1_init_24 (nle rfl) hL8_3 ?_
          refine S_goto (tgt := 8) X dX1_init_27 (by decide) ?_
          exact ih8 (i + 1) 1 _ (by omega) (by omega) (Or.inl rfl) hL8_0 hL8_1 rfl rfl (by omega)
  exact lp8_0 (Int.toNat ((nc : Int) + 1 - 0) + 1) 0 0 _ (by omega) (by omega) (Or.inr (fun j h0 h1 => by omega)) rfl rfl rfl rfl (by omega)
set_option maxHeartbeats 4000000 in
set_option maxRecDepth 100000 in
theorem kX2_toLaw (l : Launch) (oZ : Nat) (fZ : Nat → AV) (hC : Nat) (C : Int → Int) (nc : Nat) (hf0 : fZ 3 = rv hC) (hf1 : fZ 4 = iv (nc : Int)) (hnc : nc ≤ 160) (hCr : ∀ j, 0 ≤ j → j < (nc : Int) → inR (C j)) : AMr l yX2_toLaw cX2_toLaw 1 (.object "BorrowedBeat$Law") 2 4 1325 [rv oZ] [(oZ, ob 2 fZ), (hC, ar 160 C)] (fun z u => (∃ g2 : Int → Int, ∃ c1 : Nat, ∃ b1 : Nat, ∃ b2 : Nat, u = [(oZ, ob 2 fZ), (hC, ar 160 C), (z, ob 1 (uF (uF (uF fzX1 0 (rv c1)) 1 (rv b1)) 2 (rv b2))), (c1, ar nc g2), (b1, ar nc (fun _ => 0)), (b2, ar 1000 (fun _ => 0))] ∧ (∀ j, 0 ≤ j → j < (nc : Int) → g2 j = C j)) ∨ (∃ g2 : Int → Int, ∃ c1 : Nat, ∃ b1 : Nat, ∃ b2 : Nat, u = [(oZ, ob 2 fZ), (hC, ar 160 C), (z, ob 1 (uF (uF (uF fzX1 0 (rv c1)) 1 (rv b1)) 2 (rv b2))), (c1, ar nc g2), (b1, ar nc (fun _ => 0)), (b2, ar 0 (fun _ => 0))] ∧ (∀ j, 0 ≤ j → j < (nc : Int) → g2 j = C j) ∧ (∀ j, 0 ≤ j → j < (nc : Int) → C j ≠ -111))) := by
  refine AMr.of2 rfl (nle rfl) ?_
  intro D G A p e s m args below meth c Po hPo X
  refine S_new (ci := 1) (f0 := fzX1) X tyX1 iuX1 tyX1_ok m653 m654 m99 rfl fzX1_ok (nle rfl) (nle rfl) dX2_toLaw_0 (fun q_1 => ?_)
  refine S_w (ws' := [(oZ, ob 2 fZ), (hC, ar 160 C), (q_1, ob 1 fzX1)]) rfl ?_
  refine S_dup X dX2_toLaw_3 ?_
  refine S_aload_n X dX2_toLaw_4 rfl rfl ?_
  refine S_get X fgX2_11_2 0 rfl hf0 dX2_toLaw_5 ?_
  refine S_aload_n X dX2_toLaw_8 rfl rfl ?_
  refine S_get X fgX2_17_2 0 rfl hf1 dX2_toLaw_9 ?_
  refine S_callrA [0, 2] (wr := [(oZ, ob 2 fZ), (q_1, ob 1 fzX1)]) X (kJ7_copyOf_59c91 l hC 160 C nc (by omega)) (is := [1]) rfl rfl (by decide) (by decide) (run_S X lkX2_23 (is := [1]) (avs := [rv hC, iv (nc : Int)]) (rest := [rv q_1, rv q_1]) rfl rfl (nle rfl) ⟨nle rfl, nle rfl⟩ ⟨nle rfl, nle rfl⟩ dX2_toLaw_12 (by decide) rfl) (fun z_4 u_2 hp_3 => ?_)
  obtain ⟨g2_5, hu_7, hg2_8⟩ := hp_3
  subst hu_7
  refine S_w (ws' := [(oZ, ob 2 fZ), (q_1, ob 1 fzX1), (hC, ar 160 C), (z_4, ar nc g2_5)]) rfl ?_
  have hg9 := hg2_8
  refine S_callvA [0, 2] (wr := [(oZ, ob 2 fZ), (hC, ar 160 C)]) X (kX1_init l q_1 z_4 nc g2_5 (by omega) (fun j h0 h1 => by rw [hg9 j h0 h1]; exact hCr j h0 h1)) (is := [1, 3]) rfl rfl (by decide) (by decide) (run_I X lkX2_29 (is := [1, 3]) (avs := [rv z_4]) (rest := [rv q_1]) rfl rfl (nle rfl) ⟨nle rfl, nle rfl⟩ ⟨nle rfl, nle rfl⟩ dX2_toLaw_15 (by decide) rfl) (fun u_9 hp_10 => ?_)
  rcases hp_10 with ⟨b1_12, b2_13, hu_15⟩ | ⟨b1_16, b2_17, hu_19, hno_20⟩
  ·
    subst hu_15
    refine S_w (ws' := [(oZ, ob 2 fZ), (hC, ar 160 C), (q_1, ob 1 (uF (uF (uF fzX1 0 (rv z_4)) 1 (rv b1_12)) 2 (rv b2_13))), (z_4, ar nc g2_5), (b1_12, ar nc (fun _ => 0)), (b2_13, ar 1000 (fun _ => 0))]) rfl ?_
    exact S_aret X (Or.inl ⟨_, rfl⟩) (nle rfl) (nle rfl) dX2_toLaw_18 (hPo _ _ (Or.inl ⟨_, _, _, _, rfl, hg9⟩))
  ·
    subst hu_19
    refine S_w (ws' := [(oZ, ob 2 fZ), (hC, ar 160 C), (q_1, ob 1 (uF (uF (uF fzX1 0 (rv z_4)) 1 (rv b1_16)) 2 (rv b2_17))), (z_4, ar nc g2_5), (b1_16, ar nc (fun _ => 0)), (b2_17, ar 0 (fun _ => 0))]) rfl ?_
    have hno9 := hno_20
    exact S_aret X (Or.inl ⟨_, rfl⟩) (nle rfl) (nle rfl) dX2_toLaw_18 (hPo _ _ (Or.inr ⟨_, _, _, _, rfl, hg9, fun j h0 h1 => by rw [← hg9 j h0 h1]; exact hno9 j h0 h1⟩))
