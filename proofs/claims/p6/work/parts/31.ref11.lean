set_option maxHeartbeats 4000000 in
set_option maxRecDepth 100000 in
theorem kX12_takeTown (l : Launch) (h0 : Nat) (f : Nat → AV) (pl : Int) (mt : Int) (p1 : Int) (m1 : Int) (z1 : Int) (z2 : Int) (z3 : Int) (z4 : Int) (z5 : Int) (hQ : Nat) (hR : Nat) (hB : Nat) (hE : Nat) (Q1 : Int → Int) (R1 : Int → Int) (B1 : Int → Int) (E1 : Int → Int) (hf0 : f 20 = rv hQ) (hf1 : f 17 = rv hR) (hf2 : f 23 = rv hB) (hf3 : f 24 = rv hE) : AMi l yX12_takeTown cX12_takeTown 2 .int 0 0 0 [rv h0] [(h0, ob 11 (uF (uF (uF (uF (uF (uF (uF (uF (uF f 21 (iv p1)) 22 (iv m1)) 25 (iv z1)) 32 (iv z2)) 26 (iv z3)) 46 (iv z4)) 49 (iv z5)) 19 (iv mt)) 18 (iv pl))), (hQ, ar 30 Q1), (hR, ar 30 R1), (hB, ar 6 B1), (hE, ar 6 E1)] (fun z u => ∃ Q2 : Int → Int, ∃ B2 : Int → Int, ∃ E2 : Int → Int, z = pl ∧ u = [(h0, ob 11 (uF (uF (uF (uF (uF (uF (uF (uF (uF f 21 (iv pl)) 22 (iv mt)) 25 (iv 0)) 32 (iv 0)) 26 (iv 0)) 46 (iv 0)) 49 (iv 0)) 19 (iv mt)) 18 (iv pl))), (hQ, ar 30 Q2), (hR, ar 30 R1), (hB, ar 6 B2), (hE, ar 6 E2)] ∧ (∀ x, 0 ≤ x → x < 30 → Q2 x = R1 x) ∧ (∀ x, 0 ≤ x → x < 6 → B2 x = R1 (5 * x)) ∧ (∀ x, 0 ≤ x → x < 6 → E2 x = 0)) := by
  refine AMi.of2 rfl (nle rfl) ?_
  intro D G A p e s m args below meth c Po hPo X
  refine S_aload_n X dX12_takeTown_0 rfl rfl ?_
  refine S_aload_n X dX12_takeTown_1 rfl rfl ?_
  refine S_get (v := iv pl) X fgX12_220_11 0 rfl rfl dX12_takeTown_2 ?_
  refine S_put X fpX12_253_11 0 rfl FT_i dX12_takeTown_5 ?_
  refine S_w (ws' := [(h0, ob 11 (uF (uF (uF (uF (uF (uF (uF (uF (uF f 21 (iv pl)) 22 (iv m1)) 25 (iv z1)) 32 (iv z2)) 26 (iv z3)) 46 (iv z4)) 49 (iv z5)) 19 (iv mt)) 18 (iv pl))), (hQ, ar 30 Q1), (hR, ar 30 R1), (hB, ar 6 B1), (hE, ar 6 E1)]) (by simp only [List.set]; rw [uF_mv (j := 18) (k := 21) (by decide), uF_mv (j := 19) (k := 21) (by decide), uF_mv (j := 49) (k := 21) (by decide), uF_mv (j := 46) (k := 21) (by decide), uF_mv (j := 26) (k := 21) (by decide), uF_mv (j := 32) (k := 21) (by decide), uF_mv (j := 25) (k := 21) (by decide), uF_mv (j := 22) (k := 21) (by decide), uF_same (k := 21)]) ?_
  refine S_aload_n X dX12_takeTown_8 rfl rfl ?_
  refine S_aload_n X dX12_takeTown_9 rfl rfl ?_
  refine S_get (v := iv mt) X fgX12_237_11 0 rfl rfl dX12_takeTown_10 ?_
  refine S_put X fpX12_256_11 0 rfl FT_i dX12_takeTown_13 ?_
  refine S_w (ws' := [(h0, ob 11 (uF (uF (uF (uF (uF (uF (uF (uF (uF f 21 (iv pl)) 22 (iv mt)) 25 (iv z1)) 32 (iv z2)) 26 (iv z3)) 46 (iv z4)) 49 (iv z5)) 19 (iv mt)) 18 (iv pl))), (hQ, ar 30 Q1), (hR, ar 30 R1), (hB, ar 6 B1), (hE, ar 6 E1)]) (by simp only [List.set]; rw [uF_mv (j := 18) (k := 22) (by decide), uF_mv (j := 19) (k := 22) (by decide), uF_mv (j := 49) (k := 22) (by decide), uF_mv (j := 46) (k := 22) (by decide), uF_mv (j := 26) (k := 22) (by decide), uF_mv (j := 32) (k := 22) (by decide), uF_mv (j := 25) (k := 22) (by decide), uF_same (k := 22)]) ?_
  refine S_iconst X dX12_takeTown_16 ?_
  refine S_istore_n X dX12_takeTown_17 rfl (nle rfl) ?_
  have lp18_0 : ∀ (N : Nat) (i : Int) (Qv : Int → Int) (L : Nat → Option AV), 0 ≤ i ∧ i ≤ 30 → (∀ x, 0 ≤ x → x < i → Qv x = R1 x) → L 0 = some (rv h0) → L 1 = some (iv i) → 31 - i < (N : Int) → S_ p l e (rmD 0 0 0) s m args below meth c (MQ below (QcI D G A Po) args s 0 0 A) D G A 2 0 0 18 L [] [(h0, ob 11 (uF (uF (uF (uF (uF (uF (uF (uF (uF f 21 (iv pl)) 22 (iv mt)) 25 (iv z1)) 32 (iv z2)) 26 (iv z3)) 46 (iv z4)) 49 (iv z5)) 19 (iv mt)) 18 (iv pl))), (hQ, ar 30 Qv), (hR, ar 30 R1), (hB, ar 6 B1), (hE, ar 6 E1)] := by
    intro N
    induction N with
    | zero =>
      intro i Qv L18 hi hk hL18_0 hL18_1 hN18
      exfalso; omega
    | succ N ih18 =>
      intro i Qv L18 hi hk hL18_0 hL18_1 hN18
      refine S_iload_n X dX12_takeTown_18 rfl hL18_1 ?_
      refine S_bipush X dX12_takeTown_19 rfl ?_
      refine S_icmp_ge (tgt := 42) X dX12_takeTown_21 (by decide) (by omega) (by decide) (fun c_1 => ?_) (fun c_1 => ?_)
      ·
        refine S_iconst X dX12_takeTown_42 ?_
        refine S_istore_n X dX12_takeTown_43 rfl (nle rfl) ?_
        have lp44_3 : ∀ (N : Nat) (j : Int) (Bv : Int → Int) (Ev : Int → Int) (L : Nat → Option AV), 0 ≤ j ∧ j ≤ 6 → (∀ x, 0 ≤ x → x < j → Bv x = R1 (5 * x)) → (∀ x, 0 ≤ x → x < j → Ev x = 0) → L 0 = some (rv h0) → L 1 = some (iv j) → 7 - j < (N : Int) → S_ p l e (rmD 0 0 0) s m args below meth c (MQ below (QcI D G A Po) args s 0 0 A) D G A 2 0 0 44 L [] [(h0, ob 11 (uF (uF (uF (uF (uF (uF (uF (uF (uF f 21 (iv pl)) 22 (iv mt)) 25 (iv z1)) 32 (iv z2)) 26 (iv z3)) 46 (iv z4)) 49 (iv z5)) 19 (iv mt)) 18 (iv pl))), (hQ, ar 30 Qv), (hR, ar 30 R1), (hB, ar 6 Bv), (hE, ar 6 Ev)] := by
          intro N
          induction N with
          | zero =>
            intro j Bv Ev L44 hj hkb hke hL44_0 hL44_1 hN44
            exfalso; omega
          | succ N ih44 =>
            intro j Bv Ev L44 hj hkb hke hL44_0 hL44_1 hN44
            refine S_iload_n X dX12_takeTown_44 rfl hL44_1 ?_
            refine S_bipush X dX12_takeTown_45 rfl ?_
            refine S_icmp_ge (tgt := 79) X dX12_takeTown_47 (by decide) (by omega) (by decide) (fun c_2 => ?_) (fun c_2 => ?_)
            ·
              refine S_aload_n X dX12_takeTown_79 rfl hL44_0 ?_
              refine S_iconst X dX12_takeTown_80 ?_
              refine S_put X fpX12_259_11 0 rfl FT_i dX12_takeTown_81 ?_
              refine S_w (ws' := [(h0, ob 11 (uF (uF (uF (uF (uF (uF (uF (uF (uF f 21 (iv pl)) 22 (iv mt)) 25 (iv 0)) 32 (iv z2)) 26 (iv z3)) 46 (iv z4)) 49 (iv z5)) 19 (iv mt)) 18 (iv pl))), (hQ, ar 30 Qv), (hR, ar 30 R1), (hB, ar 6 Bv), (hE, ar 6 Ev)]) (by simp only [List.set]; rw [uF_mv (j := 18) (k := 25) (by decide), uF_mv (j := 19) (k := 25) (by decide), uF_mv (j := 49) (k := 25) (by decide), uF_mv (j := 46) (k := 25) (by decide), uF_mv (j := 26) (k := 25) (by decide), uF_mv (j := 32) (k := 25) (by decide), uF_same (k := 25)]) ?_
              refine S_aload_n X dX12_takeTown_84 rfl hL44_0 ?_
              refine S_iconst X dX12_takeTown_85 ?_
              refine S_put X fpX12_262_11 0 rfl FT_i dX12_takeTown_86 ?_
              refine S_w (ws' := [(h0, ob 11 (uF (uF (uF (uF (uF (uF (uF (uF (uF f 21 (iv pl)) 22 (iv mt)) 25 (iv 0)) 32 (iv 0)) 26 (iv z3)) 46 (iv z4)) 49 (iv z5)) 19 (iv mt)) 18 (iv pl))), (hQ, ar 30 Qv), (hR, ar 30 R1), (hB, ar 6 Bv), (hE, ar 6 Ev)]) (by simp only [List.set]; rw [uF_mv (j := 18) (k := 32) (by decide), uF_mv (j := 19) (k := 32) (by decide), uF_mv (j := 49) (k := 32) (by decide), uF_mv (j := 46) (k := 32) (by decide), uF_mv (j := 26) (k := 32) (by decide), uF_same (k := 32)]) ?_
              refine S_aload_n X dX12_takeTown_89 rfl hL44_0 ?_
              refine S_iconst X dX12_takeTown_90 ?_
              refine S_put X fpX12_265_11 0 rfl FT_i dX12_takeTown_91 ?_
              refine S_w (ws' := [(h0, ob 11 (uF (uF (uF (uF (uF (uF (uF (uF (uF f 21 (iv pl)) 22 (iv mt)) 25 (iv 0)) 32 (iv 0)) 26 (iv 0)) 46 (iv z4)) 49 (iv z5)) 19 (iv mt)) 18 (iv pl))), (hQ, ar 30 Qv), (hR, ar 30 R1), (hB, ar 6 Bv), (hE, ar 6 Ev)]) (by simp only [List.set]; rw [uF_mv (j := 18) (k := 26) (by decide), uF_mv (j := 19) (k := 26) (by decide), uF_mv (j := 49) (k := 26) (by decide), uF_mv (j := 46) (k := 26) (by decide), uF_same (k := 26)]) ?_
              refine S_aload_n X dX12_takeTown_94 rfl hL44_0 ?_
              refine S_iconst X dX12_takeTown_95 ?_
              refine S_put X fpX12_268_11 0 rfl FT_i dX12_takeTown_96 ?_
              refine S_w (ws' := [(h0, ob 11 (uF (uF (uF (uF (uF (uF (uF (uF (uF f 21 (iv pl)) 22 (iv mt)) 25 (iv 0)) 32 (iv 0)) 26 (iv 0)) 46 (iv 0)) 49 (iv z5)) 19 (iv mt)) 18 (iv pl))), (hQ, ar 30 Qv), (hR, ar 30 R1), (hB, ar 6 Bv), (hE, ar 6 Ev)]) (by simp only [List.set]; rw [uF_mv (j := 18) (k := 46) (by decide), uF_mv (j := 19) (k := 46) (by decide), uF_mv (j := 49) (k := 46) (by decide), uF_same (k := 46)]) ?_
              refine S_aload_n X dX12_takeTown_99 rfl hL44_0 ?_
              refine S_iconst X dX12_takeTown_100 ?_
              refine S_put X fpX12_271_11 0 rfl (FT_b (Or.inl rfl)) dX12_takeTown_101 ?_
              refine S_w (ws' := [(h0, ob 11 (uF (uF (uF (uF (uF (uF (uF (uF (uF f 21 (iv pl)) 22 (iv mt)) 25 (iv 0)) 32 (iv 0)) 26 (iv 0)) 46 (iv 0)) 49 (iv 0)) 19 (iv mt)) 18 (iv pl))), (hQ, ar 30 Qv), (hR, ar 30 R1), (hB, ar 6 Bv), (hE, ar 6 Ev)]) (by simp only [List.set]; rw [uF_mv (j := 18) (k := 49) (by decide), uF_mv (j := 19) (k := 49) (by decide), uF_same (k := 49)]) ?_
              refine S_aload_n X dX12_takeTown_104 rfl hL44_0 ?_
              refine S_get (v := iv pl) X fgX12_253_11 0 rfl rfl dX12_takeTown_105 ?_
              exact S_iret X (nle rfl) (nle rfl) dX12_takeTown_108 (hPo _ _ (⟨_, _, _, rfl, rfl, fun x h0 h1 => hk x h0 (by omega), fun x h0 h1 => hkb x h0 (by omega), fun x h0 h1 => hke x h0 (by omega)⟩))
            ·
              refine S_aload_n X dX12_takeTown_50 rfl hL44_0 ?_
              refine S_get X fgX12_46_11 0 rfl hf2 dX12_takeTown_51 ?_
              refine S_iload_n X dX12_takeTown_54 rfl hL44_1 ?_
              refine S_aload_n X dX12_takeTown_55 rfl hL44_0 ?_
              refine S_get X fgX12_43_11 0 rfl hf0 dX12_takeTown_56 ?_
              refine S_iconst X dX12_takeTown_59 ?_
              refine S_iload_n X dX12_takeTown_60 rfl hL44_1 ?_
              refine S_imul X dX12_takeTown_61 ?_
              refine S_iconst X dX12_takeTown_62 ?_
              refine S_iadd X dX12_takeTown_63 ?_
              refine S_iald X 1 rfl (by omega) (by omega) (nle rfl) dX12_takeTown_64 ?_
              refine S_iast X 3 rfl (by omega) (by omega) (nle rfl) dX12_takeTown_65 ?_
              refine S_w (ws' := [(h0, ob 11 (uF (uF (uF (uF (uF (uF (uF (uF (uF f 21 (iv pl)) 22 (iv mt)) 25 (iv z1)) 32 (iv z2)) 26 (iv z3)) 46 (iv z4)) 49 (iv z5)) 19 (iv mt)) 18 (iv pl))), (hQ, ar 30 Qv), (hR, ar 30 R1), (hB, ar 6 (uZ Bv j (Qv ((5 * j) + 0)))), (hE, ar 6 Ev)]) rfl ?_
              refine S_aload_n X dX12_takeTown_66 rfl hL44_0 ?_
              refine S_get X fgX12_49_11 0 rfl hf3 dX12_takeTown_67 ?_
              refine S_iload_n X dX12_takeTown_70 rfl hL44_1 ?_
              refine S_iconst X dX12_takeTown_71 ?_
              refine S_iast X 4 rfl (by omega) (by omega) (nle rfl) dX12_takeTown_72 ?_
              refine S_w (ws' := [(h0, ob 11 (uF (uF (uF (uF (uF (uF (uF (uF (uF f 21 (iv pl)) 22 (iv mt)) 25 (iv z1)) 32 (iv z2)) 26 (iv z3)) 46 (iv z4)) 49 (iv z5)) 19 (iv mt)) 18 (iv pl))), (hQ, ar 30 Qv), (hR, ar 30 R1), (hB, ar 6 (uZ Bv j (Qv ((5 * j) + 0)))), (hE, ar 6 (uZ Ev j 0))]) rfl ?_
              refine S_iinc X dX12_takeTown_73 (nle rfl) hL44_1 ?_
              refine S_goto (tgt := 44) X dX12_takeTown_76 (by decide) ?_
              exact ih44 (j + 1) (uZ Bv j (Qv ((5 * j) + 0))) (uZ Ev j 0) _ (by omega) (fun x h0 h1 => (by omega : x < j ∨ x = j).elim (fun q9 => by rw [uZ_ne (by omega)]; exact hkb x h0 q9) (fun q9 => by rw [q9]; exact uZ_at.trans ((hk _ (by omega) (by omega)).trans (by rw [Int.add_zero])))) (fun x h0 h1 => (by omega : x < j ∨ x = j).elim (fun q9 => by rw [uZ_ne (by omega)]; exact hke x h0 q9) (fun q9 => by rw [q9]; exact uZ_at)) hL44_0 rfl (by omega)
        exact lp44_3 (Int.toNat (7 - 0) + 1) 0 B1 E1 _ (by omega) (fun x h0 h1 => by omega) (fun x h0 h1 => by omega) hL18_0 rfl (by omega)
      ·
        refine S_aload_n X dX12_takeTown_24 rfl hL18_0 ?_
        refine S_get X fgX12_43_11 0 rfl hf0 dX12_takeTown_25 ?_
        refine S_iload_n X dX12_takeTown_28 rfl hL18_1 ?_
        refine S_aload_n X dX12_takeTown_29 rfl hL18_0 ?_
        refine S_get X fgX12_40_11 0 rfl hf1 dX12_takeTown_30 ?_
        refine S_iload_n X dX12_takeTown_33 rfl hL18_1 ?_
        refine S_iald X 2 rfl (by omega) (by omega) (nle rfl) dX12_takeTown_34 ?_
        refine S_iast X 1 rfl (by omega) (by omega) (nle rfl) dX12_takeTown_35 ?_
        refine S_w (ws' := [(h0, ob 11 (uF (uF (uF (uF (uF (uF (uF (uF (uF f 21 (iv pl)) 22 (iv mt)) 25 (iv z1)) 32 (iv z2)) 26 (iv z3)) 46 (iv z4)) 49 (iv z5)) 19 (iv mt)) 18 (iv pl))), (hQ, ar 30 (uZ Qv i (R1 i))), (hR, ar 30 R1), (hB, ar 6 B1), (hE, ar 6 E1)]) rfl ?_
        refine S_iinc X dX12_takeTown_36 (nle rfl) hL18_1 ?_
        refine S_goto (tgt := 18) X dX12_takeTown_39 (by decide) ?_
        exact ih18 (i + 1) (uZ Qv i (R1 i)) _ (by omega) (fun x h0 h1 => (by omega : x < i ∨ x = i).elim (fun q9 => by rw [uZ_ne (by omega)]; exact hk x h0 q9) (fun q9 => by rw [q9]; exact uZ_at)) hL18_0 rfl (by omega)
  exact lp18_0 (Int.toNat (31 - 0) + 1) 0 Q1 _ (by omega) (fun x h0 h1 => by omega) rfl rfl (by omega)
