/-! the bytes of five numbers, one by one -/
def bwI (a b c d e k : Int) : Int := if k < 4 then a else if k < 8 then b else if k < 12 then c else if k < 16 then d else e
def byI (a b c d e k : Int) : Int := zAnd (zShr (bwI a b c d e k) (24 - 8 * k.tmod 4)) 255
def sgL (b : Int) : List Int := if b = 0 then [] else [b]
def flN (g : Int → Int) : Nat → List Int
  | 0 => []
  | n + 1 => flN g n ++ sgL (g n)
def flI (g : Int → Int) (k : Int) : List Int := flN g k.toNat
theorem flI_S {g : Int → Int} {k : Int} (hk : 0 ≤ k) : flI g (k + 1) = flI g k ++ sgL (g k) := by
  unfold flI
  rw [toNat_S hk, flN, toNat_c hk]
theorem sgL_0 {b : Int} (h : b = 0) : sgL b = [] := if_pos h
theorem sgL_1 {b : Int} (h : ¬ b = 0) : sgL b = [b] := if_neg h
theorem cNZ_sg {b : Int} {l : List Int} : cNZ b l = sgL b ++ l := by
  unfold cNZ sgL
  split <;> rfl
theorem and255b (x : BitVec 32) (s : Nat) (hs : s ≤ 24) : (x.sshiftRight s) &&& 255#32 = (x >>> s) &&& 255#32 := by
  apply BitVec.eq_of_getLsbD_eq
  intro i hi
  rw [BitVec.getLsbD_and, BitVec.getLsbD_and]
  by_cases h8 : i < 8
  · rw [BitVec.getLsbD_sshiftRight, BitVec.getLsbD_ushiftRight, if_pos (by omega), show decide (32 ≤ i) = false from decide_eq_false (by omega)]
    rfl
  · have h255 : (255#32).getLsbD i = false := by
      have : i = 8 ∨ i = 9 ∨ i = 10 ∨ i = 11 ∨ i = 12 ∨ i = 13 ∨ i = 14 ∨ i = 15 ∨ i = 16 ∨ i = 17 ∨ i = 18 ∨ i = 19 ∨ i = 20 ∨ i = 21 ∨ i = 22 ∨ i = 23 ∨ i = 24 ∨ i = 25 ∨ i = 26 ∨ i = 27 ∨ i = 28 ∨ i = 29 ∨ i = 30 ∨ i = 31 := by omega
      rcases this with rfl | rfl | rfl | rfl | rfl | rfl | rfl | rfl | rfl | rfl | rfl | rfl | rfl | rfl | rfl | rfl | rfl | rfl | rfl | rfl | rfl | rfl | rfl | rfl <;> decide
    rw [h255, Bool.and_false, Bool.and_false]
theorem and255 (x : Int) (s : Int) (hs : s = 24 ∨ s = 16 ∨ s = 8 ∨ s = 0) : zAnd (zShr x s) 255 = zAnd (zUshr x s) 255 := by
  have key : ∀ y : Int32, ∀ n : Nat, n ≤ 24 → ∀ a b : Int32, a.toBitVec = y.toBitVec.sshiftRight n → b.toBitVec = y.toBitVec >>> n → a &&& 255 = b &&& 255 := by
    intro y n hn a b ha hb
    apply Int32.toBitVec_inj.mp
    rw [Int32.toBitVec_and, Int32.toBitVec_and, ha, hb]
    exact and255b y.toBitVec n hn
  unfold zAnd zShr zUshr
  rw [i32_of, i32_of]
  congr 1
  rcases hs with rfl | rfl | rfl | rfl
  · exact key (i32 x) 24 (by decide) _ _ rfl rfl
  · exact key (i32 x) 16 (by decide) _ _ rfl rfl
  · exact key (i32 x) 8 (by decide) _ _ rfl rfl
  · exact key (i32 x) 0 (by decide) _ _ rfl rfl
theorem flI_20 (a b c d e : Int) : flI (byI a b c d e) 20 = fbs a b c d e := by
  have g : ∀ x s : Int, s = 24 ∨ s = 16 ∨ s = 8 ∨ s = 0 → sgL (zAnd (zShr x s) 255) = sgL (zAnd (zUshr x s) 255) := fun x s hs => by rw [and255 x s hs]
  have h4 : ∀ x : Int, sgL (zAnd (zShr x 24) 255) ++ (sgL (zAnd (zShr x 16) 255) ++ (sgL (zAnd (zShr x 8) 255) ++ sgL (zAnd (zShr x 0) 255))) = bys x := by
    intro x
    unfold bys
    rw [cNZ_sg, cNZ_sg, cNZ_sg, cNZ_sg, List.append_nil, g x 24 (by decide), g x 16 (by decide), g x 8 (by decide), g x 0 (by decide)]
  unfold fbs
  rw [← h4 a, ← h4 b, ← h4 c, ← h4 d, ← h4 e]
  show flN (byI a b c d e) 20 = _
  simp only [flN, List.nil_append, List.append_assoc]
  rfl
theorem fl_len {g : Int → Int} : ∀ k, 0 ≤ k → ((flI g k).length : Int) ≤ k := by
  refine upI (Int.le_refl _) (fun k hk ih => ?_)
  rw [flI_S hk, List.length_append]
  have : (sgL (g k)).length ≤ 1 := by unfold sgL; split <;> simp
  omega
theorem fl_mono {g : Int → Int} {j : Int} (hj : 0 ≤ j) : ∀ k, 0 ≤ k → j ≤ k → ((flI g j).length : Int) ≤ ((flI g k).length : Int) := by
  refine upI (fun h => by rw [show j = 0 by omega]; exact Int.le_refl _) (fun k hk ih h => ?_)
  by_cases e : j = k + 1
  · rw [e]; exact Int.le_refl _
  · have := ih (by omega)
    rw [flI_S hk, List.length_append]
    omega
theorem fl_0 {g : Int → Int} {k : Int} (hk : 0 ≤ k) (h : g k = 0) : flI g (k + 1) = flI g k := by rw [flI_S hk, sgL_0 h, List.append_nil]
theorem fl_1 {g : Int → Int} {k : Int} (hk : 0 ≤ k) (h : ¬ g k = 0) : flI g (k + 1) = flI g k ++ [g k] := by rw [flI_S hk, sgL_1 h]
theorem fl_1l {g : Int → Int} {k : Int} (hk : 0 ≤ k) (h : ¬ g k = 0) : ((flI g (k + 1)).length : Int) = ((flI g k).length : Int) + 1 := by rw [fl_1 hk h, List.length_append, List.length_singleton]; omega
theorem byI_in (a b c d e k : Int) : 0 ≤ byI a b c d e k ∧ byI a b c d e k ≤ 255 := zAnd255 _
set_option maxHeartbeats 4000000 in
set_option maxRecDepth 100000 in
theorem kX12_byteOf (l : Launch) (x1 : Int) (x2 : Int) (x3 : Int) (x4 : Int) (x5 : Int) (k : Int) (hk : 0 ≤ k ∧ k ≤ 19) : AMi l yX12_byteOf cX12_byteOf 7 .int 0 0 0 [iv x1, iv x2, iv x3, iv x4, iv x5, iv k] [] (fun z u => z = byI x1 x2 x3 x4 x5 k ∧ u = []) := by
  refine AMi.of2 rfl (nle rfl) ?_
  intro D G A p e s m args below meth c Po hPo X
  refine S_iload X dX12_byteOf_0 rfl ?_
  refine S_iconst X dX12_byteOf_2 ?_
  refine S_icmp_ge (tgt := 10) X dX12_byteOf_3 (by decide) (by omega) (by decide) (fun c_1 => ?_) (fun c_1 => ?_)
  ·
    refine S_iload X dX12_byteOf_10 rfl ?_
    refine S_bipush X dX12_byteOf_12 rfl ?_
    refine S_icmp_ge (tgt := 21) X dX12_byteOf_14 (by decide) (by omega) (by decide) (fun c_2 => ?_) (fun c_2 => ?_)
    ·
      refine S_iload X dX12_byteOf_21 rfl ?_
      refine S_bipush X dX12_byteOf_23 rfl ?_
      refine S_icmp_ge (tgt := 32) X dX12_byteOf_25 (by decide) (by omega) (by decide) (fun c_3 => ?_) (fun c_3 => ?_)
      ·
        refine S_iload X dX12_byteOf_32 rfl ?_
        refine S_bipush X dX12_byteOf_34 rfl ?_
        refine S_icmp_ge (tgt := 43) X dX12_byteOf_36 (by decide) (by omega) (by decide) (fun c_4 => ?_) (fun c_4 => ?_)
        ·
          refine S_iload X dX12_byteOf_43 rfl ?_
          refine S_istore X dX12_byteOf_45 (nle rfl) ?_
          refine S_iload X dX12_byteOf_47 rfl ?_
          refine S_bipush X dX12_byteOf_49 rfl ?_
          refine S_bipush X dX12_byteOf_51 rfl ?_
          refine S_iload X dX12_byteOf_53 rfl ?_
          refine S_iconst X dX12_byteOf_55 ?_
          refine S_irem X (by omega) (by decide) (by decide) dX12_byteOf_56 ?_
          refine S_imul X dX12_byteOf_57 ?_
          refine S_isub X dX12_byteOf_58 ?_
          refine S_ishr X dX12_byteOf_59 ?_
          refine S_sipush X dX12_byteOf_60 rfl ?_
          refine S_iand X dX12_byteOf_63 ?_
          exact S_iret X (nle rfl) (nle rfl) dX12_byteOf_64 (hPo _ _ (⟨by unfold byI bwI; first | (rw [if_pos (by omega)]) | (rw [if_neg (by omega), if_pos (by omega)]) | (rw [if_neg (by omega), if_neg (by omega), if_pos (by omega)]) | (rw [if_neg (by omega), if_neg (by omega), if_neg (by omega), if_pos (by omega)]) | (rw [if_neg (by omega), if_neg (by omega), if_neg (by omega), if_neg (by omega)]), rfl⟩))
        ·
          refine S_iload_n X dX12_byteOf_39 rfl rfl ?_
          refine S_goto (tgt := 45) X dX12_byteOf_40 (by decide) ?_
          refine S_istore X dX12_byteOf_45 (nle rfl) ?_
          refine S_iload X dX12_byteOf_47 rfl ?_
          refine S_bipush X dX12_byteOf_49 rfl ?_
          refine S_bipush X dX12_byteOf_51 rfl ?_
          refine S_iload X dX12_byteOf_53 rfl ?_
          refine S_iconst X dX12_byteOf_55 ?_
          refine S_irem X (by omega) (by decide) (by decide) dX12_byteOf_56 ?_
          refine S_imul X dX12_byteOf_57 ?_
          refine S_isub X dX12_byteOf_58 ?_
          refine S_ishr X dX12_byteOf_59 ?_
          refine S_sipush X dX12_byteOf_60 rfl ?_
          refine S_iand X dX12_byteOf_63 ?_
          exact S_iret X (nle rfl) (nle rfl) dX12_byteOf_64 (hPo _ _ (⟨by unfold byI bwI; first | (rw [if_pos (by omega)]) | (rw [if_neg (by omega), if_pos (by omega)]) | (rw [if_neg (by omega), if_neg (by omega), if_pos (by omega)]) | (rw [if_neg (by omega), if_neg (by omega), if_neg (by omega), if_pos (by omega)]) | (rw [if_neg (by omega), if_neg (by omega), if_neg (by omega), if_neg (by omega)]), rfl⟩))
      ·
        refine S_iload_n X dX12_byteOf_28 rfl rfl ?_
        refine S_goto (tgt := 45) X dX12_byteOf_29 (by decide) ?_
        refine S_istore X dX12_byteOf_45 (nle rfl) ?_
        refine S_iload X dX12_byteOf_47 rfl ?_
        refine S_bipush X dX12_byteOf_49 rfl ?_
        refine S_bipush X dX12_byteOf_51 rfl ?_
        refine S_iload X dX12_byteOf_53 rfl ?_
        refine S_iconst X dX12_byteOf_55 ?_
        refine S_irem X (by omega) (by decide) (by decide) dX12_byteOf_56 ?_
        refine S_imul X dX12_byteOf_57 ?_
        refine S_isub X dX12_byteOf_58 ?_
        refine S_ishr X dX12_byteOf_59 ?_
        refine S_sipush X dX12_byteOf_60 rfl ?_
        refine S_iand X dX12_byteOf_63 ?_
        exact S_iret X (nle rfl) (nle rfl) dX12_byteOf_64 (hPo _ _ (⟨by unfold byI bwI; first | (rw [if_pos (by omega)]) | (rw [if_neg (by omega), if_pos (by omega)]) | (rw [if_neg (by omega), if_neg (by omega), if_pos (by omega)]) | (rw [if_neg (by omega), if_neg (by omega), if_neg (by omega), if_pos (by omega)]) | (rw [if_neg (by omega), if_neg (by omega), if_neg (by omega), if_neg (by omega)]), rfl⟩))
    ·
      refine S_iload_n X dX12_byteOf_17 rfl rfl ?_
      refine S_goto (tgt := 45) X dX12_byteOf_18 (by decide) ?_
      refine S_istore X dX12_byteOf_45 (nle rfl) ?_
      refine S_iload X dX12_byteOf_47 rfl ?_
      refine S_bipush X dX12_byteOf_49 rfl ?_
      refine S_bipush X dX12_byteOf_51 rfl ?_
      refine S_iload X dX12_byteOf_53 rfl ?_
      refine S_iconst X dX12_byteOf_55 ?_
      refine S_irem X (by omega) (by decide) (by decide) dX12_byteOf_56 ?_
      refine S_imul X dX12_byteOf_57 ?_
      refine S_isub X dX12_byteOf_58 ?_
      refine S_ishr X dX12_byteOf_59 ?_
      refine S_sipush X dX12_byteOf_60 rfl ?_
      refine S_iand X dX12_byteOf_63 ?_
      exact S_iret X (nle rfl) (nle rfl) dX12_byteOf_64 (hPo _ _ (⟨by unfold byI bwI; first | (rw [if_pos (by omega)]) | (rw [if_neg (by omega), if_pos (by omega)]) | (rw [if_neg (by omega), if_neg (by omega), if_pos (by omega)]) | (rw [if_neg (by omega), if_neg (by omega), if_neg (by omega), if_pos (by omega)]) | (rw [if_neg (by omega), if_neg (by omega), if_neg (by omega), if_neg (by omega)]), rfl⟩))
  ·
    refine S_iload_n X dX12_byteOf_6 rfl rfl ?_
    refine S_goto (tgt := 45) X dX12_byteOf_7 (by decide) ?_
    refine S_istore X dX12_byteOf_45 (nle rfl) ?_
    refine S_iload X dX12_byteOf_47 rfl ?_
    refine S_bipush X dX12_byteOf_49 rfl ?_
    refine S_bipush X dX12_byteOf_51 rfl ?_
    refine S_iload X dX12_byteOf_53 rfl ?_
    refine S_iconst X dX12_byteOf_55 ?_
    refine S_irem X (by omega) (by decide) (by decide) dX12_byteOf_56 ?_
    refine S_imul X dX12_byteOf_57 ?_
    refine S_isub X dX12_byteOf_58 ?_
    refine S_ishr X dX12_byteOf_59 ?_
    refine S_sipush X dX12_byteOf_60 rfl ?_
    refine S_iand X dX12_byteOf_63 ?_
    exact S_iret X (nle rfl) (nle rfl) dX12_byteOf_64 (hPo _ _ (⟨by unfold byI bwI; first | (rw [if_pos (by omega)]) | (rw [if_neg (by omega), if_pos (by omega)]) | (rw [if_neg (by omega), if_neg (by omega), if_pos (by omega)]) | (rw [if_neg (by omega), if_neg (by omega), if_neg (by omega), if_pos (by omega)]) | (rw [if_neg (by omega), if_neg (by omega), if_neg (by omega), if_neg (by omega)]), rfl⟩))
set_option maxHeartbeats 4000000 in
set_option maxRecDepth 100000 in
theorem kX12_feed (l : Launch) (h0 : Nat) (f : Nat → AV) (hT : Nat) (n : Int) (T : Int → Int) (x1 : Int) (x2 : Int) (x3 : Int) (x4 : Int) (x5 : Int) (hf0 : f 1 = rv hT) (hn : 0 ≤ n ∧ n ≤ 160) : AMi l yX12_feed cX12_feed 9 .int 1 0 0 [rv h0, iv x1, iv x2, iv x3, iv x4, iv x5] [(h0, ob 11 (uF f 2 (iv n))), (hT, ar 160 T)] (fun z u => (z = -1 ∧ u = [(h0, ob 11 (uF f 2 (iv n))), (hT, ar 160 T)] ∧ 160 < n + fbn x1 x2 x3 x4 x5) ∨ (∃ n2 : Int, ∃ T2 : Int → Int, z = n2 ∧ u = [(h0, ob 11 (uF f 2 (iv n2))), (hT, ar 160 T2)] ∧ n + fbn x1 x2 x3 x4 x5 ≤ 160 ∧ n2 = n + fbn x1 x2 x3 x4 x5 ∧ T2 = wrL T n (fbs x1 x2 x3 x4 x5))) := by
  refine AMi.of2 rfl (nle rfl) ?_
  intro D G A p e s m args below meth c Po hPo X
  have h20 : ((flI (byI x1 x2 x3 x4 x5) 20).length : Int) = fbn x1 x2 x3 x4 x5 := by rw [flI_20, fbs_len]
  refine S_iconst X dX12_feed_0 ?_
  refine S_istore X dX12_feed_1 (nle rfl) ?_
  refine S_iconst X dX12_feed_3 ?_
  refine S_istore X dX12_feed_4 (nle rfl) ?_
  have lp6_0 : ∀ (N : Nat) (k : Int) (cnt : Int) (L : Nat → Option AV), 0 ≤ k ∧ k ≤ 20 → cnt = ((flI (byI x1 x2 x3 x4 x5) k).length : Int) → cnt ≤ k ∧ 0 ≤ cnt → L 0 = some (rv h0) → L 1 = some (iv x1) → L 2 = some (iv x2) → L 3 = some (iv x3) → L 4 = some (iv x4) → L 5 = some (iv x5) → L 6 = some (iv cnt) → L 7 = some (iv k) → 21 - k < (N : Int) → S_ p l e (rmD 1 0 0) s m args below meth c (MQ below (QcI D G A Po) args s 0 0 A) D G A 9 0 0 6 L [] [(h0, ob 11 (uF f 2 (iv n))), (hT, ar 160 T)] := by
    intro N
    induction N with
    | zero =>
      intro k cnt L6 hk hcnt hcl hL6_0 hL6_1 hL6_2 hL6_3 hL6_4 hL6_5 hL6_6 hL6_7 hN6
      exfalso; omega
    | succ N ih6 =>
      intro k cnt L6 hk hcnt hcl hL6_0 hL6_1 hL6_2 hL6_3 hL6_4 hL6_5 hL6_6 hL6_7 hN6
      refine S_iload X dX12_feed_6 hL6_7 ?_
      refine S_bipush X dX12_feed_8 rfl ?_
      refine S_icmp_ge (tgt := 44) X dX12_feed_10 (by decide) (by omega) (by decide) (fun c_1 => ?_) (fun c_1 => ?_)
      ·
        have hcr : cnt = fbn x1 x2 x3 x4 x5 := by rw [hcnt, show k = 20 by omega]; exact h20
        refine S_aload_n X dX12_feed_44 rfl hL6_0 ?_
        refine S_get (v := iv n) X fgX12_108_11 0 rfl rfl dX12_feed_45 ?_
        refine S_iload X dX12_feed_48 hL6_6 ?_
        refine S_iadd X dX12_feed_50 ?_
        refine S_sipush X dX12_feed_51 rfl ?_
        refine S_icmp_le (tgt := 59) X dX12_feed_54 (by decide) (by omega) (by decide) (fun c_2 => ?_) (fun c_2 => ?_)
        ·
          refine S_iconst X dX12_feed_59 ?_
          refine S_istore X dX12_feed_60 (nle rfl) ?_
          have lp62_4 : ∀ (N : Nat) (k : Int) (n2 : Int) (Tv : Int → Int) (L : Nat → Option AV), 0 ≤ k ∧ k ≤ 20 → n2 = n + ((flI (byI x1 x2 x3 x4 x5) k).length : Int) → Tv = wrL T n (flI (byI x1 x2 x3 x4 x5) k) → L 0 = some (rv h0) → L 1 = some (iv x1) → L 2 = some (iv x2) → L 3 = some (iv x3) → L 4 = some (iv x4) → L 5 = some (iv x5) → L 7 = some (iv k) → 21 - k < (N : Int) → S_ p l e (rmD 1 0 0) s m args below meth c (MQ below (QcI D G A Po) args s 0 0 A) D G A 9 0 0 62 L [] [(h0, ob 11 (uF f 2 (iv n2))), (hT, ar 160 Tv)] := by
            intro N
            induction N with
            | zero =>
              intro k n2 Tv L62 hk hn2 hTv hL62_0 hL62_1 hL62_2 hL62_3 hL62_4 hL62_5 hL62_7 hN62
              exfalso; omega
            | succ N ih62 =>
              intro k n2 Tv L62 hk hn2 hTv hL62_0 hL62_1 hL62_2 hL62_3 hL62_4 hL62_5 hL62_7 hN62
              refine S_iload X dX12_feed_62 hL62_7 ?_
              refine S_bipush X dX12_feed_64 rfl ?_
              refine S_icmp_ge (tgt := 115) X dX12_feed_66 (by decide) (by omega) (by decide) (fun c_3 => ?_) (fun c_3 => ?_)
              ·
                refine S_aload_n X dX12_feed_115 rfl hL62_0 ?_
                refine S_get (v := iv n2) X fgX12_108_11 0 rfl rfl dX12_feed_116 ?_
                exact S_iret X (nle rfl) (nle rfl) dX12_feed_119 (hPo _ _ (Or.inr ⟨_, _, rfl, rfl, by omega, by rw [hn2, show k = 20 by omega]; omega, by rw [hTv, show k = 20 by omega, flI_20]⟩))
              ·
                refine S_iload_n X dX12_feed_69 rfl hL62_1 ?_
                refine S_iload_n X dX12_feed_70 rfl hL62_2 ?_
                refine S_iload_n X dX12_feed_71 rfl hL62_3 ?_
                refine S_iload X dX12_feed_72 hL62_4 ?_
                refine S_iload X dX12_feed_74 hL62_5 ?_
                refine S_iload X dX12_feed_76 hL62_7 ?_
                refine S_calli X (kX12_byteOf l x1 x2 x3 x4 x5 k (by omega)) (is := []) rfl (run_S X lkX12_104 (is := []) (avs := [iv x1, iv x2, iv x3, iv x4, iv x5, iv k]) (rest := []) rfl rfl (nle rfl) ⟨nle rfl, nle rfl⟩ ⟨nle rfl, nle rfl⟩ dX12_feed_78 (by decide) rfl) (fun z_6 u_4 hp_5 => ?_)
                obtain ⟨hz_7, hu_8⟩ := hp_5
                subst hz_7
                subst hu_8
                refine ⟨rfl, ?_⟩
                refine S_w (ws' := [(h0, ob 11 (uF f 2 (iv n2))), (hT, ar 160 Tv)]) rfl ?_
                have hby := byI_in x1 x2 x3 x4 x5 k
                refine S_istore X dX12_feed_81 (nle rfl) ?_
                refine S_iload X dX12_feed_83 rfl ?_
                refine S_if_eq (tgt := 109) X dX12_feed_85 (by decide) (by omega) (fun c_9 => ?_) (fun c_9 => ?_)
                ·
                  refine S_iinc X dX12_feed_109 (nle rfl) hL62_7 ?_
                  refine S_goto (tgt := 62) X dX12_feed_112 (by decide) ?_
                  exact ih62 (k + 1) n2 Tv _ (by omega) (by rw [fl_0 (by omega) (by assumption), hn2]) (by rw [fl_0 (by omega) (by assumption), hTv]) hL62_0 hL62_1 hL62_2 hL62_3 hL62_4 hL62_5 rfl (by omega)
                ·
                  have hl1 := fl_1l (g := (byI x1 x2 x3 x4 x5)) (k := k) (by omega) (by assumption)
                  have hl2 := fl_mono (g := (byI x1 x2 x3 x4 x5)) (j := k + 1) (by omega) 20 (by omega) (by omega)
                  refine S_aload_n X dX12_feed_88 rfl hL62_0 ?_
                  refine S_get X fgX12_9_11 0 rfl hf0 dX12_feed_89 ?_
                  refine S_aload_n X dX12_feed_92 rfl hL62_0 ?_
                  refine S_get (v := iv n2) X fgX12_108_11 0 rfl rfl dX12_feed_93 ?_
                  refine S_iload X dX12_feed_96 rfl ?_
                  refine S_iast X 1 rfl (by omega) (by omega) (nle rfl) dX12_feed_98 ?_
                  refine S_w (ws' := [(h0, ob 11 (uF f 2 (iv n2))), (hT, ar 160 (uZ Tv n2 (byI x1 x2 x3 x4 x5 k)))]) rfl ?_
                  refine S_aload_n X dX12_feed_99 rfl hL62_0 ?_
                  refine S_dup X dX12_feed_100 ?_
                  refine S_get (v := iv n2) X fgX12_108_11 0 rfl rfl dX12_feed_101 ?_
                  refine S_iconst X dX12_feed_104 ?_
                  refine S_iadd X dX12_feed_105 ?_
                  refine S_put X fpX12_108_11 0 rfl FT_i dX12_feed_106 ?_
                  refine S_w (ws' := [(h0, ob 11 (uF f 2 (iv (n2 + 1)))), (hT, ar 160 (uZ Tv n2 (byI x1 x2 x3 x4 x5 k)))]) (by simp only [List.set]; rw [uF_same (k := 2)]) ?_
                  refine S_iinc X dX12_feed_109 (nle rfl) hL62_7 ?_
                  refine S_goto (tgt := 62) X dX12_feed_112 (by decide) ?_
                  exact ih62 (k + 1) (n2 + 1) (uZ Tv n2 (byI x1 x2 x3 x4 x5 k)) _ (by omega) (by omega) (by rw [fl_1 (by omega) (by assumption), wrL_app, ← hn2, wrL_one, ← hTv]) hL62_0 hL62_1 hL62_2 hL62_3 hL62_4 hL62_5 rfl (by omega)
          exact lp62_4 (Int.toNat (21 - 0) + 1) 0 n T _ (by omega) (by show n = n + 0; omega) (rfl) hL6_0 hL6_1 hL6_2 hL6_3 hL6_4 hL6_5 rfl (by omega)
        ·
          refine S_iconst X dX12_feed_57 ?_
          exact S_iret X (nle rfl) (nle rfl) dX12_feed_58 (hPo _ _ (Or.inl ⟨rfl, rfl, by omega⟩))
      ·
        refine S_iload X dX12_feed_13 hL6_6 ?_
        refine S_iload_n X dX12_feed_15 rfl hL6_1 ?_
        refine S_iload_n X dX12_feed_16 rfl hL6_2 ?_
        refine S_iload_n X dX12_feed_17 rfl hL6_3 ?_
        refine S_iload X dX12_feed_18 hL6_4 ?_
        refine S_iload X dX12_feed_20 hL6_5 ?_
        refine S_iload X dX12_feed_22 hL6_7 ?_
        refine S_calli X (kX12_byteOf l x1 x2 x3 x4 x5 k (by omega)) (is := []) rfl (run_S X lkX12_104 (is := []) (avs := [iv x1, iv x2, iv x3, iv x4, iv x5, iv k]) (rest := [iv cnt]) rfl rfl (nle rfl) ⟨nle rfl, nle rfl⟩ ⟨nle rfl, nle rfl⟩ dX12_feed_24 (by decide) rfl) (fun z_12 u_10 hp_11 => ?_)
        obtain ⟨hz_13, hu_14⟩ := hp_11
        subst hz_13
        subst hu_14
        refine ⟨rfl, ?_⟩
        refine S_w (ws' := [(h0, ob 11 (uF f 2 (iv n))), (hT, ar 160 T)]) rfl ?_
        have hby := byI_in x1 x2 x3 x4 x5 k
        refine S_if_eq (tgt := 34) X dX12_feed_27 (by decide) (by omega) (fun c_15 => ?_) (fun c_15 => ?_)
        ·
          refine S_iconst X dX12_feed_34 ?_
          refine S_iadd X dX12_feed_35 ?_
          refine S_istore X dX12_feed_36 (nle rfl) ?_
          refine S_iinc X dX12_feed_38 (nle rfl) hL6_7 ?_
          refine S_goto (tgt := 6) X dX12_feed_41 (by decide) ?_
          exact ih6 (k + 1) (cnt + 0) _ (by omega) (by rw [fl_0 (by omega) (by assumption), hcnt]; omega) (by omega) hL6_0 hL6_1 hL6_2 hL6_3 hL6_4 hL6_5 rfl rfl (by omega)
        ·
          refine S_iconst X dX12_feed_30 ?_
          refine S_goto (tgt := 35) X dX12_feed_31 (by decide) ?_
          refine S_iadd X dX12_feed_35 ?_
          refine S_istore X dX12_feed_36 (nle rfl) ?_
          refine S_iinc X dX12_feed_38 (nle rfl) hL6_7 ?_
          refine S_goto (tgt := 6) X dX12_feed_41 (by decide) ?_
          exact ih6 (k + 1) (cnt + 1) _ (by omega) (by rw [fl_1l (by omega) (by assumption), hcnt]) (by omega) hL6_0 hL6_1 hL6_2 hL6_3 hL6_4 hL6_5 rfl rfl (by omega)
  exact lp6_0 (Int.toNat (21 - 0) + 1) 0 0 _ (by omega) (rfl) (by omega) rfl rfl rfl rfl rfl rfl rfl rfl (by omega)
