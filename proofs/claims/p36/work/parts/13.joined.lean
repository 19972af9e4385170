/- 40.rfeed.lean.txt -/
section pt_40rfeed
/-! the bytes of five numbers, one by one -/
def bwI (a b c d e k : Int) : Int := if k < 4 then a else if k < 8 then b else if k < 12 then c else if k < 16 then d else e
def byI (a b c d e k : Int) : Int := zAnd (zShr (bwI a b c d e k) (24 - 8 * k.tmod 4)) 255
def sgL (b : Int) : List Int := if b = 0 then [] else [b]
def flN (g : Int → Int) : Nat → List Int
  | 0 => []
  | n + 1 => flN g n ++ sgL (g n)
def flI (g : Int → Int) (k : Int) : List Int := flN g k.toNat
theorem flI_S {g : Int → Int} {k : Int} (hk : 0 ≤ k) : flI g (k + 1) = flI g k ++ sgL (g k) := by
  unfold flI
  rw [toNat_S hk, flN, toNat_c hk]
theorem sgL_0 {b : Int} (h : b = 0) : sgL b = [] := if_pos h
theorem sgL_1 {b : Int} (h : ¬ b = 0) : sgL b = [b] := if_neg h
theorem cNZ_sg {b : Int} {l : List Int} : cNZ b l = sgL b ++ l := by
  unfold cNZ sgL
  split <;> rfl
theorem and255b (x : BitVec 32) (s : Nat) (hs : s ≤ 24) : (x.sshiftRight s) &&& 255#32 = (x >>> s) &&& 255#32 := by
  apply BitVec.eq_of_getLsbD_eq
  intro i hi
  rw [BitVec.getLsbD_and, BitVec.getLsbD_and]
  by_cases h8 : i < 8
  · rw [BitVec.getLsbD_sshiftRight, BitVec.getLsbD_ushiftRight, if_pos (by omega), show decide (32 ≤ i) = false from decide_eq_false (by omega)]
    rfl
  · have h255 : (255#32).getLsbD i = false := by
      have : i = 8 ∨ i = 9 ∨ i = 10 ∨ i = 11 ∨ i = 12 ∨ i = 13 ∨ i = 14 ∨ i = 15 ∨ i = 16 ∨ i = 17 ∨ i = 18 ∨ i = 19 ∨ i = 20 ∨ i = 21 ∨ i = 22 ∨ i = 23 ∨ i = 24 ∨ i = 25 ∨ i = 26 ∨ i = 27 ∨ i = 28 ∨ i = 29 ∨ i = 30 ∨ i = 31 := by omega
      rcases this with rfl | rfl | rfl | rfl | rfl | rfl | rfl | rfl | rfl | rfl | rfl | rfl | rfl | rfl | rfl | rfl | rfl | rfl | rfl | rfl | rfl | rfl | rfl | rfl <;> decide
    rw [h255, Bool.and_false, Bool.and_false]
theorem and255 (x : Int) (s : Int) (hs : s = 24 ∨ s = 16 ∨ s = 8 ∨ s = 0) : zAnd (zShr x s) 255 = zAnd (zUshr x s) 255 := by
  have key : ∀ y : Int32, ∀ n : Nat, n ≤ 24 → ∀ a b : Int32, a.toBitVec = y.toBitVec.sshiftRight n → b.toBitVec = y.toBitVec >>> n → a &&& 255 = b &&& 255 := by
    intro y n hn a b ha hb
    apply Int32.toBitVec_inj.mp
    rw [Int32.toBitVec_and, Int32.toBitVec_and, ha, hb]
    exact and255b y.toBitVec n hn
  unfold zAnd zShr zUshr
  rw [i32_of, i32_of]
  congr 1
  rcases hs with rfl | rfl | rfl | rfl
  · exact key (i32 x) 24 (by decide) _ _ rfl rfl
  · exact key (i32 x) 16 (by decide) _ _ rfl rfl
  · exact key (i32 x) 8 (by decide) _ _ rfl rfl
  · exact key (i32 x) 0 (by decide) _ _ rfl rfl
theorem flI_20 (a b c d e : Int) : flI (byI a b c d e) 20 = fbs a b c d e := by
  have g : ∀ x s : Int, s = 24 ∨ s = 16 ∨ s = 8 ∨ s = 0 → sgL (zAnd (zShr x s) 255) = sgL (zAnd (zUshr x s) 255) := fun x s hs => by rw [and255 x s hs]
  have h4 : ∀ x : Int, sgL (zAnd (zShr x 24) 255) ++ (sgL (zAnd (zShr x 16) 255) ++ (sgL (zAnd (zShr x 8) 255) ++ sgL (zAnd (zShr x 0) 255))) = bys x := by
    intro x
    unfold bys
    rw [cNZ_sg, cNZ_sg, cNZ_sg, cNZ_sg, List.append_nil, g x 24 (by decide), g x 16 (by decide), g x 8 (by decide), g x 0 (by decide)]
  unfold fbs
  rw [← h4 a, ← h4 b, ← h4 c, ← h4 d, ← h4 e]
  show flN (byI a b c d e) 20 = _
  simp only [flN, List.nil_append, List.append_assoc]
  rfl
theorem fl_len {g : Int → Int} : ∀ k, 0 ≤ k → ((flI g k).length : Int) ≤ k := by
  refine upI (Int.le_refl _) (fun k hk ih => ?_)
  rw [flI_S hk, List.length_append]
  have : (sgL (g k)).length ≤ 1 := by unfold sgL; split <;> simp
  omega
theorem fl_mono {g : Int → Int} {j : Int} (hj : 0 ≤ j) : ∀ k, 0 ≤ k → j ≤ k → ((flI g j).length : Int) ≤ ((flI g k).length : Int) := by
  refine upI (fun h => by rw [show j = 0 by omega]; exact Int.le_refl _) (fun k hk ih h => ?_)
  by_cases e : j = k + 1
  · rw [e]; exact Int.le_refl _
  · have := ih (by omega)
    rw [flI_S hk, List.length_append]
    omega
theorem fl_0 {g : Int → Int} {k : Int} (hk : 0 ≤ k) (h : g k = 0) : flI g (k + 1) = flI g k := by rw [flI_S hk, sgL_0 h, List.append_nil]
theorem fl_1 {g : Int → Int} {k : Int} (hk : 0 ≤ k) (h : ¬ g k = 0) : flI g (k + 1) = flI g k ++ [g k] := by rw [flI_S hk, sgL_1 h]
theorem fl_1l {g : Int → Int} {k : Int} (hk : 0 ≤ k) (h : ¬ g k = 0) : ((flI g (k + 1)).length : Int) = ((flI g k).length : Int) + 1 := by rw [fl_1 hk h, List.length_append, List.length_singleton]; omega
theorem byI_in (a b c d e k : Int) : 0 ≤ byI a b c d e k ∧ byI a b c d e k ≤ 255 := zAnd255 _
set_option maxHeartbeats 4000000 in
set_option maxRecDepth 100000 in
theorem kX12_byteOf (l : Launch) (x1 : Int) (x2 : Int) (x3 : Int) (x4 : Int) (x5 : Int) (k : Int) (hk : 0 ≤ k ∧ k ≤ 19) : AMi l yX12_byteOf cX12_byteOf 7 .int 0 0 0 [iv x1, iv x2, iv x3, iv x4, iv x5, iv k] [] (fun z u => z = byI x1 x2 x3 x4 x5 k ∧ u = []) := by
  refine AMi.of2 rfl (nle rfl) ?_
  intro D G A p e s m args below meth c Po hPo X
  refine S_iload X dX12_byteOf_0 rfl ?_
  refine S_iconst X dX12_byteOf_2 ?_
  refine S_icmp_ge (tgt := 10) X dX12_byteOf_3 (by decide) (by omega) (by decide) (fun c_1 => ?_) (fun c_1 => ?_)
  ·
    refine S_iload X dX12_byteOf_10 rfl ?_
    refine S_bipush X dX12_byteOf_12 rfl ?_
    refine S_icmp_ge (tgt := 21) X dX12_byteOf_14 (by decide) (by omega) (by decide) (fun c_2 => ?_) (fun c_2 => ?_)
    ·
      refine S_iload X dX12_byteOf_21 rfl ?_
      refine S_bipush X dX12_byteOf_23 rfl ?_
      refine S_icmp_ge (tgt := 32) X dX12_byteOf_25 (by decide) (by omega) (by decide) (fun c_3 => ?_) (fun c_3 => ?_)
      ·
        refine S_iload X dX12_byteOf_32 rfl ?_
        refine S_bipush X dX12_byteOf_34 rfl ?_
        refine S_icmp_ge (tgt := 43) X dX12_byteOf_36 (by decide) (by omega) (by decide) (fun c_4 => ?_) (fun c_4 => ?_)
        ·
          refine S_iload X dX12_byteOf_43 rfl ?_
          refine S_istore X dX12_byteOf_45 (nle rfl) ?_
          refine S_iload X dX12_byteOf_47 rfl ?_
          refine S_bipush X dX12_byteOf_49 rfl ?_
          refine S_bipush X dX12_byteOf_51 rfl ?_
          refine S_iload X dX12_byteOf_53 rfl ?_
          refine S_iconst X dX12_byteOf_55 ?_
          refine S_irem X (by omega) (by decide) (by decide) dX12_byteOf_56 ?_
          refine S_imul X dX12_byteOf_57 ?_
          refine S_isub X dX12_byteOf_58 ?_
          refine S_ishr X dX12_byteOf_59 ?_
          refine S_sipush X dX12_byteOf_60 rfl ?_
          refine S_iand X dX12_byteOf_63 ?_
          exact S_iret X (nle rfl) (nle rfl) dX12_byteOf_64 (hPo _ _ (⟨by unfold byI bwI; first | (rw [if_pos (by omega)]) | (rw [if_neg (by omega), if_pos (by omega)]) | (rw [if_neg (by omega), if_neg (by omega), if_pos (by omega)]) | (rw [if_neg (by omega), if_neg (by omega), if_neg (by omega), if_pos (by omega)]) | (rw [if_neg (by omega), if_neg (by omega), if_neg (by omega), if_neg (by omega)]), rfl⟩))
        ·
          refine S_iload_n X dX12_byteOf_39 rfl rfl ?_
          refine S_goto (tgt := 45) X dX12_byteOf_40 (by decide) ?_
          refine S_istore X dX12_byteOf_45 (nle rfl) ?_
          refine S_iload X dX12_byteOf_47 rfl ?_
          refine S_bipush X dX12_byteOf_49 rfl ?_
          refine S_bipush X dX12_byteOf_51 rfl ?_
          refine S_iload X dX12_byteOf_53 rfl ?_
          refine S_iconst X dX12_byteOf_55 ?_
          refine S_irem X (by omega) (by decide) (by decide) dX12_byteOf_56 ?_
          refine S_imul X dX12_byteOf_57 ?_
          refine S_isub X dX12_byteOf_58 ?_
          refine S_ishr X dX12_byteOf_59 ?_
          refine S_sipush X dX12_byteOf_60 rfl ?_
          refine S_iand X dX12_byteOf_63 ?_
          exact S_iret X (nle rfl) (nle rfl) dX12_byteOf_64 (hPo _ _ (⟨by unfold byI bwI; first | (rw [if_pos (by omega)]) | (rw [if_neg (by omega), if_pos (by omega)]) | (rw [if_neg (by omega), if_neg (by omega), if_pos (by omega)]) | (rw [if_neg (by omega), if_neg (by omega), if_neg (by omega), if_pos (by omega)]) | (rw [if_neg (by omega), if_neg (by omega), if_neg (by omega), if_neg (by omega)]), rfl⟩))
      ·
        refine S_iload_n X dX12_byteOf_28 rfl rfl ?_
        refine S_goto (tgt := 45) X dX12_byteOf_29 (by decide) ?_
        refine S_istore X dX12_byteOf_45 (nle rfl) ?_
        refine S_iload X dX12_byteOf_47 rfl ?_
        refine S_bipush X dX12_byteOf_49 rfl ?_
        refine S_bipush X dX12_byteOf_51 rfl ?_
        refine S_iload X dX12_byteOf_53 rfl ?_
        refine S_iconst X dX12_byteOf_55 ?_
        refine S_irem X (by omega) (by decide) (by decide) dX12_byteOf_56 ?_
        refine S_imul X dX12_byteOf_57 ?_
        refine S_isub X dX12_byteOf_58 ?_
        refine S_ishr X dX12_byteOf_59 ?_
        refine S_sipush X dX12_byteOf_60 rfl ?_
        refine S_iand X dX12_byteOf_63 ?_
        exact S_iret X (nle rfl) (nle rfl) dX12_byteOf_64 (hPo _ _ (⟨by unfold byI bwI; first | (rw [if_pos (by omega)]) | (rw [if_neg (by omega), if_pos (by omega)]) | (rw [if_neg (by omega), if_neg (by omega), if_pos (by omega)]) | (rw [if_neg (by omega), if_neg (by omega), if_neg (by omega), if_pos (by omega)]) | (rw [if_neg (by omega), if_neg (by omega), if_neg (by omega), if_neg (by omega)]), rfl⟩))
    ·
      refine S_iload_n X dX12_byteOf_17 rfl rfl ?_
      refine S_goto (tgt := 45) X dX12_byteOf_18 (by decide) ?_
      refine S_istore X dX12_byteOf_45 (nle rfl) ?_
      refine S_iload X dX12_byteOf_47 rfl ?_
      refine S_bipush X dX12_byteOf_49 rfl ?_
      refine S_bipush X dX12_byteOf_51 rfl ?_
      refine S_iload X dX12_byteOf_53 rfl ?_
      refine S_iconst X dX12_byteOf_55 ?_
      refine S_irem X (by omega) (by decide) (by decide) dX12_byteOf_56 ?_
      refine S_imul X dX12_byteOf_57 ?_
      refine S_isub X dX12_byteOf_58 ?_
      refine S_ishr X dX12_byteOf_59 ?_
      refine S_sipush X dX12_byteOf_60 rfl ?_
      refine S_iand X dX12_byteOf_63 ?_
      exact S_iret X (nle rfl) (nle rfl) dX12_byteOf_64 (hPo _ _ (⟨by unfold byI bwI; first | (rw [if_pos (by omega)]) | (rw [if_neg (by omega), if_pos (by omega)]) | (rw [if_neg (by omega), if_neg (by omega), if_pos (by omega)]) | (rw [if_neg (by omega), if_neg (by omega), if_neg (by omega), if_pos (by omega)]) | (rw [if_neg (by omega), if_neg (by omega), if_neg (by omega), if_neg (by omega)]), rfl⟩))
  ·
    refine S_iload_n X dX12_byteOf_6 rfl rfl ?_
    refine S_goto (tgt := 45) X dX12_byteOf_7 (by decide) ?_
    refine S_istore X dX12_byteOf_45 (nle rfl) ?_
    refine S_iload X dX12_byteOf_47 rfl ?_
    refine S_bipush X dX12_byteOf_49 rfl ?_
    refine S_bipush X dX12_byteOf_51 rfl ?_
    refine S_iload X dX12_byteOf_53 rfl ?_
    refine S_iconst X dX12_byteOf_55 ?_
    refine S_irem X (by omega) (by decide) (by decide) dX12_byteOf_56 ?_
    refine S_imul X dX12_byteOf_57 ?_
    refine S_isub X dX12_byteOf_58 ?_
    refine S_ishr X dX12_byteOf_59 ?_
    refine S_sipush X dX12_byteOf_60 rfl ?_
    refine S_iand X dX12_byteOf_63 ?_
    exact S_iret X (nle rfl) (nle rfl) dX12_byteOf_64 (hPo _ _ (⟨by unfold byI bwI; first | (rw [if_pos (by omega)]) | (rw [if_neg (by omega), if_pos (by omega)]) | (rw [if_neg (by omega), if_neg (by omega), if_pos (by omega)]) | (rw [if_neg (by omega), if_neg (by omega), if_neg (by omega), if_pos (by omega)]) | (rw [if_neg (by omega), if_neg (by omega), if_neg (by omega), if_neg (by omega)]), rfl⟩))
set_option maxHeartbeats 4000000 in
set_option maxRecDepth 100000 in
theorem kX12_feed (l : Launch) (h0 : Nat) (f : Nat → AV) (hT : Nat) (n : Int) (T : Int → Int) (x1 : Int) (x2 : Int) (x3 : Int) (x4 : Int) (x5 : Int) (hf0 : f 1 = rv hT) (hn : 0 ≤ n ∧ n ≤ 160) : AMi l yX12_feed cX12_feed 9 .int 1 0 0 [rv h0, iv x1, iv x2, iv x3, iv x4, iv x5] [(h0, ob 11 (uF f 2 (iv n))), (hT, ar 160 T)] (fun z u => (z = -1 ∧ u = [(h0, ob 11 (uF f 2 (iv n))), (hT, ar 160 T)] ∧ 160 < n + fbn x1 x2 x3 x4 x5) ∨ (∃ n2 : Int, ∃ T2 : Int → Int, z = n2 ∧ u = [(h0, ob 11 (uF f 2 (iv n2))), (hT, ar 160 T2)] ∧ n + fbn x1 x2 x3 x4 x5 ≤ 160 ∧ n2 = n + fbn x1 x2 x3 x4 x5 ∧ T2 = wrL T n (fbs x1 x2 x3 x4 x5))) := by
  refine AMi.of2 rfl (nle rfl) ?_
  intro D G A p e s m args below meth c Po hPo X
  have h20 : ((flI (byI x1 x2 x3 x4 x5) 20).length : Int) = fbn x1 x2 x3 x4 x5 := by rw [flI_20, fbs_len]
  refine S_iconst X dX12_feed_0 ?_
  refine S_istore X dX12_feed_1 (nle rfl) ?_
  refine S_iconst X dX12_feed_3 ?_
  refine S_istore X dX12_feed_4 (nle rfl) ?_
  have lp6_0 : ∀ (N : Nat) (k : Int) (cnt : Int) (L : Nat → Option AV), 0 ≤ k ∧ k ≤ 20 → cnt = ((flI (byI x1 x2 x3 x4 x5) k).length : Int) → cnt ≤ k ∧ 0 ≤ cnt → L 0 = some (rv h0) → L 1 = some (iv x1) → L 2 = some (iv x2) → L 3 = some (iv x3) → L 4 = some (iv x4) → L 5 = some (iv x5) → L 6 = some (iv cnt) → L 7 = some (iv k) → 21 - k < (N : Int) → S_ p l e (rmD 1 0 0) s m args below meth c (MQ below (QcI D G A Po) args s 0 0 A) D G A 9 0 0 6 L [] [(h0, ob 11 (uF f 2 (iv n))), (hT, ar 160 T)] := by
    intro N
    induction N with
    | zero =>
      intro k cnt L6 hk hcnt hcl hL6_0 hL6_1 hL6_2 hL6_3 hL6_4 hL6_5 hL6_6 hL6_7 hN6
      exfalso; omega
    | succ N ih6 =>
      intro k cnt L6 hk hcnt hcl hL6_0 hL6_1 hL6_2 hL6_3 hL6_4 hL6_5 hL6_6 hL6_7 hN6
      refine S_iload X dX12_feed_6 hL6_7 ?_
      refine S_bipush X dX12_feed_8 rfl ?_
      refine S_icmp_ge (tgt := 44) X dX12_feed_10 (by decide) (by omega) (by decide) (fun c_1 => ?_) (fun c_1 => ?_)
      ·
        have hcr : cnt = fbn x1 x2 x3 x4 x5 := by rw [hcnt, show k = 20 by omega]; exact h20
        refine S_aload_n X dX12_feed_44 rfl hL6_0 ?_
        refine S_get (v := iv n) X fgX12_108_11 0 rfl rfl dX12_feed_45 ?_
        refine S_iload X dX12_feed_48 hL6_6 ?_
        refine S_iadd X dX12_feed_50 ?_
        refine S_sipush X dX12_feed_51 rfl ?_
        refine S_icmp_le (tgt := 59) X dX12_feed_54 (by decide) (by omega) (by decide) (fun c_2 => ?_) (fun c_2 => ?_)
        ·
          refine S_iconst X dX12_feed_59 ?_
          refine S_istore X dX12_feed_60 (nle rfl) ?_
          have lp62_4 : ∀ (N : Nat) (k : Int) (n2 : Int) (Tv : Int → Int) (L : Nat → Option AV), 0 ≤ k ∧ k ≤ 20 → n2 = n + ((flI (byI x1 x2 x3 x4 x5) k).length : Int) → Tv = wrL T n (flI (byI x1 x2 x3 x4 x5) k) → L 0 = some (rv h0) → L 1 = some (iv x1) → L 2 = some (iv x2) → L 3 = some (iv x3) → L 4 = some (iv x4) → L 5 = some (iv x5) → L 7 = some (iv k) → 21 - k < (N : Int) → S_ p l e (rmD 1 0 0) s m args below meth c (MQ below (QcI D G A Po) args s 0 0 A) D G A 9 0 0 62 L [] [(h0, ob 11 (uF f 2 (iv n2))), (hT, ar 160 Tv)] := by
            intro N
            induction N with
            | zero =>
              intro k n2 Tv L62 hk hn2 hTv hL62_0 hL62_1 hL62_2 hL62_3 hL62_4 hL62_5 hL62_7 hN62
              exfalso; omega
            | succ N ih62 =>
              intro k n2 Tv L62 hk hn2 hTv hL62_0 hL62_1 hL62_2 hL62_3 hL62_4 hL62_5 hL62_7 hN62
              refine S_iload X dX12_feed_62 hL62_7 ?_
              refine S_bipush X dX12_feed_64 rfl ?_
              refine S_icmp_ge (tgt := 115) X dX12_feed_66 (by decide) (by omega) (by decide) (fun c_3 => ?_) (fun c_3 => ?_)
              ·
                refine S_aload_n X dX12_feed_115 rfl hL62_0 ?_
                refine S_get (v := iv n2) X fgX12_108_11 0 rfl rfl dX12_feed_116 ?_
                exact S_iret X (nle rfl) (nle rfl) dX12_feed_119 (hPo _ _ (Or.inr ⟨_, _, rfl, rfl, by omega, by rw [hn2, show k = 20 by omega]; omega, by rw [hTv, show k = 20 by omega, flI_20]⟩))
              ·
                refine S_iload_n X dX12_feed_69 rfl hL62_1 ?_
                refine S_iload_n X dX12_feed_70 rfl hL62_2 ?_
                refine S_iload_n X dX12_feed_71 rfl hL62_3 ?_
                refine S_iload X dX12_feed_72 hL62_4 ?_
                refine S_iload X dX12_feed_74 hL62_5 ?_
                refine S_iload X dX12_feed_76 hL62_7 ?_
                refine S_calli X (kX12_byteOf l x1 x2 x3 x4 x5 k (by omega)) (is := []) rfl (run_S X lkX12_104 (is := []) (avs := [iv x1, iv x2, iv x3, iv x4, iv x5, iv k]) (rest := []) rfl rfl (nle rfl) ⟨nle rfl, nle rfl⟩ ⟨nle rfl, nle rfl⟩ dX12_feed_78 (by decide) rfl) (fun z_6 u_4 hp_5 => ?_)
                obtain ⟨hz_7, hu_8⟩ := hp_5
                subst hz_7
                subst hu_8
                refine ⟨rfl, ?_⟩
                refine S_w (ws' := [(h0, ob 11 (uF f 2 (iv n2))), (hT, ar 160 Tv)]) rfl ?_
                have hby := byI_in x1 x2 x3 x4 x5 k
                refine S_istore X dX12_feed_81 (nle rfl) ?_
                refine S_iload X dX12_feed_83 rfl ?_
                refine S_if_eq (tgt := 109) X dX12_feed_85 (by decide) (by omega) (fun c_9 => ?_) (fun c_9 => ?_)
                ·
                  refine S_iinc X dX12_feed_109 (nle rfl) hL62_7 ?_
                  refine S_goto (tgt := 62) X dX12_feed_112 (by decide) ?_
                  exact ih62 (k + 1) n2 Tv _ (by omega) (by rw [fl_0 (by omega) (by assumption), hn2]) (by rw [fl_0 (by omega) (by assumption), hTv]) hL62_0 hL62_1 hL62_2 hL62_3 hL62_4 hL62_5 rfl (by omega)
                ·
                  have hl1 := fl_1l (g := (byI x1 x2 x3 x4 x5)) (k := k) (by omega) (by assumption)
                  have hl2 := fl_mono (g := (byI x1 x2 x3 x4 x5)) (j := k + 1) (by omega) 20 (by omega) (by omega)
                  refine S_aload_n X dX12_feed_88 rfl hL62_0 ?_
                  refine S_get X fgX12_9_11 0 rfl hf0 dX12_feed_89 ?_
                  refine S_aload_n X dX12_feed_92 rfl hL62_0 ?_
                  refine S_get (v := iv n2) X fgX12_108_11 0 rfl rfl dX12_feed_93 ?_
                  refine S_iload X dX12_feed_96 rfl ?_
                  refine S_iast X 1 rfl (by omega) (by omega) (nle rfl) dX12_feed_98 ?_
                  refine S_w (ws' := [(h0, ob 11 (uF f 2 (iv n2))), (hT, ar 160 (uZ Tv n2 (byI x1 x2 x3 x4 x5 k)))]) rfl ?_
                  refine S_aload_n X dX12_feed_99 rfl hL62_0 ?_
                  refine S_dup X dX12_feed_100 ?_
                  refine S_get (v := iv n2) X fgX12_108_11 0 rfl rfl dX12_feed_101 ?_
                  refine S_iconst X dX12_feed_104 ?_
                  refine S_iadd X dX12_feed_105 ?_
                  refine S_put X fpX12_108_11 0 rfl FT_i dX12_feed_106 ?_
                  refine S_w (ws' := [(h0, ob 11 (uF f 2 (iv (n2 + 1)))), (hT, ar 160 (uZ Tv n2 (byI x1 x2 x3 x4 x5 k)))]) (by simp only [List.set]; rw [uF_same (k := 2)]) ?_
                  refine S_iinc X dX12_feed_109 (nle rfl) hL62_7 ?_
                  refine S_goto (tgt := 62) X dX12_feed_112 (by decide) ?_
                  exact ih62 (k + 1) (n2 + 1) (uZ Tv n2 (byI x1 x2 x3 x4 x5 k)) _ (by omega) (by omega) (by rw [fl_1 (by omega) (by assumption), wrL_app, ← hn2, wrL_one, ← hTv]) hL62_0 hL62_1 hL62_2 hL62_3 hL62_4 hL62_5 rfl (by omega)
          exact lp62_4 (Int.toNat (21 - 0) + 1) 0 n T _ (by omega) (by show n = n + 0; omega) (rfl) hL6_0 hL6_1 hL6_2 hL6_3 hL6_4 hL6_5 rfl (by omega)
        ·
          refine S_iconst X dX12_feed_57 ?_
          exact S_iret X (nle rfl) (nle rfl) dX12_feed_58 (hPo _ _ (Or.inl ⟨rfl, rfl, by omega⟩))
      ·
        refine S_iload X dX12_feed_13 hL6_6 ?_
        refine S_iload_n X dX12_feed_15 rfl hL6_1 ?_
        refine S_iload_n X dX12_feed_16 rfl hL6_2 ?_
        refine S_iload_n X dX12_feed_17 rfl hL6_3 ?_
        refine S_iload X dX12_feed_18 hL6_4 ?_
        refine S_iload X dX12_feed_20 hL6_5 ?_
        refine S_iload X dX12_feed_22 hL6_7 ?_
        refine S_calli X (kX12_byteOf l x1 x2 x3 x4 x5 k (by omega)) (is := []) rfl (run_S X lkX12_104 (is := []) (avs := [iv x1, iv x2, iv x3, iv x4, iv x5, iv k]) (rest := [iv cnt]) rfl rfl (nle rfl) ⟨nle rfl, nle rfl⟩ ⟨nle rfl, nle rfl⟩ dX12_feed_24 (by decide) rfl) (fun z_12 u_10 hp_11 => ?_)
        obtain ⟨hz_13, hu_14⟩ := hp_11
        subst hz_13
        subst hu_14
        refine ⟨rfl, ?_⟩
        refine S_w (ws' := [(h0, ob 11 (uF f 2 (iv n))), (hT, ar 160 T)]) rfl ?_
        have hby := byI_in x1 x2 x3 x4 x5 k
        refine S_if_eq (tgt := 34) X dX12_feed_27 (by decide) (by omega) (fun c_15 => ?_) (fun c_15 => ?_)
        ·
          refine S_iconst X dX12_feed_34 ?_
          refine S_iadd X dX12_feed_35 ?_
          refine S_istore X dX12_feed_36 (nle rfl) ?_
          refine S_iinc X dX12_feed_38 (nle rfl) hL6_7 ?_
          refine S_goto (tgt := 6) X dX12_feed_41 (by decide) ?_
          exact ih6 (k + 1) (cnt + 0) _ (by omega) (by rw [fl_0 (by omega) (by assumption), hcnt]; omega) (by omega) hL6_0 hL6_1 hL6_2 hL6_3 hL6_4 hL6_5 rfl rfl (by omega)
        ·
          refine S_iconst X dX12_feed_30 ?_
          refine S_goto (tgt := 35) X dX12_feed_31 (by decide) ?_
          refine S_iadd X dX12_feed_35 ?_
          refine S_istore X dX12_feed_36 (nle rfl) ?_
          refine S_iinc X dX12_feed_38 (nle rfl) hL6_7 ?_
          refine S_goto (tgt := 6) X dX12_feed_41 (by decide) ?_
          exact ih6 (k + 1) (cnt + 1) _ (by omega) (by rw [fl_1l (by omega) (by assumption), hcnt]) (by omega) hL6_0 hL6_1 hL6_2 hL6_3 hL6_4 hL6_5 rfl rfl (by omega)
  exact lp6_0 (Int.toNat (21 - 0) + 1) 0 0 _ (by omega) (rfl) (by omega) rfl rfl rfl rfl rfl rfl rfl rfl (by omega)
end pt_40rfeed
/- 41.eval.lean.txt -/
section pt_41eval
/-! WHAT A LAW's SIGNS ARE BUILT OF: sums and conditions, by their closures -/
def isOpd (t : Int) : Prop := (0 ≤ t ∧ t ≤ 9999) ∨ t = -100 ∨ t = -119 ∨ t = -109 ∨ t = -110 ∨ t = -111
def isArT (t : Int) : Prop := t = -43 ∨ t = -45 ∨ t = -42 ∨ t = -47
def isCmT (t : Int) : Prop := t = -61 ∨ t = -60 ∨ t = -62
def isLoT (t : Int) : Prop := t = -38 ∨ t = -124
def clP (P Q : List Int → Prop) : Prop := (∀ t, isOpd t → P [t]) ∧ (∀ a b t, P a → P b → isArT t → P (a ++ b ++ [t])) ∧ (∀ a b t, P a → P b → isCmT t → Q (a ++ (b ++ [t]))) ∧ (∀ a, Q a → Q (a ++ [-33])) ∧ (∀ a b t, Q a → Q b → isLoT t → Q (a ++ b ++ [t]))
section PQ
variable {P Q : List Int → Prop} {T : Int → Int} {n : Int}
def gP (P : List Int → Prop) (r : LR) : Prop := ∀ q, r = .inr q → P q.2
theorem gP_l {f : Int} : gP P (.inl f) := fun q h => by cases h
theorem gP_r {a : Int} {ts : List Int} (h : P ts) : gP P (.inr (a, ts)) := fun q e => by cases e; exact h
theorem atomG_P (C : clP P Q) {nx : Int → LR} {k : Nat} (hn : n ≤ 160) (hx : k ≠ 0 → ∀ a, 0 ≤ a → a ≤ n → gP P (nx a)) (a : Int) (h0 : 0 ≤ a) (ha : a ≤ n) : gP P (atomG T n nx k a) := by
  have k1 := sk_in (T := T) ha
  unfold atomG
  split
  · have h2 := pNum_in (T := T) (n := n) (dg := 4) (lo := 0) (hi := 9999) (a := sk T n a) k1.2 (by decide) hn (by omega)
    cases hp : pNum T n 4 0 9999 (sk T n a) with
    | inl f => exact gP_l
    | inr q => exact gP_r (C.1 _ (Or.inl ⟨(h2.2 q hp).2.2.1, (h2.2 q hp).2.2.2⟩))
  · split
    · next h => exact gP_r (C.1 _ (by unfold isOpd; omega))
    · split
      · next h3 =>
        have l1 : sk T n a < n := ch_lt (T := T) (by omega)
        have h4 := hx h3.2 (sk T n a + 1) (by omega) (by omega)
        cases hp : nx (sk T n a + 1) with
        | inl f => exact gP_l
        | inr q =>
          show gP P (if ch T n (sk T n q.1) = 93 then .inr (sk T n q.1 + 1, q.2) else .inl (sk T n q.1))
          split
          · exact gP_r (h4 q hp)
          · exact gP_l
      · exact gP_l
theorem sumL_P (C : clP P Q) {atom : Int → LR} (hx : ∀ a, 0 ≤ a → a ≤ n → okLR n a (atom a) ∧ gP P (atom a)) : ∀ (f : Nat) (w a : Int) (acc : List Int), 0 ≤ a → a ≤ n → ((w = 0 ∧ P acc) ∨ ((w = 43 ∨ w = 45) ∧ ∃ A B, acc = A ++ B ∧ P A ∧ P B)) → gP P (sumL T n atom f w a acc) := by
  intro f
  induction f with
  | zero => intro w a acc h0 ha hw; exact gP_l
  | succ f ih =>
    intro w a acc h0 ha hw
    have k1 := sk_in (T := T) ha
    have closed : P (if w = 0 then acc else acc ++ [-w]) := by
      rcases hw with ⟨h1, h2⟩ | ⟨h1, A, B, h2, h3, h4⟩
      · rw [if_pos h1]; exact h2
      · rw [if_neg (by omega), h2]
        exact C.2.1 A B (-w) h3 h4 (by unfold isArT; omega)
    rw [sumL]
    split
    · next hc =>
      have l1 : sk T n a < n := ch_lt (T := T) (by omega)
      have h4 := hx (sk T n a + 1) (by omega) (by omega)
      cases hp : atom (sk T n a + 1) with
      | inl g => exact gP_l
      | inr q =>
        have h5 := h4.1.2 q hp
        exact ih _ _ _ (by omega) (by omega) (Or.inr ⟨hc, _, _, rfl, closed, h4.2 q hp⟩)
    · split
      · next hc =>
        have l1 : sk T n a < n := ch_lt (T := T) (by omega)
        have h4 := hx (sk T n a + 1) (by omega) (by omega)
        cases hp : atom (sk T n a + 1) with
        | inl g => exact gP_l
        | inr q =>
          have h5 := h4.1.2 q hp
          have ht : isArT (-ch T n (sk T n a)) := by unfold isArT; omega
          refine ih _ _ _ (by omega) (by omega) ?_
          rcases hw with ⟨h1, h2⟩ | ⟨h1, A, B, h2, h3, h6⟩
          · exact Or.inl ⟨h1, C.2.1 _ _ _ h2 (h4.2 q hp) ht⟩
          · refine Or.inr ⟨h1, A, B ++ q.2 ++ [-ch T n (sk T n a)], by rw [h2]; simp only [List.append_assoc], h3, C.2.1 _ _ _ h6 (h4.2 q hp) ht⟩
      · exact gP_r closed
theorem sumG_P (C : clP P Q) {atom : Int → LR} (hx : ∀ a, 0 ≤ a → a ≤ n → okLR n a (atom a) ∧ gP P (atom a)) (a : Int) (h0 : 0 ≤ a) (ha : a ≤ n) : gP P (sumG T n atom a) := by
  unfold sumG
  have h4 := hx a h0 ha
  cases hp : atom a with
  | inl f => exact gP_l
  | inr q =>
    have h5 := h4.1.2 q hp
    exact sumL_P C hx 161 0 q.1 q.2 (by omega) (by omega) (Or.inl ⟨rfl, h4.2 q hp⟩)
theorem pAS_P (C : clP P Q) (hn : n ≤ 160) : ∀ (k : Nat), (∀ a, 0 ≤ a → a ≤ n → gP P (pAtom T n k a)) ∧ (∀ a, 0 ≤ a → a ≤ n → gP P (pSum T n k a)) := by
  intro k
  have sum : ∀ j, (∀ a, 0 ≤ a → a ≤ n → gP P (pAtom T n j a)) → ∀ a, 0 ≤ a → a ≤ n → gP P (pSum T n j a) := by
    intro j hj a h0 ha
    rw [pSum_eq]
    exact sumG_P C (fun b b0 b1 => ⟨(pAS_ok (T := T) hn j).1 b b0 b1, hj b b0 b1⟩) a h0 ha
  induction k with
  | zero =>
    have h1 : ∀ a, 0 ≤ a → a ≤ n → gP P (pAtom T n 0 a) := fun a h0 ha => by
      show gP P (atomG T n (fun _ => .inl 0) 0 a)
      exact atomG_P C hn (fun h => absurd rfl h) a h0 ha
    exact ⟨h1, sum 0 h1⟩
  | succ k ih =>
    have h1 : ∀ a, 0 ≤ a → a ≤ n → gP P (pAtom T n (k + 1) a) := fun a h0 ha => atomG_P C hn (fun _ b b0 b1 => ih.2 b b0 b1) a h0 ha
    exact ⟨h1, sum (k + 1) h1⟩
theorem cmpG_P (C : clP P Q) (hn : n ≤ 160) (k : Nat) (a : Int) (h0 : 0 ≤ a) (ha : a ≤ n) : ∀ q, cmpG T n k a = .inr q → ∃ b t, q.2 = b ++ [t] ∧ P b ∧ isCmT t := by
  intro q hq
  have k1 := sk_in (T := T) ha
  unfold cmpG at hq
  split at hq
  · next hc =>
    have l1 : sk T n a < n := ch_lt (T := T) (by omega)
    have h4 := (pAS_P (T := T) C hn k).2 (sk T n a + 1) (by omega) (by omega)
    cases hp : pSum T n k (sk T n a + 1) with
    | inl f => rw [hp] at hq; cases hq
    | inr r =>
      rw [hp] at hq
      cases hq
      exact ⟨r.2, _, rfl, h4 r hp, by unfold isCmT; omega⟩
  · cases hq
theorem unitG_P (C : clP P Q) {co un : Int → LR} {k : Nat} (hn : n ≤ 160) (hc : k ≠ 0 → ∀ a, 0 ≤ a → a ≤ n → gP Q (co a)) (hu : k ≠ 0 → ∀ a, 0 ≤ a → a ≤ n → gP Q (un a)) (a : Int) (h0 : 0 ≤ a) (ha : a ≤ n) : gP Q (unitG T n co un k a) := by
  have k1 := sk_in (T := T) ha
  unfold unitG
  split
  · have h4 := (pAS_P (T := T) C hn k).2 (sk T n a) (by omega) (by omega)
    have h5 := (pAS_ok (T := T) hn k).2 (sk T n a) (by omega) (by omega)
    cases hp : pSum T n k (sk T n a) with
    | inl f => exact gP_l
    | inr q =>
      have h6 := h5.2 q hp
      have h7 := cmpG_P (T := T) C hn k q.1 (by omega) (by omega)
      dsimp only
      cases hr : cmpG T n k q.1 with
      | inl f => exact gP_l
      | inr r =>
        obtain ⟨b, t, e1, e2, e3⟩ := h7 r hr
        refine gP_r ?_
        rw [e1]
        exact C.2.2.1 _ _ _ (h4 q hp) e2 e3
  · split
    · exact gP_l
    · next hk =>
      split
      · next hc2 =>
        have l1 : sk T n a < n := ch_lt (T := T) (by omega)
        have h4 := hu hk (sk T n a + 1) (by omega) (by omega)
        cases hp : un (sk T n a + 1) with
        | inl f => exact gP_l
        | inr q => exact gP_r (C.2.2.2.1 _ (h4 q hp))
      · next hc1 hc2 =>
        have l1 : sk T n a < n := ch_lt (T := T) (by omega)
        have h4 := hc hk (sk T n a + 1) (by omega) (by omega)
        cases hp : co (sk T n a + 1) with
        | inl f => exact gP_l
        | inr q =>
          show gP Q (if ch T n (sk T n q.1) = 41 then .inr (sk T n q.1 + 1, q.2) else .inl (sk T n q.1))
          split
          · exact gP_r (h4 q hp)
          · exact gP_l
theorem moreL_P (C : clP P Q) {unit : Int → LR} (hx : ∀ a, 0 ≤ a → a ≤ n → okLR n a (unit a) ∧ gP Q (unit a)) : ∀ (f : Nat) (w : Bool) (a : Int) (acc : List Int), 0 ≤ a → a ≤ n → ((w = false ∧ Q acc) ∨ (w = true ∧ ∃ A B, acc = A ++ B ∧ Q A ∧ Q B)) → gP Q (moreL T n unit f w a acc) := by
  intro f
  induction f with
  | zero => intro w a acc h0 ha hw; exact gP_l
  | succ f ih =>
    intro w a acc h0 ha hw
    have k1 := sk_in (T := T) ha
    have closed : Q (if w then acc ++ [-124] else acc) := by
      rcases hw with ⟨h1, h2⟩ | ⟨h1, A, B, h2, h3, h4⟩
      · rw [h1]; exact h2
      · rw [h1, h2]
        exact C.2.2.2.2 A B (-124) h3 h4 (Or.inr rfl)
    rw [moreL]
    split
    · next hc =>
      have l1 : sk T n a < n := ch_lt (T := T) (by omega)
      have h4 := hx (sk T n a + 1) (by omega) (by omega)
      cases hp : unit (sk T n a + 1) with
      | inl g => exact gP_l
      | inr q =>
        have h5 := h4.1.2 q hp
        exact ih _ _ _ (by omega) (by omega) (Or.inr ⟨rfl, _, _, rfl, closed, h4.2 q hp⟩)
    · split
      · next hc =>
        have l1 : sk T n a < n := ch_lt (T := T) (by omega)
        have h4 := hx (sk T n a + 1) (by omega) (by omega)
        cases hp : unit (sk T n a + 1) with
        | inl g => exact gP_l
        | inr q =>
          have h5 := h4.1.2 q hp
          refine ih _ _ _ (by omega) (by omega) ?_
          rcases hw with ⟨h1, h2⟩ | ⟨h1, A, B, h2, h3, h6⟩
          · exact Or.inl ⟨h1, C.2.2.2.2 _ _ _ h2 (h4.2 q hp) (Or.inl rfl)⟩
          · exact Or.inr ⟨h1, A, B ++ q.2 ++ [-38], by rw [h2]; simp only [List.append_assoc], h3, C.2.2.2.2 _ _ _ h6 (h4.2 q hp) (Or.inl rfl)⟩
      · exact gP_r closed
theorem condG_P (C : clP P Q) {unit : Int → LR} (hx : ∀ a, 0 ≤ a → a ≤ n → okLR n a (unit a) ∧ gP Q (unit a)) (a : Int) (h0 : 0 ≤ a) (ha : a ≤ n) : gP Q (condG T n unit a) := by
  unfold condG
  have h4 := hx a h0 ha
  cases hp : unit a with
  | inl f => exact gP_l
  | inr q =>
    have h5 := h4.1.2 q hp
    exact moreL_P C hx 161 false q.1 q.2 (by omega) (by omega) (Or.inl ⟨rfl, h4.2 q hp⟩)
theorem pUnit_P (C : clP P Q) (hn : n ≤ 160) : ∀ (k : Nat) (a : Int), 0 ≤ a → a ≤ n → gP Q (pUnit T n k a) := by
  intro k
  induction k with
  | zero => intro a h0 ha; exact unitG_P C hn (fun h => absurd rfl h) (fun h => absurd rfl h) a h0 ha
  | succ k ih =>
    intro a h0 ha
    exact unitG_P C hn (fun _ b b0 b1 => condG_P C (fun d d0 d1 => ⟨pUnit_ok (T := T) hn k d d0 d1, ih d d0 d1⟩) b b0 b1) (fun _ b b0 b1 => ih b b0 b1) a h0 ha
theorem pCond_P (C : clP P Q) (hn : n ≤ 160) (k : Nat) (a : Int) (h0 : 0 ≤ a) (ha : a ≤ n) : gP Q (pCond T n k a) := condG_P C (fun d d0 d1 => ⟨pUnit_ok (T := T) hn k d d0 d1, pUnit_P C hn k d d0 d1⟩) a h0 ha
/-- of a clause: its condition (or none), its sum -/
def gC (P Q : List Int → Prop) (p : List Int × List Int) : Prop := (p.1 = [] ∨ Q p.1) ∧ P p.2
theorem sumS_P (C : clP P Q) (hn : n ≤ 160) {c : List Int} (hc : Q c) (a : Int) (h0 : 0 ≤ a) (ha : a ≤ n) : ∀ q, sumS T n a c = .inr q → gC P Q q.2 := by
  intro q hq
  have k1 := sk_in (T := T) ha
  unfold sumS at hq
  split at hq
  · have l1 : sk T n a < n := ch_lt (T := T) (by omega)
    have h4 := (pAS_P (T := T) C hn 6).2 (sk T n a + 1) (by omega) (by omega)
    cases hp : pSum T n 6 (sk T n a + 1) with
    | inl f => rw [hp] at hq; cases hq
    | inr r => rw [hp] at hq; cases hq; exact ⟨Or.inr hc, h4 r hp⟩
  · cases hq
theorem pLawS_P (C : clP P Q) (hn : n ≤ 160) (a : Int) (h0 : 0 ≤ a) (ha : a ≤ n) : ∀ q, pLawS T n a = .inr q → gC P Q q.2 := by
  intro q hq
  have k1 := sk_in (T := T) ha
  unfold pLawS at hq
  split at hq
  · have l1 : sk T n a < n := ch_lt (T := T) (by omega)
    have k2 := sk_in (T := T) (n := n) (a := sk T n a + 1) (by omega)
    split at hq
    · have l2 : sk T n (sk T n a + 1) < n := ch_lt (T := T) (by omega)
      have k3 := sk_in (T := T) (n := n) (a := sk T n (sk T n a + 1) + 1) (by omega)
      split at hq
      · have h4 := pCond_P (T := T) C hn 6 (sk T n (sk T n (sk T n a + 1) + 1)) (by omega) (by omega)
        have h5 := pCond_ok (T := T) hn 6 (sk T n (sk T n (sk T n a + 1) + 1)) (by omega) (by omega)
        cases hp : pCond T n 6 (sk T n (sk T n (sk T n a + 1) + 1)) with
        | inl f => rw [hp] at hq; cases hq
        | inr r =>
          rw [hp] at hq
          have h6 := h5.2 r hp
          exact sumS_P C hn (h4 r hp) r.1 (by omega) (by omega) q hq
      · have h4 := (pAS_P (T := T) C hn 6).2 (sk T n (sk T n (sk T n a + 1) + 1)) (by omega) (by omega)
        have h5 := (pAS_ok (T := T) hn 6).2 (sk T n (sk T n (sk T n a + 1) + 1)) (by omega) (by omega)
        cases hp : pSum T n 6 (sk T n (sk T n (sk T n a + 1) + 1)) with
        | inl f => rw [hp] at hq; cases hq
        | inr r =>
          rw [hp] at hq
          have h6 := h5.2 r hp
          have k4 := sk_in (T := T) h6.2.1
          dsimp only at hq
          split at hq
          · have h7 := cmpG_P (T := T) C hn 6 (sk T n r.1) (by omega) (by omega)
            have h8 := cmpG_ok (T := T) hn 6 (sk T n r.1) (by omega) (by omega)
            cases hr : cmpG T n 6 (sk T n r.1) with
            | inl f => rw [hr] at hq; cases hq
            | inr u =>
              rw [hr] at hq
              obtain ⟨b, t, e1, e2, e3⟩ := h7 u hr
              have h9 := h8.2 u hr
              have hQ : Q (r.2 ++ u.2) := by rw [e1]; exact C.2.2.1 _ _ _ (h4 r hp) e2 e3
              have h10 := moreL_P (T := T) C (fun d d0 d1 => ⟨pUnit_ok (T := T) hn 6 d d0 d1, pUnit_P C hn 6 d d0 d1⟩) 161 false u.1 (r.2 ++ u.2) (by omega) (by omega) (Or.inl ⟨rfl, hQ⟩)
              have h11 := moreL_ok (T := T) (pUnit_ok (T := T) hn 6) (show (0 : Int) ≤ sk T n a by omega) 161 false u.1 (r.2 ++ u.2) (by omega) h9.2.1 (by rw [List.length_append, if_neg (by decide)]; omega) (by rw [List.length_append]; omega) (ok_app h6.2.2.2.2 h9.2.2.2.2)
              dsimp only at hq
              cases hm : moreL T n (pUnit T n 6) 161 false u.1 (r.2 ++ u.2) with
              | inl f => rw [hm] at hq; cases hq
              | inr v =>
                rw [hm] at hq
                have h12 := h11.2 v hm
                exact sumS_P C hn (h10 v hm) v.1 (by omega) (by omega) q hq
          · cases hq
            exact ⟨Or.inl rfl, h4 r hp⟩
    · cases hq
  · cases hq
/-- of a law: each clause is built so -/
theorem pLawLS_P (C : clP P Q) (hn : n ≤ 160) : ∀ (f : Nat) (a : Int) (acc : List (List Int × List Int)), 0 ≤ a → a ≤ n → (∀ p ∈ acc, gC P Q p) → ∀ cs, pLawLS T n f a acc = .inr cs → ∀ p ∈ cs, gC P Q p := by
  intro f
  induction f with
  | zero => intro a acc h0 ha hacc cs h; cases h; exact hacc
  | succ f ih =>
    intro a acc h0 ha hacc cs h
    rw [pLawLS] at h
    cases hp : pLawS T n a with
    | inl e => rw [hp] at h; cases h
    | inr q =>
      rw [hp] at h
      obtain ⟨b, c, s⟩ := q
      have h1 := pLawS_in hn h0 ha hp
      have h2 := sk_in (T := T) h1.2.1
      have h3 := pLawS_P (T := T) C hn a h0 ha _ hp
      have h4 : ∀ p ∈ acc ++ [(c, s)], gC P Q p := fun p hm => (List.mem_append.mp hm).elim (hacc p) (fun hm => by rw [List.mem_singleton.mp hm]; exact h3)
      dsimp only at h
      split at h
      · cases h; exact h4
      · split at h
        · have : sk T n b < n := ch_lt (T := T) (by omega)
          exact ih _ _ (by omega) (by omega) h4 cs h
        · cases h
end PQ
end pt_41eval
/- 42.eval2.lean.txt -/
section pt_42eval2
/-! working a law's signs out: a stack of numbers, its top first -/
def bnd (x : Int) : Int := max (-1000000) (min 1000000 x)
def inB (x : Int) : Prop := -1000000 ≤ x ∧ x ≤ 1000000
def wk2 (k a b : Int) : Int := if k = 2 then bnd (a + b) else if k = 3 then bnd (a - b) else if k = 4 then bnd (a * b) else if k = 5 then (if b = 0 then 0 else bnd (a.tdiv b)) else if k = 6 then (if a = b then 1 else 0) else if k = 7 then (if a < b then 1 else 0) else if k = 8 then (if b < a then 1 else 0) else if k = 10 then (if a ≠ 0 ∧ b ≠ 0 then 1 else 0) else (if a ≠ 0 ∨ b ≠ 0 then 1 else 0)
def ev1 (e : Int → Int) (t : Int) (st : List Int) : List Int :=
  if kC t = 0 then t :: st else if kC t = 1 then e (kV t) :: st else if kC t = 9 then (match st with | a :: r => (1 - a) :: r | [] => []) else (match st with | b :: a :: r => wk2 (kC t) a b :: r | _ => [])
def evL (e : Int → Int) : List Int → List Int → List Int
  | [], st => st
  | t :: ts, st => evL e ts (ev1 e t st)
/-- what must be on the stack ahead of a sign -/
def okAt (M : Int) (t : Int) (st : List Int) : Prop := (∀ x ∈ st, inB x) ∧ (if kC t = 0 then 0 ≤ t ∧ t ≤ 9999 ∧ (st.length : Int) < M else if kC t = 1 then (t = -100 ∨ t = -119 ∨ t = -109 ∨ t = -110 ∨ t = -111) ∧ (st.length : Int) < M else if kC t = 9 then t = -33 ∧ ∃ a r, st = a :: r ∧ (a = 0 ∨ a = 1) else ∃ b a r, st = b :: a :: r ∧ (isArT t ∨ isCmT t ∨ (isLoT t ∧ (a = 0 ∨ a = 1) ∧ (b = 0 ∨ b = 1))))
def okRn (e : Int → Int) (M : Int) : List Int → List Int → Prop
  | [], _ => True
  | t :: ts, st => okAt M t st ∧ okRn e M ts (ev1 e t st)
def isO (t : Int) : Int := if kC t = 0 ∨ kC t = 1 then 1 else 0
def opN : List Int → Int
  | [] => 0
  | t :: ts => isO t + opN ts
theorem evL_app {e : Int → Int} : ∀ (a b st : List Int), evL e (a ++ b) st = evL e b (evL e a st)
  | [], _, _ => rfl
  | t :: a, b, st => evL_app a b (ev1 e t st)
theorem okRn_app {e : Int → Int} {M : Int} : ∀ (a b st : List Int), okRn e M a st → okRn e M b (evL e a st) → okRn e M (a ++ b) st
  | [], _, _, _, h => h
  | t :: a, b, st, h, g => ⟨h.1, okRn_app a b (ev1 e t st) h.2 g⟩
theorem opN_app : ∀ (a b : List Int), opN (a ++ b) = opN a + opN b
  | [], b => by show opN b = 0 + opN b; omega
  | t :: a, b => by show isO t + opN (a ++ b) = isO t + opN a + opN b; rw [opN_app a b]; omega
theorem bnd_in (x : Int) : inB (bnd x) := by unfold bnd inB; omega
theorem b01 {c : Prop} [Decidable c] : inB (if c then 1 else 0) := by unfold inB; split <;> omega
theorem wk2_in (k a b : Int) : inB (wk2 k a b) := by
  unfold wk2
  repeat' split
  all_goals first | exact bnd_in _ | exact (show inB 0 by unfold inB; omega) | exact (show inB 1 by unfold inB; omega)
theorem kC_opd {t : Int} (h : isOpd t) : (kC t = 0 ∧ 0 ≤ t ∧ t ≤ 9999) ∨ (kC t = 1 ∧ (t = -100 ∨ t = -119 ∨ t = -109 ∨ t = -110 ∨ t = -111)) := by
  unfold isOpd at h
  rcases h with h | h | h | h | h | h
  · left; refine ⟨?_, h⟩; unfold kC; rw [if_pos h.1]
  all_goals right; subst h; exact ⟨by decide, by decide⟩
theorem kC_ar {t : Int} (h : isArT t ∨ isCmT t ∨ isLoT t) : ¬ kC t = 0 ∧ ¬ kC t = 1 ∧ ¬ kC t = 9 := by
  unfold isArT isCmT isLoT at h
  rcases h with (h | h | h | h) | (h | h | h) | (h | h) <;> subst h <;> decide
/-- a sum: one number more on the stack -/
def pP (e : Int → Int) (M : Int) (ts : List Int) : Prop := 1 ≤ opN ts ∧ 2 * opN ts ≤ (ts.length : Int) + 1 ∧ ∃ v, inB v ∧ ∀ st : List Int, (st.length : Int) + opN ts ≤ M → (∀ x ∈ st, inB x) → okRn e M ts st ∧ evL e ts st = v :: st
def qP (e : Int → Int) (M : Int) (ts : List Int) : Prop := 1 ≤ opN ts ∧ 2 * opN ts ≤ (ts.length : Int) + 1 ∧ ∃ v, (v = 0 ∨ v = 1) ∧ ∀ st : List Int, (st.length : Int) + opN ts ≤ M → (∀ x ∈ st, inB x) → okRn e M ts st ∧ evL e ts st = v :: st
theorem in01 {v : Int} (h : v = 0 ∨ v = 1) : inB v := by unfold inB; omega
theorem ev_two {e : Int → Int} {t a b : Int} {st : List Int} (h : isArT t ∨ isCmT t ∨ isLoT t) : ev1 e t (b :: a :: st) = wk2 (kC t) a b :: st := by
  have h2 := kC_ar h
  unfold ev1
  rw [if_neg h2.1, if_neg h2.2.1, if_neg h2.2.2]
theorem two_P {e : Int → Int} {M : Int} {a b : List Int} {t va vb : Int} (ht : isArT t ∨ isCmT t ∨ (isLoT t ∧ (va = 0 ∨ va = 1) ∧ (vb = 0 ∨ vb = 1))) (ha1 : 1 ≤ opN a) (ha2 : 2 * opN a ≤ (a.length : Int) + 1) (hva : inB va) (ha : ∀ st : List Int, (st.length : Int) + opN a ≤ M → (∀ x ∈ st, inB x) → okRn e M a st ∧ evL e a st = va :: st)
    (hb1 : 1 ≤ opN b) (hb2 : 2 * opN b ≤ (b.length : Int) + 1) (hvb : inB vb) (hb : ∀ st : List Int, (st.length : Int) + opN b ≤ M → (∀ x ∈ st, inB x) → okRn e M b st ∧ evL e b st = vb :: st) :
    1 ≤ opN (a ++ (b ++ [t])) ∧ 2 * opN (a ++ (b ++ [t])) ≤ ((a ++ (b ++ [t])).length : Int) + 1 ∧ ∀ st : List Int, (st.length : Int) + opN (a ++ (b ++ [t])) ≤ M → (∀ x ∈ st, inB x) → okRn e M (a ++ (b ++ [t])) st ∧ evL e (a ++ (b ++ [t])) st = wk2 (kC t) va vb :: st := by
  have h3 : isArT t ∨ isCmT t ∨ isLoT t := by
    rcases ht with h | h | h
    · exact Or.inl h
    · exact Or.inr (Or.inl h)
    · exact Or.inr (Or.inr h.1)
  have h2 := kC_ar h3
  have ho : opN [t] = 0 := by
    show isO t + 0 = 0
    unfold isO
    rw [if_neg (by omega)]
    rfl
  rw [opN_app, opN_app, ho]
  refine ⟨by omega, by simp only [List.length_append, List.length_singleton]; omega, fun st hm hs => ?_⟩
  have k1 := ha st (by omega) hs
  have hs2 : ∀ x ∈ va :: st, inB x := fun x hx => (List.mem_cons.mp hx).elim (fun q => by rw [q]; exact hva) (hs x)
  have k2 := hb (va :: st) (by rw [List.length_cons]; omega) hs2
  have hs3 : ∀ x ∈ vb :: va :: st, inB x := fun x hx => (List.mem_cons.mp hx).elim (fun q => by rw [q]; exact hvb) (hs2 x)
  have e1 : evL e (a ++ (b ++ [t])) st = wk2 (kC t) va vb :: st := by
    rw [evL_app, k1.2, evL_app, k2.2]
    show ev1 e t (vb :: va :: st) = _
    exact ev_two h3
  refine ⟨okRn_app _ _ _ k1.1 (by rw [k1.2]; refine okRn_app _ _ _ k2.1 (by rw [k2.2]; refine ⟨⟨hs3, ?_⟩, trivial⟩; rw [if_neg h2.1, if_neg h2.2.1, if_neg h2.2.2]; exact ⟨vb, va, st, rfl, ht⟩)), e1⟩
theorem clPQ {e : Int → Int} {M : Int} (he : ∀ j, inB (e j)) : clP (pP e M) (qP e M) := by
  refine ⟨fun t ht => ?_, fun a b t ha hb ht => ?_, fun a b t ha hb ht => ?_, fun a ha => ?_, fun a b t ha hb ht => ?_⟩
  · have hk := kC_opd ht
    have ho : opN [t] = 1 := by
      show isO t + 0 = 1
      unfold isO
      rw [if_pos (by omega)]
      rfl
    refine ⟨by rw [ho]; omega, by rw [ho]; simp, ?_⟩
    rw [ho]
    rcases hk with ⟨k0, k1⟩ | ⟨k0, k1⟩
    · refine ⟨t, by unfold inB; omega, fun st hm hs => ⟨⟨⟨hs, ?_⟩, trivial⟩, ?_⟩⟩
      · rw [if_pos k0]; exact ⟨k1.1, k1.2, by omega⟩
      · show ev1 e t st = _
        unfold ev1
        rw [if_pos k0]
    · refine ⟨e (kV t), he _, fun st hm hs => ⟨⟨⟨hs, ?_⟩, trivial⟩, ?_⟩⟩
      · rw [if_neg (by omega), if_pos k0]; exact ⟨k1, by omega⟩
      · show ev1 e t st = _
        unfold ev1
        rw [if_neg (by omega), if_pos k0]
  · obtain ⟨a1, a2, va, a3, a4⟩ := ha
    obtain ⟨b1, b2, vb, b3, b4⟩ := hb
    have h := two_P (Or.inl ht) a1 a2 a3 a4 b1 b2 b3 b4
    rw [List.append_assoc]
    exact ⟨h.1, h.2.1, _, wk2_in _ _ _, h.2.2⟩
  · obtain ⟨a1, a2, va, a3, a4⟩ := ha
    obtain ⟨b1, b2, vb, b3, b4⟩ := hb
    have h := two_P (Or.inr (Or.inl ht)) a1 a2 a3 a4 b1 b2 b3 b4
    refine ⟨h.1, h.2.1, _, ?_, h.2.2⟩
    unfold isCmT at ht
    rcases ht with rfl | rfl | rfl <;> (unfold wk2 kC; simp; omega)
  · obtain ⟨a1, a2, va, a3, a4⟩ := ha
    have ho : opN [-33] = 0 := by decide
    rw [← List.append_nil a] at a1 a2 a4
    rw [List.append_nil] at a1 a2 a4
    refine ⟨by rw [opN_app, ho]; omega, by rw [opN_app, ho, List.length_append, List.length_singleton]; omega, 1 - va, by omega, fun st hm hs => ?_⟩
    rw [opN_app, ho] at hm
    have k1 := a4 st (by omega) hs
    have hs2 : ∀ x ∈ va :: st, inB x := fun x hx => (List.mem_cons.mp hx).elim (fun q => by rw [q]; exact in01 a3) (hs x)
    refine ⟨okRn_app _ _ _ k1.1 (by rw [k1.2]; exact ⟨⟨hs2, by rw [if_neg (by decide), if_neg (by decide), if_pos (by decide)]; exact ⟨rfl, va, st, rfl, a3⟩⟩, trivial⟩), ?_⟩
    rw [evL_app, k1.2]
    show ev1 e (-33) (va :: st) = _
    unfold ev1
    rw [if_neg (by decide), if_neg (by decide), if_pos (by decide)]
  · obtain ⟨a1, a2, va, a3, a4⟩ := ha
    obtain ⟨b1, b2, vb, b3, b4⟩ := hb
    have h := two_P (Or.inr (Or.inr ⟨ht, a3, b3⟩)) a1 a2 (in01 a3) a4 b1 b2 (in01 b3) b4
    rw [List.append_assoc]
    refine ⟨h.1, h.2.1, _, ?_, h.2.2⟩
    unfold isLoT at ht
    rcases ht with rfl | rfl <;> rcases a3 with rfl | rfl <;> rcases b3 with rfl | rfl <;> decide
/-- WORTH of a law's clauses -/
def hd0 (l : List Int) : Int := match l with
  | v :: _ => v
  | [] => 0
def wth (e : Int → Int) : List (List Int × List Int) → Int
  | [] => 0
  | p :: r => if p.1 = [] ∨ ¬ hd0 (evL e p.1 []) = 0 then hd0 (evL e p.2 []) else wth e r
/-- the letters: the DAY, it modulo 7, the METRONOME, the PLAYERS, DAMP of the DAY ahead -/
def envI (d mt pl o : Int) : Int → Int := fun j => if j = 0 then d else if j = 1 then d.tmod 7 else if j = 2 then mt else if j = 3 then pl else o
def dyN (cs : List (List Int × List Int)) (mt pl : Int) : Nat → Int
  | 0 => max 0 (min 9 (wth (envI 0 mt pl 0) cs))
  | d + 1 => max 0 (min 9 (wth (envI ((d : Int) + 1) mt pl (dyN cs mt pl d)) cs))
def dyI (cs : List (List Int × List Int)) (mt pl d : Int) : Int := dyN cs mt pl d.toNat
theorem dyI_0 {cs : List (List Int × List Int)} {mt pl : Int} : dyI cs mt pl 0 = max 0 (min 9 (wth (envI 0 mt pl 0) cs)) := rfl
theorem dyI_S {cs : List (List Int × List Int)} {mt pl d : Int} (h : 0 ≤ d) : dyI cs mt pl (d + 1) = max 0 (min 9 (wth (envI (d + 1) mt pl (dyI cs mt pl d)) cs)) := by
  unfold dyI
  rw [toNat_S h, dyN, toNat_c h]
theorem dyI_in {cs : List (List Int × List Int)} {mt pl : Int} : ∀ d : Int, 0 ≤ d → 0 ≤ dyI cs mt pl d ∧ dyI cs mt pl d ≤ 9 := by
  refine upI ?_ (fun d hd _ => ?_)
  · rw [dyI_0]; omega
  · rw [dyI_S hd]; omega
theorem envI_in {d mt pl o : Int} (hd : inB d) (hm : inB mt) (hp : inB pl) (ho : inB o) : ∀ j, inB (envI d mt pl o j) := by
  intro j
  unfold envI
  repeat' split
  · exact hd
  · have h1 := Int.tmod_lt_of_pos d (b := 7) (by decide)
    have h2 := Int.lt_tmod_of_pos d (b := 7) (by decide)
    unfold inB; omega
  · exact hm
  · exact hp
  · exact ho
/-- a law that was read -/
def okLaw (cs : List (List Int × List Int)) : Prop := ∀ P Q : List Int → Prop, clP P Q → ∀ p ∈ cs, gC P Q p
theorem okLaw_read {T : Int → Int} {n : Int} {cs : List (List Int × List Int)} (hn : n ≤ 160) (h0 : 0 ≤ n) (h : pLawLS T n 161 0 [] = .inr cs) : okLaw cs := fun P Q C => pLawLS_P C hn 161 0 [] (by omega) h0 (fun p hp => by cases hp) cs h
end pt_42eval2
/- 43.longs.lean.txt -/
section pt_43longs
/-! LONGS: numbers, contracts with longs among their arguments -/
def i64 (z : Int) : Int64 := Int64.ofInt z
abbrev inL (z : Int) : Prop := -9223372036854775808 ≤ z ∧ z ≤ 9223372036854775807
theorem i64_add (a b : Int) : i64 a + i64 b = i64 (a + b) := by simp [i64, Int64.ofInt_add]
theorem i64_sub (a b : Int) : i64 a - i64 b = i64 (a - b) := by simp [i64, Int64.ofInt_sub]
theorem i64_mul (a b : Int) : i64 a * i64 b = i64 (a * b) := by simp [i64, Int64.ofInt_mul]
theorem i64_toInt {z : Int} (h : inL z) : (i64 z).toInt = z := by
  have h1 := h.1
  have h2 := h.2
  unfold i64
  exact Int64.toInt_ofInt_of_le (by omega) (by omega)
theorem i64_inj {a b : Int} (ha : inL a) (hb : inL b) : i64 a = i64 b ↔ a = b := by
  constructor
  · intro h
    have h1 := congrArg Int64.toInt h
    rwa [i64_toInt ha, i64_toInt hb] at h1
  · intro h; rw [h]
theorem i64_lt {a b : Int} (ha : inL a) (hb : inL b) : i64 a < i64 b ↔ a < b := by
  rw [Int64.lt_iff_toInt_lt, i64_toInt ha, i64_toInt hb]
theorem i64_div {a b : Int} (ha : inL a) (hb : inL b) : i64 a / i64 b = i64 (a.tdiv b) := by
  have h : (i64 a / i64 b).toInt = (i64 (a.tdiv b)).toInt := by
    rw [Int64.toInt_div, i64_toInt ha, i64_toInt hb]
    unfold i64
    rw [Int64.toInt_ofInt]
  exact Int64.toInt_inj.mp h
theorem inR_L {z : Int} (h : inR z) : inL z := ⟨by have := h.1; omega, by have := h.2; omega⟩
theorem i64_32 {z : Int} (h : inR z) : (i32 z).toInt64 = i64 z := by
  apply Int64.toInt_inj.mp
  rw [Int32.toInt_toInt64, i32_toInt h, i64_toInt (inR_L h)]
theorem i64_to32 {z : Int} (h : inR z) : (i64 z).toInt32 = i32 z := by
  apply Int32.toInt_inj.mp
  rw [Int64.toInt_toInt32, i64_toInt (inR_L h), ← Int32.toInt_ofInt]
  rfl
def cm3 (a b : Int) : Int := if b < a then 1 else if a = b then 0 else -1
theorem lg_cm3 {a b : Int} (ha : inL a) (hb : inL b) : lg_cmp (i64 a) (i64 b) = i32 (cm3 a b) := by
  unfold lg_cmp cm3
  by_cases h1 : b < a
  · rw [if_pos (show i64 a > i64 b from (i64_lt hb ha).mpr h1), if_pos h1]; rfl
  · rw [if_neg (show ¬ i64 a > i64 b from fun h => h1 ((i64_lt hb ha).mp h)), if_neg h1]
    by_cases h2 : a = b
    · rw [if_pos ((i64_inj ha hb).mpr h2), if_pos h2]; rfl
    · rw [if_neg (fun h => h2 ((i64_inj ha hb).mp h)), if_neg h2]; rfl
theorem cm3_r (a b : Int) : inR (cm3 a b) := by unfold cm3; (repeat' split) <;> constructor <;> decide
theorem cm3_0 {a b : Int} (h : i32 (cm3 a b) = 0) : a = b := by
  have h2 := (i32_inj (cm3_r a b) inR_0).mp (h.trans i32_0)
  unfold cm3 at h2
  (repeat' split at h2) <;> omega
theorem cm3_n {a b : Int} (h : ¬ i32 (cm3 a b) = 0) : ¬ a = b := by
  intro e
  apply h
  rw [e]
  unfold cm3
  rw [if_neg (by omega), if_pos rfl]
  rfl
theorem cm3_ge {a b : Int} (h : 0 ≤ i32 (cm3 a b)) : b ≤ a := by
  have h2 := (i32_le inR_0 (cm3_r a b)).mp (by rw [← i32_0]; exact h)
  unfold cm3 at h2
  (repeat' split at h2) <;> omega
theorem cm3_lt {a b : Int} (h : ¬ 0 ≤ i32 (cm3 a b)) : a < b := by
  have h2 : ¬ 0 ≤ cm3 a b := fun q => h (by rw [i32_0]; exact (i32_le inR_0 (cm3_r a b)).mpr q)
  unfold cm3 at h2
  (repeat' split at h2) <;> omega
theorem cm3_le {a b : Int} (h : i32 (cm3 a b) ≤ 0) : a ≤ b := by
  have h2 := (i32_le (cm3_r a b) inR_0).mp (by rw [← i32_0]; exact h)
  unfold cm3 at h2
  (repeat' split at h2) <;> omega
theorem cm3_gt {a b : Int} (h : ¬ i32 (cm3 a b) ≤ 0) : b < a := by
  have h2 : ¬ cm3 a b ≤ 0 := fun q => h (by rw [i32_0]; exact (i32_le (cm3_r a b) inR_0).mpr q)
  unfold cm3 at h2
  (repeat' split at h2) <;> omega
theorem lmin_64 {a b : Int} (ha : inL a) (hb : inL b) : (if i64 b < i64 a then i64 b else i64 a) = i64 (min a b) := by
  by_cases q : b < a
  · rw [if_pos ((i64_lt hb ha).mpr q), show min a b = b by omega]
  · rw [if_neg (fun h => q ((i64_lt hb ha).mp h)), show min a b = a by omega]
theorem lmax_64 {a b : Int} (ha : inL a) (hb : inL b) : (if i64 b < i64 a then i64 a else i64 b) = i64 (max a b) := by
  by_cases q : b < a
  · rw [if_pos ((i64_lt hb ha).mpr q), show max a b = a by omega]
  · rw [if_neg (fun h => q ((i64_lt hb ha).mp h)), show max a b = b by omega]
def PcL (D : va_G) (G : GG) (vals : List Value) (sz : Nat) : Array Value → State → Prop := va_Pc vals (fun U => U.heap.size = sz ∧ va_P D vwCl (tW G []) U.heap ∧ va_K D vwCl (tyG G) U ∧ va_D (fun _ => True) (tW G []) ∧ Ev (va_A (tW G []) sz) U U.heap)
def AMl (l : Launch) (y : MethodName) (b : ByteArray) (n : Nat) (ret : FieldType) (d : Nat) (vals : List Value) (Post : Int → EW → Prop) : Prop :=
  ∀ (D : va_G) (G : GG) (sz : Nat), Met l y (.code y b n (some ret) :: uw) (rmD d 0 0) (PcL D G vals sz) (QcI D G (va_A (tW G []) sz) Post) 0 0 (va_A (tW G []) sz)
section SL
variable {l : Launch} {y : MethodName} {b : ByteArray} {n d : Nat} {vals : List Value}
theorem AMl.of {ret : FieldType} {Post : Int → EW → Prop} (hy : plainName y.cls = true) (hn : (lg_sl vals).length ≤ n)
    (body : ∀ (D : va_G) (G : GG) (A : Nat → Prop) (p : Program) (e : Env) (s : State) (m : MethodId) (args : Array Value) (below : List Frame) (meth : Method) (c : Code), Cx p s m args meth c D G A b n (some ret) y.cls → ∀ (H : Heap) (locs : List Loc) (ls : Array Slot), va_P D vwCl (tW G []) H → va_D A (tW G []) → va_S A s.heap H locs → lv_has ls n (lv_args 0 vals) →
      W p l e (rmD d 0 0) s m args below meth c H locs 0 0 (MQ below (QcI D G A Post) args s 0 0 A) (F0 m 0 ls [])) : AMl l y b n ret d vals Post := by
  intro D G sz
  refine Met.ofW (cc := b) (maxL := n) (ret := some ret) hy rfl ?_
  intro p e s m args below meth c s₁ B hml hv
  obtain ⟨rfl, hsz, hP, hK, hD0, hE⟩ := hv
  have hts := atoms_spec (ws := Cond.code y b n (some ret) :: uw) B.pre
  have hown : s.vm.findClass y.cls = some m.cls := findClass_of_methodNamed B.named
  subst hsz
  have X : Cx p s m (vals.toArray) meth c D G (va_A (tW G []) s.heap.size) b n (some ret) y.cls := ⟨B.exec, B.bytes, hml, hown, fun w h => hts w (List.mem_cons_of_mem _ h), hK, fun q h => Or.inr h, hE, B.returns, B.notSynchronized⟩
  rw [lg_entry_eq]
  exact body D G _ p e s m _ below meth c X s.heap [] _ hP hD0.self va_S.rf (lv_entry vals hn)
end SL
section SLC
variable {p : Program} {l : Launch} {e : Env} {R : Room} {s : State} {m : MethodId} {args : Array Value} {below : List Frame} {meth : Method} {c : Code} {Q : State → Prop} {D : va_G} {G : GG} {A : Nat → Prop} {cc : ByteArray} {nL cells slots pc : Nat} {rt : Option FieldType} {own : String} {L : Nat → Option AV} {st : List AV} {ws : EW} {H : Heap} {locs : List Loc} {ls : Array Slot}
theorem pcL_blind {sz : Nat} {vals : List Value} : FrameBlind (PcL D G vals sz) := by
  intro a U g mk q
  obtain ⟨q0, q1, qP, qK, qD, qE⟩ := q
  exact ⟨q0, q1, qP, va_K.moved (u := U) (U := U.calling g mk a) (Vm.Alike.refl U.vm) qK, qD, Ev.same qE rfl⟩
theorem pcL_ok (X : Cx p s m args meth c D G A cc nL rt own) {vals : List Value} (hP : va_P D vwCl (tW G ws) H) (hD : va_D A (tW G ws)) (hS : va_S A s.heap H locs) (U : State) (hU : U.heap = H) (hW : s.WarmedH U.vm) : PcL D G vals H.size vals.toArray U := by
  have h := pcA_ok (av := []) (wc := []) (is := []) X hP hD hS rfl rfl U hU hW
  exact ⟨rfl, h.2⟩
/-- a static method of the class called with longs: nothing changes but the stack -/
theorem W_callL (X : Cx p s m args meth c D G A cc nL rt own) {idx k n d : Nat} {y : MethodName} {b : ByteArray} {ret : FieldType} {vals rest : List Value} {Post : Int → EW → Prop} (K : LkS own idx y b n (some ret) k) (hM : AMl l y b n ret d vals Post) (hk : vals.length = k) {sk : List Value} (hst : sk = vals.reverse ++ rest) (h8 : (rest.map fun v => v.category).sum ≤ 8) (hR : d + 1 ≤ R.frames ∧ 8 + (n + 11) + 40 * d ≤ R.locals) (hcs : cells + 0 ≤ R.cells ∧ slots + 0 ≤ R.slots) (hdg : decode cc pc = .ok (.invokestatic idx, 3)) (hu : ∀ z u, Post z u → u = [])
    (hP : va_P D vwCl (tW G ws) H) (hD : va_D A (tW G ws)) (hS : va_S A s.heap H locs) (hls : ls.size = nL)
    (kk : ∀ (z : Int) (H1 : Heap) (locs1 : List Loc), Post z [] → va_P D vwCl (tW G ws) H1 → va_D A (tW G ws) → va_S A s.heap H1 locs1 → W p l e R s m args below meth c H1 locs1 cells slots Q (F0 m (pc + 3) ls (.int (i32 z) :: rest))) : W p l e R s m args below meth c H locs cells slots Q (F0 m pc ls sk) := by
  have hF := va_free (wc := tW G []) hD hS X.2.2.2.2.2.2.1 [] rfl
  obtain ⟨⟨k1, k2, k3, k5⟩, k6⟩ := K
  refine va_calli (va_runS (n := k) (cx_fix X) (hM D G H.size) (va_cwS k X.2.2.2.2.1 (uw_goods (fun w hw => by
        rcases List.mem_append.mp hw with h | h
        · simp only [List.mem_cons, List.not_mem_nil, or_false] at h
          rcases h with rfl | rfl | rfl <;> assumption
        · exact (uw_cons k5 w h).1)) rfl rfl rfl k6 hR) ⟨pcL_blind, fun U hU hW => pcL_ok X hP hD hS U hU hW⟩ rfl hk hls hst (by show 2 * 0 + _ ≤ 8; omega) hdg hcs) hS (fun q _ h => hF q h) hF (fun r u t H1 locs1 ht hvm hw hB hz1 hk1 hS1 => ?_)
  obtain ⟨z, rfl, hp⟩ := hw
  obtain ⟨hP1, hK1, hD1⟩ := hB
  have hu0 := hu z u hp
  subst hu0
  rw [ht] at hP1
  obtain ⟨hP2, hD2⟩ := va_putC (is := []) (wc := []) (u := []) hP hD rfl rfl hk1 hP1
  have e1 : putC ws [] [] = ws := List.append_nil ws
  rw [e1] at hP2 hD2
  exact kk z H1 locs1 hp hP2 hD2 hS1
theorem LH.none {ls : Array Slot} {nL : Nat} {lv : List (Nat × Value)} (h : lv_has ls nL lv) : LH ls nL (fun _ => none) := ⟨h.1, h.2.1, fun i v h => by cases h⟩
theorem W_minL (X : Cx p s m args meth c D G A cc nL rt own) {idx k : Nat} {y : MethodName} {b : ByteArray} (K : LkS own idx y b 4 (some .long) k) (hy : y = Lib.MathLoose.min_long.x) (hb : b = Lib.MathLoose.min_long.code) {x z : Int} {rest : List Value} (hx : inL x) (hz : inL z) (hls : ls.size = nL) (h1 : 1 ≤ R.frames) (h2 : (rest.map fun v => v.category).sum + 15 ≤ R.locals) (h3 : cells ≤ R.cells) (h4 : slots ≤ R.slots) (hdg : decode cc pc = .ok (.invokestatic idx, 3)) (kk : W p l e R s m args below meth c H locs cells slots Q (F0 m (pc + 3) ls (.long (i64 (min x z)) :: rest))) : W p l e R s m args below meth c H locs cells slots Q (F0 m pc ls (.long (i64 z) :: .long (i64 x) :: rest)) := by
  obtain ⟨⟨k1, k2, k3, k4⟩, -⟩ := K
  subst hy; subst hb
  have hts := X.2.2.2.2.1
  refine va_mmin_long X.1 X.2.1 (by rw [X.2.2.1]; exact hls.symm) X.2.2.2.1 (hts _ k1) (hts _ k2) (hts _ k3) (hts _ k4) h1 h2 h3 h4 hdg ?_
  rw [lmin_64 hx hz]
  exact kk
theorem W_maxL (X : Cx p s m args meth c D G A cc nL rt own) {idx k : Nat} {y : MethodName} {b : ByteArray} (K : LkS own idx y b 4 (some .long) k) (hy : y = Lib.MathLoose.max_long.x) (hb : b = Lib.MathLoose.max_long.code) {x z : Int} {rest : List Value} (hx : inL x) (hz : inL z) (hls : ls.size = nL) (h1 : 1 ≤ R.frames) (h2 : (rest.map fun v => v.category).sum + 15 ≤ R.locals) (h3 : cells ≤ R.cells) (h4 : slots ≤ R.slots) (hdg : decode cc pc = .ok (.invokestatic idx, 3)) (kk : W p l e R s m args below meth c H locs cells slots Q (F0 m (pc + 3) ls (.long (i64 (max x z)) :: rest))) : W p l e R s m args below meth c H locs cells slots Q (F0 m pc ls (.long (i64 z) :: .long (i64 x) :: rest)) := by
  obtain ⟨⟨k1, k2, k3, k4⟩, -⟩ := K
  subst hy; subst hb
  have hts := X.2.2.2.2.1
  refine va_mmax_long X.1 X.2.1 (by rw [X.2.2.1]; exact hls.symm) X.2.2.2.1 (hts _ k1) (hts _ k2) (hts _ k3) (hts _ k4) h1 h2 h3 h4 hdg ?_
  rw [lmax_64 hx hz]
  exact kk
end SLC
theorem bnd_mm (z : Int) : max (-1000000) (min 1000000 z) = bnd z := rfl
set_option maxHeartbeats 4000000 in
set_option maxRecDepth 100000 in
theorem kX12_bounded (l : Launch) (z : Int) (hz : inL z) : AMl l yX12_bounded cX12_bounded 2 .int 1 [.long (i64 z)] (fun r u => r = bnd z ∧ u = []) := by
  refine AMl.of rfl (nle rfl) ?_
  intro D G A p e s m args below meth c X H locs ls hP hD hS hl
  refine lv_ldc2 (v := i64 (-1000000)) X.1 X.2.1 X.2.2.2.1 (X.2.2.2.2.1 _ (by rw [show i64 (-1000000) = (-1000000 : Int64) from by decide]; exact m1489)) dX12_bounded_0 ?_
  refine lv_ldc2 (v := i64 1000000) X.1 X.2.1 X.2.2.2.1 (X.2.2.2.2.1 _ (by rw [show i64 1000000 = (1000000 : Int64) from by decide]; exact m1490)) dX12_bounded_3 ?_
  refine lv_lload_n X.1 X.2.1 dX12_bounded_6 rfl (lv_at hl 0 rfl) ?_
  refine W_minL X lkX12_195 rfl rfl (by decide) hz hl.1 (nle rfl) (by show 2 + 15 ≤ 40 * 1; omega) (nle rfl) (nle rfl) dX12_bounded_7 ?_
  refine W_maxL X lkX12_201 rfl rfl (by decide) ⟨by omega, by omega⟩ hl.1 (nle rfl) (by show 0 + 15 ≤ 40 * 1; omega) (nle rfl) (nle rfl) dX12_bounded_10 ?_
  rw [bnd_mm]
  have hb := bnd_in z
  unfold inB at hb
  refine lv_l2i (v := i32 (bnd z)) X.1 X.2.1 dX12_bounded_13 (i64_to32 ⟨by omega, by omega⟩) ?_
  exact S_iret (L := fun _ => none) (ws := []) X (nle rfl) (nle rfl) dX12_bounded_14 ⟨rfl, rfl⟩ H locs ls hP hD hS (LH.none hl)
end pt_43longs
/- 44.rwork.lean.txt -/
section pt_44rwork
theorem abs_mul_L {a b : Int} (ha : inR a) (hb : inR b) : (a * b).natAbs ≤ 4611686018427387904 := by
  rw [Int.natAbs_mul]
  have h1 : a.natAbs ≤ 2147483648 := by omega
  have h2 : b.natAbs ≤ 2147483648 := by omega
  exact Nat.mul_le_mul h1 h2
theorem mul_L {a b : Int} (ha : inR a) (hb : inR b) : inL (a * b) := by
  have := abs_mul_L ha hb
  constructor <;> omega
theorem tdiv_L {a b : Int} (ha : inR a) : inL (a.tdiv b) := by
  have h1 : (a.tdiv b).natAbs ≤ a.natAbs := by rw [Int.natAbs_tdiv]; exact Nat.div_le_self _ _
  constructor <;> omega
set_option maxHeartbeats 4000000 in
set_option maxRecDepth 100000 in
theorem kX12_worked (l : Launch) (k a b : Int) (hk : k = 2 ∨ k = 3 ∨ k = 4 ∨ k = 5 ∨ k = 6 ∨ k = 7 ∨ k = 8 ∨ k = 10 ∨ k = 11) (ha : inR a) (hb : inR b) : AMl l yX12_worked cX12_worked 5 .int 2 [.int (i32 k), .long (i64 a), .long (i64 b)] (fun r u => r = wk2 k a b ∧ u = []) := by
  refine AMl.of rfl (nle rfl) ?_
  intro D G A p e s m args below meth c X H locs ls hP hD hS hl
  have hal := inR_L ha
  have hbl := inR_L hb
  refine lv_iload_n X.1 X.2.1 dX12_worked_0 rfl (lv_at hl 0 rfl) ?_
  rcases hk with hk | hk | hk | hk | hk | hk | hk | hk | hk <;> subst hk
  · refine lv_tableIn (off := 51) (tgt := 52) X.1 X.2.1 dX12_worked_1 (by decide) (by decide) (by decide) (by decide) ?_
    refine lv_lload_n X.1 X.2.1 dX12_worked_52 rfl (lv_at hl 1 rfl) ?_
    refine lv_lload_n X.1 X.2.1 dX12_worked_53 rfl (lv_at hl 2 rfl) ?_
    refine lv_ladd X.1 X.2.1 dX12_worked_54 ?_
    rw [i64_add]
    refine W_callL (vals := [.long (i64 (a + b))]) (rest := []) X lkX12_204 (kX12_bounded l (a + b) ⟨by omega, by omega⟩) rfl rfl (by decide) ⟨nle rfl, nle rfl⟩ ⟨nle rfl, nle rfl⟩ dX12_worked_55 (fun z u h => h.2) hP hD hS hl.1 (fun z H1 locs1 hz hP1 hD1 hS1 => ?_)
    obtain ⟨rfl, -⟩ := hz
    exact S_iret (L := fun _ => none) (ws := []) X (nle rfl) (nle rfl) dX12_worked_58 ⟨rfl, rfl⟩ H1 locs1 ls hP1 hD1 hS1 (LH.none hl)
  · refine lv_tableIn (off := 58) (tgt := 59) X.1 X.2.1 dX12_worked_1 (by decide) (by decide) (by decide) (by decide) ?_
    refine lv_lload_n X.1 X.2.1 dX12_worked_59 rfl (lv_at hl 1 rfl) ?_
    refine lv_lload_n X.1 X.2.1 dX12_worked_60 rfl (lv_at hl 2 rfl) ?_
    refine lv_lsub X.1 X.2.1 dX12_worked_61 ?_
    rw [i64_sub]
    refine W_callL (vals := [.long (i64 (a - b))]) (rest := []) X lkX12_204 (kX12_bounded l (a - b) ⟨by omega, by omega⟩) rfl rfl (by decide) ⟨nle rfl, nle rfl⟩ ⟨nle rfl, nle rfl⟩ dX12_worked_62 (fun z u h => h.2) hP hD hS hl.1 (fun z H1 locs1 hz hP1 hD1 hS1 => ?_)
    obtain ⟨rfl, -⟩ := hz
    exact S_iret (L := fun _ => none) (ws := []) X (nle rfl) (nle rfl) dX12_worked_65 ⟨rfl, rfl⟩ H1 locs1 ls hP1 hD1 hS1 (LH.none hl)
  · refine lv_tableIn (off := 65) (tgt := 66) X.1 X.2.1 dX12_worked_1 (by decide) (by decide) (by decide) (by decide) ?_
    refine lv_lload_n X.1 X.2.1 dX12_worked_66 rfl (lv_at hl 1 rfl) ?_
    refine lv_lload_n X.1 X.2.1 dX12_worked_67 rfl (lv_at hl 2 rfl) ?_
    refine lv_lmul X.1 X.2.1 dX12_worked_68 ?_
    rw [i64_mul]
    refine W_callL (vals := [.long (i64 (a * b))]) (rest := []) X lkX12_204 (kX12_bounded l (a * b) (mul_L ha hb)) rfl rfl (by decide) ⟨nle rfl, nle rfl⟩ ⟨nle rfl, nle rfl⟩ dX12_worked_69 (fun z u h => h.2) hP hD hS hl.1 (fun z H1 locs1 hz hP1 hD1 hS1 => ?_)
    obtain ⟨rfl, -⟩ := hz
    exact S_iret (L := fun _ => none) (ws := []) X (nle rfl) (nle rfl) dX12_worked_72 ⟨rfl, rfl⟩ H1 locs1 ls hP1 hD1 hS1 (LH.none hl)
  · refine lv_tableIn (off := 72) (tgt := 73) X.1 X.2.1 dX12_worked_1 (by decide) (by decide) (by decide) (by decide) ?_
    refine lv_lload_n X.1 X.2.1 dX12_worked_73 rfl (lv_at hl 2 rfl) ?_
    refine lv_lconst (v := i64 0) X.1 X.2.1 dX12_worked_74 (by decide) ?_
    refine W.lcmp X.1 X.2.1 dX12_worked_75 ?_
    rw [lg_cm3 hbl ⟨by decide, by decide⟩]
    refine lv_if_ne (tgt := 83) X.1 X.2.1 dX12_worked_76 (by decide) (fun h => ?_) (fun h => ?_)
    · have h0 := cm3_n h
      refine lv_lload_n X.1 X.2.1 dX12_worked_83 rfl (lv_at hl 1 rfl) ?_
      refine lv_lload_n X.1 X.2.1 dX12_worked_84 rfl (lv_at hl 2 rfl) ?_
      refine lv_ldiv X.1 X.2.1 dX12_worked_85 (fun h => h0 ((i64_inj hbl ⟨by decide, by decide⟩).mp h)) ?_
      rw [i64_div hal hbl]
      refine W_callL (vals := [.long (i64 (a.tdiv b))]) (rest := []) X lkX12_204 (kX12_bounded l (a.tdiv b) (tdiv_L ha)) rfl rfl (by decide) ⟨nle rfl, nle rfl⟩ ⟨nle rfl, nle rfl⟩ dX12_worked_86 (fun z u h => h.2) hP hD hS hl.1 (fun z H1 locs1 hz hP1 hD1 hS1 => ?_)
      obtain ⟨rfl, -⟩ := hz
      exact S_iret (L := fun _ => none) (ws := []) X (nle rfl) (nle rfl) dX12_worked_89 ⟨by unfold wk2; rw [if_neg (by decide), if_neg (by decide), if_neg (by decide), if_pos rfl, if_neg h0], rfl⟩ H1 locs1 ls hP1 hD1 hS1 (LH.none hl)
    · have h0 := cm3_0 (by first | exact h | exact Decidable.not_not.mp h)
      refine lv_iconst X.1 X.2.1 dX12_worked_79 rfl ?_
      refine lv_goto (tgt := 89) X.1 X.2.1 dX12_worked_80 (by decide) ?_
      exact S_iret (L := fun _ => none) (z := 0) (ws := []) X (nle rfl) (nle rfl) dX12_worked_89 ⟨by unfold wk2; rw [if_neg (by decide), if_neg (by decide), if_neg (by decide), if_pos rfl, if_pos h0], rfl⟩ H locs ls hP hD hS (LH.none hl)
  · refine lv_tableIn (off := 89) (tgt := 90) X.1 X.2.1 dX12_worked_1 (by decide) (by decide) (by decide) (by decide) ?_
    refine lv_lload_n X.1 X.2.1 dX12_worked_90 rfl (lv_at hl 1 rfl) ?_
    refine lv_lload_n X.1 X.2.1 dX12_worked_91 rfl (lv_at hl 2 rfl) ?_
    refine W.lcmp X.1 X.2.1 dX12_worked_92 ?_
    rw [lg_cm3 hal hbl]
    refine lv_if_ne (tgt := 100) X.1 X.2.1 dX12_worked_93 (by decide) (fun h => ?_) (fun h => ?_)
    · have h0 := cm3_n h
      refine lv_iconst X.1 X.2.1 dX12_worked_100 rfl ?_
      exact S_iret (L := fun _ => none) (z := 0) (ws := []) X (nle rfl) (nle rfl) dX12_worked_101 ⟨by unfold wk2; rw [if_neg (by decide), if_neg (by decide), if_neg (by decide), if_neg (by decide),  if_pos rfl, if_neg (by omega)], rfl⟩ H locs ls hP hD hS (LH.none hl)
    · have h0 := cm3_0 (by first | exact h | exact Decidable.not_not.mp h)
      refine lv_iconst X.1 X.2.1 dX12_worked_96 rfl ?_
      refine lv_goto (tgt := 101) X.1 X.2.1 dX12_worked_97 (by decide) ?_
      exact S_iret (L := fun _ => none) (z := 1) (ws := []) X (nle rfl) (nle rfl) dX12_worked_101 ⟨by unfold wk2; rw [if_neg (by decide), if_neg (by decide), if_neg (by decide), if_neg (by decide),  if_pos rfl, if_pos (by omega)], rfl⟩ H locs ls hP hD hS (LH.none hl)
  · refine lv_tableIn (off := 101) (tgt := 102) X.1 X.2.1 dX12_worked_1 (by decide) (by decide) (by decide) (by decide) ?_
    refine lv_lload_n X.1 X.2.1 dX12_worked_102 rfl (lv_at hl 1 rfl) ?_
    refine lv_lload_n X.1 X.2.1 dX12_worked_103 rfl (lv_at hl 2 rfl) ?_
    refine W.lcmp X.1 X.2.1 dX12_worked_104 ?_
    rw [lg_cm3 hal hbl]
    refine lv_if_ge (tgt := 112) X.1 X.2.1 dX12_worked_105 (by decide) (fun h => ?_) (fun h => ?_)
    · have h0 := cm3_ge h
      refine lv_iconst X.1 X.2.1 dX12_worked_112 rfl ?_
      exact S_iret (L := fun _ => none) (z := 0) (ws := []) X (nle rfl) (nle rfl) dX12_worked_113 ⟨by unfold wk2; rw [if_neg (by decide), if_neg (by decide), if_neg (by decide), if_neg (by decide), if_neg (by decide),  if_pos rfl, if_neg (by omega)], rfl⟩ H locs ls hP hD hS (LH.none hl)
    · have h0 := cm3_lt h
      refine lv_iconst X.1 X.2.1 dX12_worked_108 rfl ?_
      refine lv_goto (tgt := 113) X.1 X.2.1 dX12_worked_109 (by decide) ?_
      exact S_iret (L := fun _ => none) (z := 1) (ws := []) X (nle rfl) (nle rfl) dX12_worked_113 ⟨by unfold wk2; rw [if_neg (by decide), if_neg (by decide), if_neg (by decide), if_neg (by decide), if_neg (by decide),  if_pos rfl, if_pos (by omega)], rfl⟩ H locs ls hP hD hS (LH.none hl)
  · refine lv_tableIn (off := 113) (tgt := 114) X.1 X.2.1 dX12_worked_1 (by decide) (by decide) (by decide) (by decide) ?_
    refine lv_lload_n X.1 X.2.1 dX12_worked_114 rfl (lv_at hl 1 rfl) ?_
    refine lv_lload_n X.1 X.2.1 dX12_worked_115 rfl (lv_at hl 2 rfl) ?_
    refine W.lcmp X.1 X.2.1 dX12_worked_116 ?_
    rw [lg_cm3 hal hbl]
    refine lv_if_le (tgt := 124) X.1 X.2.1 dX12_worked_117 (by decide) (fun h => ?_) (fun h => ?_)
    · have h0 := cm3_le h
      refine lv_iconst X.1 X.2.1 dX12_worked_124 rfl ?_
      exact S_iret (L := fun _ => none) (z := 0) (ws := []) X (nle rfl) (nle rfl) dX12_worked_125 ⟨by unfold wk2; rw [if_neg (by decide), if_neg (by decide), if_neg (by decide), if_neg (by decide), if_neg (by decide), if_neg (by decide),  if_pos rfl, if_neg (by omega)], rfl⟩ H locs ls hP hD hS (LH.none hl)
    · have h0 := cm3_gt h
      refine lv_iconst X.1 X.2.1 dX12_worked_120 rfl ?_
      refine lv_goto (tgt := 125) X.1 X.2.1 dX12_worked_121 (by decide) ?_
      exact S_iret (L := fun _ => none) (z := 1) (ws := []) X (nle rfl) (nle rfl) dX12_worked_125 ⟨by unfold wk2; rw [if_neg (by decide), if_neg (by decide), if_neg (by decide), if_neg (by decide), if_neg (by decide), if_neg (by decide),  if_pos rfl, if_pos (by omega)], rfl⟩ H locs ls hP hD hS (LH.none hl)
  · refine lv_tableIn (off := 125) (tgt := 126) X.1 X.2.1 dX12_worked_1 (by decide) (by decide) (by decide) (by decide) ?_
    refine lv_lload_n X.1 X.2.1 dX12_worked_126 rfl (lv_at hl 1 rfl) ?_
    refine lv_lconst (v := i64 0) X.1 X.2.1 dX12_worked_127 (by decide) ?_
    refine W.lcmp X.1 X.2.1 dX12_worked_128 ?_
    rw [lg_cm3 hal ⟨by decide, by decide⟩]
    refine lv_if_eq (tgt := 142) X.1 X.2.1 dX12_worked_129 (by decide) (fun h => ?_) (fun h => ?_)
    · have h0 := cm3_0 h
      refine lv_iconst X.1 X.2.1 dX12_worked_142 rfl ?_
      exact S_iret (L := fun _ => none) (z := 0) (ws := []) X (nle rfl) (nle rfl) dX12_worked_143 ⟨by unfold wk2; rw [if_neg (by decide), if_neg (by decide), if_neg (by decide), if_neg (by decide), if_neg (by decide), if_neg (by decide), if_neg (by decide), if_pos rfl, if_neg (by omega)], rfl⟩ H locs ls hP hD hS (LH.none hl)
    · have h0 := cm3_n h
      refine lv_lload_n X.1 X.2.1 dX12_worked_132 rfl (lv_at hl 2 rfl) ?_
      refine lv_lconst (v := i64 0) X.1 X.2.1 dX12_worked_133 (by decide) ?_
      refine W.lcmp X.1 X.2.1 dX12_worked_134 ?_
      rw [lg_cm3 hbl ⟨by decide, by decide⟩]
      refine lv_if_eq (tgt := 142) X.1 X.2.1 dX12_worked_135 (by decide) (fun g => ?_) (fun g => ?_)
      · have g0 := cm3_0 g
        refine lv_iconst X.1 X.2.1 dX12_worked_142 rfl ?_
        exact S_iret (L := fun _ => none) (z := 0) (ws := []) X (nle rfl) (nle rfl) dX12_worked_143 ⟨by unfold wk2; rw [if_neg (by decide), if_neg (by decide), if_neg (by decide), if_neg (by decide), if_neg (by decide), if_neg (by decide), if_neg (by decide), if_pos rfl, if_neg (by omega)], rfl⟩ H locs ls hP hD hS (LH.none hl)
      · have g0 := cm3_n g
        refine lv_iconst X.1 X.2.1 dX12_worked_138 rfl ?_
        refine lv_goto (tgt := 143) X.1 X.2.1 dX12_worked_139 (by decide) ?_
        exact S_iret (L := fun _ => none) (z := 1) (ws := []) X (nle rfl) (nle rfl) dX12_worked_143 ⟨by unfold wk2; rw [if_neg (by decide), if_neg (by decide), if_neg (by decide), if_neg (by decide), if_neg (by decide), if_neg (by decide), if_neg (by decide), if_pos rfl, if_pos (by omega)], rfl⟩ H locs ls hP hD hS (LH.none hl)
  · refine lv_tableOut (tgt := 144) X.1 X.2.1 dX12_worked_1 (by decide) (by decide) ?_
    refine lv_lload_n X.1 X.2.1 dX12_worked_144 rfl (lv_at hl 1 rfl) ?_
    refine lv_lconst (v := i64 0) X.1 X.2.1 dX12_worked_145 (by decide) ?_
    refine W.lcmp X.1 X.2.1 dX12_worked_146 ?_
    rw [lg_cm3 hal ⟨by decide, by decide⟩]
    refine lv_if_ne (tgt := 156) X.1 X.2.1 dX12_worked_147 (by decide) (fun h => ?_) (fun h => ?_)
    · have h0 := cm3_n h
      refine lv_iconst X.1 X.2.1 dX12_worked_156 rfl ?_
      refine lv_goto (tgt := 161) X.1 X.2.1 dX12_worked_157 (by decide) ?_
      exact S_iret (L := fun _ => none) (z := 1) (ws := []) X (nle rfl) (nle rfl) dX12_worked_161 ⟨by unfold wk2; rw [if_neg (by decide), if_neg (by decide), if_neg (by decide), if_neg (by decide), if_neg (by decide), if_neg (by decide), if_neg (by decide), if_neg (by decide), if_pos (by omega)], rfl⟩ H locs ls hP hD hS (LH.none hl)
    · have h0 := cm3_0 (by first | exact h | exact Decidable.not_not.mp h)
      refine lv_lload_n X.1 X.2.1 dX12_worked_150 rfl (lv_at hl 2 rfl) ?_
      refine lv_lconst (v := i64 0) X.1 X.2.1 dX12_worked_151 (by decide) ?_
      refine W.lcmp X.1 X.2.1 dX12_worked_152 ?_
      rw [lg_cm3 hbl ⟨by decide, by decide⟩]
      refine lv_if_eq (tgt := 160) X.1 X.2.1 dX12_worked_153 (by decide) (fun g => ?_) (fun g => ?_)
      · have g0 := cm3_0 g
        refine lv_iconst X.1 X.2.1 dX12_worked_160 rfl ?_
        exact S_iret (L := fun _ => none) (z := 0) (ws := []) X (nle rfl) (nle rfl) dX12_worked_161 ⟨by unfold wk2; rw [if_neg (by decide), if_neg (by decide), if_neg (by decide), if_neg (by decide), if_neg (by decide), if_neg (by decide), if_neg (by decide), if_neg (by decide), if_neg (by omega)], rfl⟩ H locs ls hP hD hS (LH.none hl)
      · have g0 := cm3_n g
        refine lv_iconst X.1 X.2.1 dX12_worked_156 rfl ?_
        refine lv_goto (tgt := 161) X.1 X.2.1 dX12_worked_157 (by decide) ?_
        exact S_iret (L := fun _ => none) (z := 1) (ws := []) X (nle rfl) (nle rfl) dX12_worked_161 ⟨by unfold wk2; rw [if_neg (by decide), if_neg (by decide), if_neg (by decide), if_neg (by decide), if_neg (by decide), if_neg (by decide), if_neg (by decide), if_neg (by decide), if_pos (by omega)], rfl⟩ H locs ls hP hD hS (LH.none hl)
end pt_44rwork
/- 45.rwk.lean.txt -/
section pt_45rwk
section WR
variable {p : Program} {l : Launch} {e : Env} {R : Room} {s : State} {m : MethodId} {args : Array Value} {below : List Frame} {meth : Method} {c : Code} {Q : State → Prop} {D : va_G} {G : GG} {A : Nat → Prop} {cc : ByteArray} {nL cells slots pc : Nat} {rt : Option FieldType} {own : String} {L : Nat → Option AV} {st : List AV} {ws : EW} {H : Heap} {locs : List Loc} {ls : Array Slot} {rest : List Value}
theorem W_get (X : Cx p s m args meth c D G A cc nL rt own) {index ci k : Nat} (F : FG own index ci k) (q0 : Nat) {a : Nat} {f : Nat → AV} {v : AV} (he : ws[q0]? = some (a, ob ci f)) (hv : f k = v) (hdg : decode cc pc = .ok (.getfield index, 3)) (hP : va_P D vwCl (tW G ws) H) (kk : W p l e R s m args below meth c H locs cells slots Q (F0 m (pc + 3) ls (tV v :: rest))) : W p l e R s m args below meth c H locs cells slots Q (F0 m pc ls (.ref a :: rest)) := by
  obtain ⟨C, T, N, ref, hc, hin, hk, hlk, hsame⟩ := F
  have hc2 := hc
  have hfs : ((List.range (nF ci)).map (fun k => tV (f k)))[k]? = some (tV v) := by rw [nF_of hc, ← hv]; exact tF_at hk
  exact va_get X.1 X.2.1 X.2.2.2.2.1 hin X.2.2.2.1 X.2.2.2.2.2.1 hP q0 (tW_at he) hc2 k hk (X.2.2.2.2.1 _ hlk) (hsame args s X.2.2.2.2.1) hfs hdg kk
theorem W_iald (X : Cx p s m args meth c D G A cc nL rt own) (q0 : Nat) {a n : Nat} {g : Int → Int} {z : Int} (ha : ws[q0]? = some (a, ar n g)) (h0 : 0 ≤ z) (h1 : z < n) (hn : n ≤ 2147483647) (hdg : decode cc pc = .ok (.iaload, 1)) (hP : va_P D vwCl (tW G ws) H) (kk : W p l e R s m args below meth c H locs cells slots Q (F0 m (pc + 1) ls (.int (i32 (g z)) :: rest))) : W p l e R s m args below meth c H locs cells slots Q (F0 m pc ls (.int (i32 z) :: .ref a :: rest)) := by
  refine va_iald X.1 X.2.1 X.2.2.2.2.2.1 hP q0 0 (tW_at ha) rfl (i32_vp h0 h1 hn) hdg ?_
  have e1 : i32 (g (((i32 z).toNatClampNeg : Nat) : Int)) = i32 (g z) := by
    rw [i32_nat h0 ⟨by omega, by omega⟩, Int.toNat_of_nonneg h0]
  show W p l e R s m args below meth c H locs cells slots Q (F0 m (pc + 1) ls (Value.int (i32 (g (((i32 z).toNatClampNeg : Nat) : Int))) :: _))
  rw [e1]
  exact kk
/-- two numbers of the stack taken as longs, and worked -/
theorem S_wk (X : Cx p s m args meth c D G A cX12_workOut 6 rt RX12) (qo qs : Nat) {o9 t9 : Nat} {f : Nat → AV} {g : Int → Int} {a k tp : Int} {rs : List AV} (hL0 : L 0 = some (rv o9)) (hL4 : L 4 = some (iv tp)) (ho : ws[qo]? = some (o9, ob 11 f)) (hf : f 16 = rv t9) (hs : ws[qs]? = some (t9, ar 80 g)) (htp : 0 ≤ tp ∧ tp < 80) (ha : inR a) (hg : inR (g tp)) (hk : k = 2 ∨ k = 3 ∨ k = 4 ∨ k = 5 ∨ k = 6 ∨ k = 7 ∨ k = 8 ∨ k = 10 ∨ k = 11) (h8 : rs.length ≤ 8) (hR : 3 ≤ R.frames ∧ 104 ≤ R.locals) (hcs : cells ≤ R.cells ∧ slots ≤ R.slots)
    (kk : S_ p l e R s m args below meth c Q D G A 6 cells slots 164 L (iv (wk2 k a (g tp)) :: rs) ws) : S_ p l e R s m args below meth c Q D G A 6 cells slots 152 L (iv a :: iv k :: rs) ws := by
  intro H locs ls hP hD hS hl
  refine lv_i2l (v := i64 a) X.1 X.2.1 dX12_workOut_152 (i64_32 ha) ?_
  refine lv_aload_n X.1 X.2.1 dX12_workOut_153 rfl (hl.2.2 _ _ hL0) ?_
  refine W_get X fgX12_37_11 qo ho hf dX12_workOut_154 hP ?_
  refine lv_iload X.1 X.2.1 dX12_workOut_157 (hl.2.2 _ _ hL4) ?_
  refine W_iald X qs hs htp.1 (by omega) (nle rfl) dX12_workOut_159 hP ?_
  refine lv_i2l (v := i64 (g tp)) X.1 X.2.1 dX12_workOut_160 (i64_32 hg) ?_
  refine W_callL (vals := [.int (i32 k), .long (i64 a), .long (i64 (g tp))]) (rest := rs.map tV) X lkX12_208 (kX12_worked l k a (g tp) hk ha hg) rfl rfl (by rw [catR]; exact h8) ⟨hR.1, hR.2⟩ hcs dX12_workOut_161 (fun z u h => h.2) hP hD hS hl.1 (fun z H1 locs1 hz hP1 hD1 hS1 => ?_)
  obtain ⟨rfl, -⟩ := hz
  exact kk H1 locs1 ls hP1 hD1 hS1 hl
end WR
end pt_45rwk
/- 46.rwo.lean.txt -/
section pt_46rwo
/-- signs laid out from a place on; numbers of a stack in a row, its top last -/
def tkA (C V : Int → Int) (x : Int) (ts : List Int) : Prop := ∀ (j : Nat) (t : Int), ts[j]? = some t → C (x + j) = kC t ∧ V (x + j) = kV t
def stk (S : Int → Int) : List Int → Prop
  | [] => True
  | x :: r => S (r.length : Int) = x ∧ stk S r
theorem tkA.hd {C V : Int → Int} {x t : Int} {ts : List Int} (h : tkA C V x (t :: ts)) : C x = kC t ∧ V x = kV t := by
  have := h 0 t rfl
  rwa [show x + ((0 : Nat) : Int) = x by omega] at this
theorem tkA.tl {C V : Int → Int} {x t : Int} {ts : List Int} (h : tkA C V x (t :: ts)) : tkA C V (x + 1) ts := by
  intro j u hu
  have := h (j + 1) u hu
  rwa [show x + ((j + 1 : Nat) : Int) = x + 1 + j by omega] at this
theorem stk_up {S : Int → Int} {v z : Int} : ∀ r : List Int, (r.length : Int) ≤ z → stk S r → stk (uZ S z v) r
  | [], _, _ => trivial
  | x :: r, hz, h => by
    rw [List.length_cons] at hz
    exact ⟨by rw [uZ_ne (by omega)]; exact h.1, stk_up r (by omega) h.2⟩
theorem stk_top {S : Int → Int} {v w z : Int} {r : List Int} (h : stk S r) (hz : z = (r.length : Int)) (hv : v = w) : stk (uZ S z v) (w :: r) :=
  ⟨by rw [← hz, uZ_at, hv], stk_up r (by omega) h⟩
theorem okAt_num {M t : Int} {st : List Int} (h : okAt M t st) (hk : kC t = 0) : 0 ≤ t ∧ t ≤ 9999 ∧ (st.length : Int) < M := by
  have h2 := h.2
  rw [if_pos hk] at h2
  exact h2
theorem okAt_let {M t : Int} {st : List Int} (h : okAt M t st) (hk : kC t = 1) : (0 ≤ kV t ∧ kV t ≤ 4) ∧ (st.length : Int) < M := by
  have h2 := h.2
  rw [if_neg (by omega), if_pos hk] at h2
  refine ⟨?_, h2.2⟩
  rcases h2.1 with rfl | rfl | rfl | rfl | rfl <;> decide
theorem okAt_not {M t : Int} {st : List Int} (h : okAt M t st) (hk : kC t = 9) : t = -33 ∧ ∃ a r, st = a :: r ∧ (a = 0 ∨ a = 1) := by
  have h2 := h.2
  rw [if_neg (by omega), if_neg (by omega), if_pos hk] at h2
  exact h2
theorem okAt_two {M t : Int} {st : List Int} (h : okAt M t st) (h0 : ¬ kC t = 0) (h1 : ¬ kC t = 1) (h9 : ¬ kC t = 9) : ∃ b a r, st = b :: a :: r ∧ (isArT t ∨ isCmT t ∨ (isLoT t ∧ (a = 0 ∨ a = 1) ∧ (b = 0 ∨ b = 1))) ∧ inB a ∧ inB b := by
  have h2 := h.2
  rw [if_neg h0, if_neg h1, if_neg h9] at h2
  obtain ⟨b, a, r, e, g⟩ := h2
  exact ⟨b, a, r, e, g, h.1 a (by rw [e]; simp), h.1 b (by rw [e]; simp)⟩
theorem kC_two {t : Int} {c : Prop} (h : isArT t ∨ isCmT t ∨ (isLoT t ∧ c)) : kC t = 2 ∨ kC t = 3 ∨ kC t = 4 ∨ kC t = 5 ∨ kC t = 6 ∨ kC t = 7 ∨ kC t = 8 ∨ kC t = 10 ∨ kC t = 11 := by
  unfold isArT isCmT isLoT at h
  rcases h with (h | h | h | h) | (h | h | h) | ⟨h | h, -⟩ <;> subst h <;> decide
theorem ev1_num {e : Int → Int} {t : Int} {st : List Int} (h : kC t = 0) : ev1 e t st = t :: st := by unfold ev1; rw [if_pos h]
theorem ev1_let {e : Int → Int} {t : Int} {st : List Int} (h : kC t = 1) : ev1 e t st = e (kV t) :: st := by unfold ev1; rw [if_neg (by omega), if_pos h]
theorem ev1_not {e : Int → Int} {t a : Int} {st : List Int} (h : kC t = 9) : ev1 e t (a :: st) = (1 - a) :: st := by unfold ev1; rw [if_neg (by omega), if_neg (by omega), if_pos h]
theorem ev1_two {e : Int → Int} {t a b : Int} {st : List Int} (h0 : ¬ kC t = 0) (h1 : ¬ kC t = 1) (h9 : ¬ kC t = 9) : ev1 e t (b :: a :: st) = wk2 (kC t) a b :: st := by unfold ev1; rw [if_neg h0, if_neg h1, if_neg h9]
theorem kV_num {t : Int} (h : 0 ≤ t) : kV t = t := by unfold kV; rw [if_pos h]
theorem kC_in (t : Int) : 0 ≤ kC t ∧ kC t ≤ 11 := by unfold kC; (repeat' split) <;> omega
theorem len_c {x : Int} {r : List Int} : (((x :: r).length : Nat) : Int) = (r.length : Int) + 1 := by rw [List.length_cons]; omega
set_option maxHeartbeats 4000000 in
set_option maxRecDepth 100000 in
theorem kX12_workOut (l : Launch) (h0 : Nat) (f : Nat → AV) (hC : Nat) (hV : Nat) (hle : Nat) (hst : Nat) (C : Int → Int) (V : Int → Int) (Le : Int → Int) (Sk : Int → Int) (n9 : Int) (fr : Int) (to : Int) (ts : List Int) (en : Int → Int) (v9 : Int) (hf0 : f 6 = rv hC) (hf1 : f 7 = rv hV) (hf2 : f 15 = rv hle) (hf3 : f 16 = rv hst) (hn9 : 0 ≤ n9 ∧ n9 ≤ 4) (hfr : 0 ≤ fr ∧ fr + (ts.length : Int) = to ∧ to ≤ 340) (hlet : ∀ j, 0 ≤ j → j ≤ 4 → Le j = en j) (htk0 : tkA C V (340 * n9 + fr) ts) (hok0 : okRn en 80 ts []) (hev0 : evL en ts [] = [v9]) (hiv : inB v9) : AMi l yX12_workOut cX12_workOut 6 .int 3 0 0 [rv h0, iv n9, iv fr, iv to] [(h0, ob 11 f), (hC, ar 1700 C), (hV, ar 1700 V), (hle, ar 5 Le), (hst, ar 80 Sk)] (fun z u => ∃ S2 : Int → Int, z = v9 ∧ u = [(h0, ob 11 f), (hC, ar 1700 C), (hV, ar 1700 V), (hle, ar 5 Le), (hst, ar 80 S2)]) := by
  refine AMi.of2 rfl (nle rfl) ?_
  intro D G A p e s m args below meth c Po hPo X
  refine S_iconst X dX12_workOut_0 ?_
  refine S_istore X dX12_workOut_1 (nle rfl) ?_
  refine S_sipush X dX12_workOut_3 rfl ?_
  refine S_iload_n X dX12_workOut_6 rfl rfl ?_
  refine S_imul X dX12_workOut_7 ?_
  refine S_iload_n X dX12_workOut_8 rfl rfl ?_
  refine S_iadd X dX12_workOut_9 ?_
  refine S_istore X dX12_workOut_10 (nle rfl) ?_
  have lp12_0 : ∀ (N : Nat) (k : Int) (tp : Int) (ts2 : List Int) (st : List Int) (Sv : Int → Int) (L : Nat → Option AV), 0 ≤ k ∧ k + (ts2.length : Int) = 340 * n9 + to → tkA C V k ts2 → okRn en 80 ts2 st → evL en ts2 st = [v9] → tp = (st.length : Int) → tp ≤ 80 → stk Sv st → L 0 = some (rv h0) → L 1 = some (iv n9) → L 2 = some (iv fr) → L 3 = some (iv to) → L 4 = some (iv tp) → L 5 = some (iv k) → 340 * n9 + to + 1 - k < (N : Int) → S_ p l e (rmD 3 0 0) s m args below meth c (MQ below (QcI D G A Po) args s 0 0 A) D G A 6 0 0 12 L [] [(h0, ob 11 f), (hC, ar 1700 C), (hV, ar 1700 V), (hle, ar 5 Le), (hst, ar 80 Sv)] := by
    intro N
    induction N with
    | zero =>
      intro k tp ts2 st Sv L12 hk htk hok hev htp htb hstk hL12_0 hL12_1 hL12_2 hL12_3 hL12_4 hL12_5 hN12
      exfalso; omega
    | succ N ih12 =>
      intro k tp ts2 st Sv L12 hk htk hok hev htp htb hstk hL12_0 hL12_1 hL12_2 hL12_3 hL12_4 hL12_5 hN12
      refine S_iload X dX12_workOut_12 hL12_5 ?_
      refine S_sipush X dX12_workOut_14 rfl ?_
      refine S_iload_n X dX12_workOut_17 rfl hL12_1 ?_
      refine S_imul X dX12_workOut_18 ?_
      refine S_iload_n X dX12_workOut_19 rfl hL12_3 ?_
      refine S_iadd X dX12_workOut_20 ?_
      refine S_icmp_ge (tgt := 171) X dX12_workOut_21 (by decide) (by omega) (by omega) (fun c_1 => ?_) (fun c_1 => ?_)
      ·
        refine S_aload_n X dX12_workOut_171 rfl hL12_0 ?_
        refine S_get X fgX12_37_11 0 rfl hf3 dX12_workOut_172 ?_
        refine S_iconst X dX12_workOut_175 ?_
        refine S_iald X 4 rfl (by omega) (by omega) (nle rfl) dX12_workOut_176 ?_
        exact S_iret X (nle rfl) (nle rfl) dX12_workOut_177 (hPo _ _ (⟨_, by
                have h9 : ts2 = [] := by
                  cases ts2 with
                  | nil => rfl
                  | cons a b => exfalso; have := len_c (x := a) (r := b); omega
                subst h9
                have h8 : st = [v9] := hev
                subst h8
                exact hstk.1, rfl⟩))
      ·
        obtain ⟨t, ts3, rfl⟩ : ∃ t ts3, ts2 = t :: ts3 := by
          cases ts2 with
          | nil => exfalso; simp only [List.length_nil] at hk; omega
          | cons t ts3 => exact ⟨t, ts3, rfl⟩
        have hcv := htk.hd
        have hln := len_c (x := t) (r := ts3)
        have hokt := hok.1
        have hcr := kC_in t
        refine S_aload_n X dX12_workOut_24 rfl hL12_0 ?_
        refine S_get X fgX12_13_11 0 rfl hf0 dX12_workOut_25 ?_
        refine S_iload X dX12_workOut_28 hL12_5 ?_
        refine S_iald X 1 rfl (by omega) (by omega) (nle rfl) dX12_workOut_30 ?_
        refine S_if_eq (tgt := 45) X dX12_workOut_31 (by decide) (by omega) (fun c_2 => ?_) (fun c_2 => ?_)
        ·
          have hn9 := okAt_num hokt (by omega)
          have hv9 := kV_num hn9.1
          refine S_aload_n X dX12_workOut_45 rfl hL12_0 ?_
          refine S_get X fgX12_37_11 0 rfl hf3 dX12_workOut_46 ?_
          refine S_iload X dX12_workOut_49 hL12_4 ?_
          refine S_aload_n X dX12_workOut_51 rfl hL12_0 ?_
          refine S_get X fgX12_13_11 0 rfl hf0 dX12_workOut_52 ?_
          refine S_iload X dX12_workOut_55 hL12_5 ?_
          refine S_iald X 1 rfl (by omega) (by omega) (nle rfl) dX12_workOut_57 ?_
          refine S_if_ne (tgt := 71) X dX12_workOut_58 (by decide) (by omega) (fun c_3 => by exfalso; omega) (fun c_3 => ?_)
          refine S_aload_n X dX12_workOut_61 rfl hL12_0 ?_
          refine S_get X fgX12_16_11 0 rfl hf1 dX12_workOut_62 ?_
          refine S_iload X dX12_workOut_65 hL12_5 ?_
          refine S_iald X 2 rfl (by omega) (by omega) (nle rfl) dX12_workOut_67 ?_
          refine S_goto (tgt := 83) X dX12_workOut_68 (by decide) ?_
          refine S_iast X 4 rfl (by omega) (by omega) (nle rfl) dX12_workOut_83 ?_
          refine S_w (ws' := [(h0, ob 11 f), (hC, ar 1700 C), (hV, ar 1700 V), (hle, ar 5 Le), (hst, ar 80 (uZ Sv tp (V k)))]) rfl ?_
          refine S_iinc X dX12_workOut_84 (nle rfl) hL12_4 ?_
          refine S_goto (tgt := 165) X dX12_workOut_87 (by decide) ?_
          refine S_iinc X dX12_workOut_165 (nle rfl) hL12_5 ?_
          refine S_goto (tgt := 12) X dX12_workOut_168 (by decide) ?_
          exact ih12 (k + 1) (tp + 1) _ _ (uZ Sv tp (V k)) _ (by omega) (htk.tl) (hok.2) (hev) (by rw [ev1_num (by omega), len_c]; omega) (by omega) (by rw [ev1_num (by omega)]; exact stk_top hstk htp (by omega)) hL12_0 hL12_1 hL12_2 hL12_3 rfl rfl (by omega)
        ·
          refine S_aload_n X dX12_workOut_34 rfl hL12_0 ?_
          refine S_get X fgX12_13_11 0 rfl hf0 dX12_workOut_35 ?_
          refine S_iload X dX12_workOut_38 hL12_5 ?_
          refine S_iald X 1 rfl (by omega) (by omega) (nle rfl) dX12_workOut_40 ?_
          refine S_iconst X dX12_workOut_41 ?_
          refine S_icmp_ne (tgt := 90) X dX12_workOut_42 (by decide) (by omega) (by decide) (fun c_4 => ?_) (fun c_4 => ?_)
          ·
            refine S_aload_n X dX12_workOut_90 rfl hL12_0 ?_
            refine S_get X fgX12_13_11 0 rfl hf0 dX12_workOut_91 ?_
            refine S_iload X dX12_workOut_94 hL12_5 ?_
            refine S_iald X 1 rfl (by omega) (by omega) (nle rfl) dX12_workOut_96 ?_
            refine S_bipush X dX12_workOut_97 rfl ?_
            refine S_icmp_ne (tgt := 125) X dX12_workOut_99 (by decide) (by omega) (by decide) (fun c_5 => ?_) (fun c_5 => ?_)
            ·
              obtain ⟨vb, va, r9, rfl, hty, hia, hib⟩ := okAt_two hokt (by omega) (by omega) (by omega)
              have hs0 := hstk.1
              have hs1 := hstk.2.1
              have hl9 := len_c (x := vb) (r := va :: r9)
              have hl8 := len_c (x := va) (r := r9)
              have hsb : Sv (tp + -1) = vb := by rw [show tp + -1 = ((va :: r9).length : Int) by omega]; exact hs0
              have hsa : Sv (tp + -1 - 1) = va := by rw [show tp + -1 - 1 = (r9.length : Int) by omega]; exact hs1
              have hkk := kC_two hty
              unfold inB at hia hib
              refine S_iinc X dX12_workOut_125 (nle rfl) hL12_4 ?_
              refine S_aload_n X dX12_workOut_128 rfl hL12_0 ?_
              refine S_get X fgX12_37_11 0 rfl hf3 dX12_workOut_129 ?_
              refine S_iload X dX12_workOut_132 rfl ?_
              refine S_iconst X dX12_workOut_134 ?_
              refine S_isub X dX12_workOut_135 ?_
              refine S_aload_n X dX12_workOut_136 rfl hL12_0 ?_
              refine S_get X fgX12_13_11 0 rfl hf0 dX12_workOut_137 ?_
              refine S_iload X dX12_workOut_140 hL12_5 ?_
              refine S_iald X 1 rfl (by omega) (by omega) (nle rfl) dX12_workOut_142 ?_
              refine S_aload_n X dX12_workOut_143 rfl hL12_0 ?_
              refine S_get X fgX12_37_11 0 rfl hf3 dX12_workOut_144 ?_
              refine S_iload X dX12_workOut_147 rfl ?_
              refine S_iconst X dX12_workOut_149 ?_
              refine S_isub X dX12_workOut_150 ?_
              refine S_iald X 4 rfl (by omega) (by omega) (nle rfl) dX12_workOut_151 ?_
              refine S_wk (a := (Sv ((tp + (-1)) - 1))) (k := (C k)) (tp := (tp + (-1))) X 0 4 hL12_0 rfl rfl hf3 rfl (by omega) (by omega) (by omega) (by omega) (nle rfl) ⟨nle rfl, nle rfl⟩ ⟨nle rfl, nle rfl⟩ ?_
              refine S_iast X 4 rfl (by omega) (by omega) (nle rfl) dX12_workOut_164 ?_
              refine S_w (ws' := [(h0, ob 11 f), (hC, ar 1700 C), (hV, ar 1700 V), (hle, ar 5 Le), (hst, ar 80 (uZ Sv ((tp + (-1)) - 1) (wk2 (C k) (Sv ((tp + (-1)) - 1)) (Sv (tp + (-1))))))]) rfl ?_
              refine S_iinc X dX12_workOut_165 (nle rfl) hL12_5 ?_
              refine S_goto (tgt := 12) X dX12_workOut_168 (by decide) ?_
              exact ih12 (k + 1) (tp + (-1)) _ _ (uZ Sv ((tp + (-1)) - 1) (wk2 (C k) (Sv ((tp + (-1)) - 1)) (Sv (tp + (-1))))) _ (by omega) (htk.tl) (hok.2) (hev) (by rw [ev1_two (by omega) (by omega) (by omega), len_c]; omega) (by omega) (by rw [ev1_two (by omega) (by omega) (by omega)]; exact stk_top hstk.2.2 (by omega) (by rw [hsa, hsb, hcv.1])) hL12_0 hL12_1 hL12_2 hL12_3 rfl rfl (by omega)
            ·
              obtain ⟨va, r9, rfl, h01⟩ := (okAt_not hokt (by omega)).2
              have hs0 := hstk.1
              have hl9 := len_c (x := va) (r := r9)
              have hsv : Sv (tp - 1) = va := by rw [show tp - 1 = (r9.length : Int) by omega]; exact hs0
              refine S_aload_n X dX12_workOut_102 rfl hL12_0 ?_
              refine S_get X fgX12_37_11 0 rfl hf3 dX12_workOut_103 ?_
              refine S_iload X dX12_workOut_106 hL12_4 ?_
              refine S_iconst X dX12_workOut_108 ?_
              refine S_isub X dX12_workOut_109 ?_
              refine S_iconst X dX12_workOut_110 ?_
              refine S_aload_n X dX12_workOut_111 rfl hL12_0 ?_
              refine S_get X fgX12_37_11 0 rfl hf3 dX12_workOut_112 ?_
              refine S_iload X dX12_workOut_115 hL12_4 ?_
              refine S_iconst X dX12_workOut_117 ?_
              refine S_isub X dX12_workOut_118 ?_
              refine S_iald X 4 rfl (by omega) (by omega) (nle rfl) dX12_workOut_119 ?_
              refine S_isub X dX12_workOut_120 ?_
              refine S_iast X 4 rfl (by omega) (by omega) (nle rfl) dX12_workOut_121 ?_
              refine S_w (ws' := [(h0, ob 11 f), (hC, ar 1700 C), (hV, ar 1700 V), (hle, ar 5 Le), (hst, ar 80 (uZ Sv (tp - 1) (1 - (Sv (tp - 1)))))]) rfl ?_
              refine S_goto (tgt := 165) X dX12_workOut_122 (by decide) ?_
              refine S_iinc X dX12_workOut_165 (nle rfl) hL12_5 ?_
              refine S_goto (tgt := 12) X dX12_workOut_168 (by decide) ?_
              exact ih12 (k + 1) tp _ _ (uZ Sv (tp - 1) (1 - (Sv (tp - 1)))) _ (by omega) (htk.tl) (hok.2) (hev) (by rw [ev1_not (by omega), len_c]; omega) (by omega) (by rw [ev1_not (by omega)]; exact stk_top hstk.2 (by omega) (by omega)) hL12_0 hL12_1 hL12_2 hL12_3 hL12_4 rfl (by omega)
          ·
            have hn9 := okAt_let hokt (by omega)
            have hle9 : Le (V k) = en (kV t) := by rw [hcv.2]; exact hlet (kV t) hn9.1.1 hn9.1.2
            refine S_aload_n X dX12_workOut_45 rfl hL12_0 ?_
            refine S_get X fgX12_37_11 0 rfl hf3 dX12_workOut_46 ?_
            refine S_iload X dX12_workOut_49 hL12_4 ?_
            refine S_aload_n X dX12_workOut_51 rfl hL12_0 ?_
            refine S_get X fgX12_13_11 0 rfl hf0 dX12_workOut_52 ?_
            refine S_iload X dX12_workOut_55 hL12_5 ?_
            refine S_iald X 1 rfl (by omega) (by omega) (nle rfl) dX12_workOut_57 ?_
            refine S_if_ne (tgt := 71) X dX12_workOut_58 (by decide) (by omega) (fun c_6 => ?_) (fun c_6 => by exfalso; omega)
            refine S_aload_n X dX12_workOut_71 rfl hL12_0 ?_
            refine S_get X fgX12_34_11 0 rfl hf2 dX12_workOut_72 ?_
            refine S_aload_n X dX12_workOut_75 rfl hL12_0 ?_
            refine S_get X fgX12_16_11 0 rfl hf1 dX12_workOut_76 ?_
            refine S_iload X dX12_workOut_79 hL12_5 ?_
            refine S_iald X 2 rfl (by omega) (by omega) (nle rfl) dX12_workOut_81 ?_
            refine S_iald X 3 rfl (by omega) (by omega) (nle rfl) dX12_workOut_82 ?_
            refine S_iast X 4 rfl (by omega) (by omega) (nle rfl) dX12_workOut_83 ?_
            refine S_w (ws' := [(h0, ob 11 f), (hC, ar 1700 C), (hV, ar 1700 V), (hle, ar 5 Le), (hst, ar 80 (uZ Sv tp (Le (V k))))]) rfl ?_
            refine S_iinc X dX12_workOut_84 (nle rfl) hL12_4 ?_
            refine S_goto (tgt := 165) X dX12_workOut_87 (by decide) ?_
            refine S_iinc X dX12_workOut_165 (nle rfl) hL12_5 ?_
            refine S_goto (tgt := 12) X dX12_workOut_168 (by decide) ?_
            exact ih12 (k + 1) (tp + 1) _ _ (uZ Sv tp (Le (V k))) _ (by omega) (htk.tl) (hok.2) (hev) (by rw [ev1_let (by omega), len_c]; omega) (by omega) (by rw [ev1_let (by omega)]; exact stk_top hstk htp hle9) hL12_0 hL12_1 hL12_2 hL12_3 rfl rfl (by omega)
  exact lp12_0 (Int.toNat (340 * n9 + to + 1 - ((340 * n9) + fr)) + 1) ((340 * n9) + fr) 0 _ _ Sk _ (by omega) (htk0) (hok0) (hev0) (rfl) (by omega) (trivial) rfl rfl rfl rfl rfl rfl (by omega)
end pt_46rwo
/- 47.rday.lean.txt -/
section pt_47rday
/-- a law's clauses laid out in the tables, from clause c on, from sign o on -/
def lwA (C V Tf Sf Ef : Int → Int) (x : Int) : Int → Int → List (List Int × List Int) → Prop
  | _, _, [] => True
  | c, o, p :: r => Tf c = o ∧ Sf c = o + (p.1.length : Int) ∧ Ef c = o + (p.1.length : Int) + (p.2.length : Int) ∧ tkA C V (x + o) p.1 ∧ tkA C V (x + (o + (p.1.length : Int))) p.2 ∧ lwA C V Tf Sf Ef x (c + 1) (o + (p.1.length : Int) + (p.2.length : Int)) r
def lawAt (C V Lk Tf Sf Ef : Int → Int) (i : Int) (cs : List (List Int × List Int)) : Prop := Lk i = (cs.length : Int) ∧ ((codesOf cs).length : Int) ≤ 160 ∧ 2 * (cs.length : Int) ≤ 160 ∧ lwA C V Tf Sf Ef (340 * i) (90 * i) 0 cs ∧ okLaw cs
theorem pP_run {e : Int → Int} {ts : List Int} (h : pP e 80 ts) (hl : (ts.length : Int) ≤ 160) : ∃ v, inB v ∧ okRn e 80 ts [] ∧ evL e ts [] = [v] := by
  obtain ⟨h1, h2, v, h3, h4⟩ := h
  have := h4 [] (by rw [List.length_nil]; omega) (fun x hx => by cases hx)
  exact ⟨v, h3, this.1, this.2⟩
theorem qP_run {e : Int → Int} {ts : List Int} (h : qP e 80 ts) (hl : (ts.length : Int) ≤ 160) : ∃ v, inB v ∧ okRn e 80 ts [] ∧ evL e ts [] = [v] := by
  obtain ⟨h1, h2, v, h3, h4⟩ := h
  have := h4 [] (by rw [List.length_nil]; omega) (fun x hx => by cases hx)
  exact ⟨v, in01 h3, this.1, this.2⟩
theorem wth_one {e : Int → Int} {p : List Int × List Int} {r : List (List Int × List Int)} {v : Int} (h : p.1 = [] ∨ ∃ u, evL e p.1 [] = [u] ∧ ¬ u = 0) (hv : evL e p.2 [] = [v]) : wth e (p :: r) = v := by
  rw [wth, hv]
  rw [if_pos]
  · rfl
  · rcases h with h | ⟨u, h, h0⟩
    · exact Or.inl h
    · exact Or.inr (by rw [h]; exact h0)
theorem wth_go {e : Int → Int} {p : List Int × List Int} {r : List (List Int × List Int)} {u : Int} (h0 : ¬ p.1 = []) (h : evL e p.1 [] = [u]) (hu : u = 0) : wth e (p :: r) = wth e r := by
  rw [wth, if_neg]
  intro q
  rcases q with q | q
  · exact h0 q
  · apply q; rw [h]; exact hu
theorem nil_len {α : Type} {l : List α} (h : (l.length : Int) = 0) : l = [] := List.length_eq_zero_iff.mp (by omega)
def aDy (ho : Int) (cs : List (List Int × List Int)) (mt pl d : Int) : Int := if ho = -1 then 0 else dyI cs mt pl d
def aDamp (ho : Int) (cs : List (List Int × List Int)) (mt pl d : Int) : Int := if 1 ≤ pl ∧ 0 ≤ d ∧ d ≤ 999 then aDy ho cs mt pl d else -1
theorem aDy_in {ho : Int} {cs : List (List Int × List Int)} {mt pl d : Int} (h : 0 ≤ d) : 0 ≤ aDy ho cs mt pl d ∧ aDy ho cs mt pl d ≤ 9 := by
  unfold aDy
  split
  · omega
  · exact dyI_in d h
theorem let_env {Le : Int → Int} {d mt pl v : Int} : ∀ j, 0 ≤ j → j ≤ 4 → uZ (uZ (uZ (uZ (uZ Le 0 d) 1 (d.tmod 7)) 2 mt) 3 pl) 4 v j = envI d mt pl v j := by
  intro j h0 h1
  unfold uZ envI
  (repeat' split) <;> first | rfl | omega
theorem inB_of {x : Int} (h : -1000000 ≤ x ∧ x ≤ 1000000) : inB x := h
theorem lenC {p : List Int × List Int} {r : List (List Int × List Int)} : (((p :: r).length : Nat) : Int) = (r.length : Int) + 1 := by rw [List.length_cons]; omega
theorem wth_in {e : Int → Int} (he : ∀ j, inB (e j)) : ∀ cs : List (List Int × List Int), (∀ p ∈ cs, gC (pP e 80) (qP e 80) p) → ((codesOf cs).length : Int) ≤ 160 → inB (wth e cs)
  | [], _, _ => by unfold wth inB; omega
  | p :: r, h, hl => by
    have h1 := codesOf_c (l := r) (p := p)
    obtain ⟨v, hv, -, hv2⟩ := pP_run (h p (by simp)).2 (by omega)
    rw [wth]
    split
    · rw [hv2]; exact hv
    · exact wth_in he r (fun q hq => h q (by simp [hq])) (by omega)
/-! a DAY -/
def drF (kd dr days sm b : Int) : Int := max 1 (min 199 (if kd.tmod 2 = 0 then b + dr * (if kd < 2 then days else sm) else b - dr * (if kd < 2 then days else sm)))
def paF (Kd Dr : Int → Int) (mt at9 wet pl : Int) (B : Int → Int) : Int → Int := fun p => if 0 ≤ p ∧ p < pl then (if p = at9 then mt else drF (Kd p) (Dr p) 1 wet (B p)) else B p
def okDy (pl mt : Int) (Kd Dr : Int → Int) : Prop := 1 ≤ mt ∧ mt ≤ 99 ∧ ∀ p, 0 ≤ p → p < pl → (0 ≤ Kd p ∧ Kd p ≤ 3) ∧ (0 ≤ Dr p ∧ Dr p ≤ 9)
theorem drF_in (kd dr days sm b : Int) : 1 ≤ drF kd dr days sm b ∧ drF kd dr days sm b ≤ 199 := by unfold drF; omega
theorem paF_in {Kd Dr B : Int → Int} {mt at9 wet pl p : Int} (hm : 1 ≤ mt ∧ mt ≤ 99) (h0 : 0 ≤ p) (h1 : p < pl) : 1 ≤ paF Kd Dr mt at9 wet pl B p ∧ paF Kd Dr mt at9 wet pl B p ≤ 199 := by
  unfold paF
  rw [if_pos ⟨h0, h1⟩]
  split
  · omega
  · exact drF_in _ _ _ _ _
theorem okS.pa {pl n ec mt at9 wet : Int} {Fo Ho B0 Lt Kd Dr : Int → Int} (h : okS pl n ec Fo Ho B0 Lt) (hm : okDy pl mt Kd Dr) : okS pl n ec Fo Ho (paF Kd Dr mt at9 wet pl B0) Lt := by
  refine ⟨h.1, h.2.1, h.2.2.1, h.2.2.2.1, h.2.2.2.2.1, h.2.2.2.2.2.1, fun x h0 h1 => ?_⟩
  obtain ⟨a, b, c, d⟩ := h.2.2.2.2.2.2 x h0 h1
  exact ⟨a, b, paF_in ⟨hm.1, hm.2.1⟩ h0 h1, d⟩
theorem mul9 {a b : Int} (ha : 0 ≤ a ∧ a ≤ 9) (hb : 0 ≤ b ∧ b ≤ 1000) : 0 ≤ a * b ∧ a * b ≤ 9000 := by
  have h1 : a * b ≤ a * 1000 := Int.mul_le_mul_of_nonneg_left hb.2 ha.1
  have h2 : 0 ≤ a * b := Int.mul_nonneg ha.1 hb.1
  omega
/-- the first least of a row, step by step -/
theorem am_step {W : Int → Int} {q be le be2 le2 v K : Int} (hq : 0 ≤ q) (h : q = 0 ∧ be = -1 ∧ le = 0 ∨ 1 ≤ q ∧ be = amI (fun a => -W a) q ∧ le = W be ∧ 0 ≤ le ∧ le ≤ K ∧ 0 ≤ be) (hc : v = W q) (hcr : 0 ≤ v ∧ v ≤ K)
    (h2 : be2 = q ∧ le2 = v ∧ (be = -1 ∨ v < le) ∨ be2 = be ∧ le2 = le ∧ ¬ (be = -1 ∨ v < le)) : q + 1 = 0 ∧ be2 = -1 ∧ le2 = 0 ∨ 1 ≤ q + 1 ∧ be2 = amI (fun a => -W a) (q + 1) ∧ le2 = W be2 ∧ 0 ≤ le2 ∧ le2 ≤ K ∧ 0 ≤ be2 := by
  refine Or.inr ⟨by omega, ?_⟩
  rcases h with ⟨a1, a2, a3⟩ | ⟨a1, a2, a3, a4, a5, a6⟩
  · rcases h2 with ⟨b1, b2, b3⟩ | ⟨b1, b2, b3⟩
    · refine ⟨?_, by rw [b2, b1, hc], by omega, by omega, by omega⟩
      rw [b1, a1]
      exact amI_1.symm
    · exact absurd (Or.inl a2) b3
  · rw [amI_S hq, ← a2, ← a3, ← hc]
    rcases h2 with ⟨b1, b2, b3⟩ | ⟨b1, b2, b3⟩
    · rw [if_pos (by omega), b2, b1]
      exact ⟨rfl, hc, by omega, by omega, by omega⟩
    · rw [if_neg (by omega), b1, b2]
      exact ⟨rfl, a3, by omega, by omega, by omega⟩
theorem dy_go {cs : List (List Int × List Int)} {mt pl d v ho : Int} (h : (d = 0 ∧ v = 0) ∨ (1 ≤ d ∧ ho ≠ -1 ∧ v = dyI cs mt pl (d - 1))) : max 0 (min 9 (wth (envI d mt pl v) cs)) = dyI cs mt pl d := by
  rcases h with ⟨a, b⟩ | ⟨a, -, b⟩
  · rw [a, b]; exact dyI_0.symm
  · have e := dyI_S (cs := cs) (mt := mt) (pl := pl) (d := d - 1) (by omega)
    rw [Int.sub_add_cancel, ← b] at e
    exact e.symm
set_option maxHeartbeats 4000000 in
set_option maxRecDepth 100000 in
theorem kX12_worthOf (l : Launch) (h0 : Nat) (f : Nat → AV) (hC : Nat) (hV : Nat) (hL : Nat) (hTf : Nat) (hSf : Nat) (hEf : Nat) (hle : Nat) (hst : Nat) (C : Int → Int) (V : Int → Int) (Lk : Int → Int) (Tf : Int → Int) (Sf : Int → Int) (Ef : Int → Int) (Le : Int → Int) (Sk : Int → Int) (n9 : Int) (cs : List (List Int × List Int)) (en : Int → Int) (hf0 : f 6 = rv hC) (hf1 : f 7 = rv hV) (hf2 : f 9 = rv hL) (hf3 : f 10 = rv hTf) (hf4 : f 11 = rv hSf) (hf5 : f 12 = rv hEf) (hf6 : f 15 = rv hle) (hf7 : f 16 = rv hst) (hn9 : 0 ≤ n9 ∧ n9 ≤ 4) (hlet : ∀ j, 0 ≤ j → j ≤ 4 → Le j = en j) (hen : ∀ j, inB (en j)) (hla : lawAt C V Lk Tf Sf Ef n9 cs) : AMi l yX12_worthOf cX12_worthOf 3 .int 4 0 0 [rv h0, iv n9] [(h0, ob 11 f), (hC, ar 1700 C), (hV, ar 1700 V), (hL, ar 5 Lk), (hTf, ar 450 Tf), (hSf, ar 450 Sf), (hEf, ar 450 Ef), (hle, ar 5 Le), (hst, ar 80 Sk)] (fun z u => ∃ S2 : Int → Int, z = wth en cs ∧ u = [(h0, ob 11 f), (hC, ar 1700 C), (hV, ar 1700 V), (hL, ar 5 Lk), (hTf, ar 450 Tf), (hSf, ar 450 Sf), (hEf, ar 450 Ef), (hle, ar 5 Le), (hst, ar 80 S2)]) := by
  refine AMi.of2 rfl (nle rfl) ?_
  intro D G A p e s m args below meth c Po hPo X
  obtain ⟨hl1, hl2, hl3, hlw0, hokl⟩ := hla
  have hg0 := hokl _ _ (clPQ (e := en) (M := 80) hen)
  refine S_bipush X dX12_worthOf_0 rfl ?_
  refine S_iload_n X dX12_worthOf_2 rfl rfl ?_
  refine S_imul X dX12_worthOf_3 ?_
  refine S_istore_n X dX12_worthOf_4 rfl (nle rfl) ?_
  have lp5_0 : ∀ (N : Nat) (c9 : Int) (o9 : Int) (cs2 : List (List Int × List Int)) (Sv : Int → Int) (L : Nat → Option AV), 90 * n9 ≤ c9 ∧ c9 + (cs2.length : Int) = 90 * n9 + Lk n9 → lwA C V Tf Sf Ef (340 * n9) c9 o9 cs2 → 0 ≤ o9 ∧ o9 + ((codesOf cs2).length : Int) ≤ 160 → (∀ p ∈ cs2, gC (pP en 80) (qP en 80) p) → wth en cs = wth en cs2 → L 0 = some (rv h0) → L 1 = some (iv n9) → L 2 = some (iv c9) → 90 * n9 + Lk n9 + 1 - c9 < (N : Int) → S_ p l e (rmD 4 0 0) s m args below meth c (MQ below (QcI D G A Po) args s 0 0 A) D G A 3 0 0 5 L [] [(h0, ob 11 f), (hC, ar 1700 C), (hV, ar 1700 V), (hL, ar 5 Lk), (hTf, ar 450 Tf), (hSf, ar 450 Sf), (hEf, ar 450 Ef), (hle, ar 5 Le), (hst, ar 80 Sv)] := by
    intro N
    induction N with
    | zero =>
      intro c9 o9 cs2 Sv L5 hc hlw ho hg hw hL5_0 hL5_1 hL5_2 hN5
      exfalso; omega
    | succ N ih5 =>
      intro c9 o9 cs2 Sv L5 hc hlw ho hg hw hL5_0 hL5_1 hL5_2 hN5
      refine S_iload_n X dX12_worthOf_5 rfl hL5_2 ?_
      refine S_bipush X dX12_worthOf_6 rfl ?_
      refine S_iload_n X dX12_worthOf_8 rfl hL5_1 ?_
      refine S_imul X dX12_worthOf_9 ?_
      refine S_aload_n X dX12_worthOf_10 rfl hL5_0 ?_
      refine S_get X fgX12_22_11 0 rfl hf2 dX12_worthOf_11 ?_
      refine S_iload_n X dX12_worthOf_14 rfl hL5_1 ?_
      refine S_iald X 3 rfl (by omega) (by omega) (nle rfl) dX12_worthOf_15 ?_
      refine S_iadd X dX12_worthOf_16 ?_
      refine S_icmp_ge (tgt := 79) X dX12_worthOf_17 (by decide) (by omega) (by omega) (fun c_1 => ?_) (fun c_1 => ?_)
      ·
        refine S_iconst X dX12_worthOf_79 ?_
        exact S_iret X (nle rfl) (nle rfl) dX12_worthOf_80 (hPo _ _ (⟨_, by rw [hw, nil_len (l := cs2) (by omega)]; rfl, rfl⟩))
      ·
        obtain ⟨pq, cs3, rfl⟩ : ∃ pq cs3, cs2 = pq :: cs3 := by
          cases cs2 with
          | nil => exfalso; simp only [List.length_nil] at hc; omega
          | cons pq cs3 => exact ⟨pq, cs3, rfl⟩
        obtain ⟨hT9, hS9, hE9, htk1, htk2, hrest⟩ := hlw
        have hln := lenC (p := pq) (r := cs3)
        have hcl := codesOf_c (l := cs3) (p := pq)
        have hgc := hg pq (by simp)
        obtain ⟨v2, hi2, hr2, he2⟩ := pP_run hgc.2 (by omega)
        refine S_aload_n X dX12_worthOf_20 rfl hL5_0 ?_
        refine S_get X fgX12_25_11 0 rfl hf3 dX12_worthOf_21 ?_
        refine S_iload_n X dX12_worthOf_24 rfl hL5_2 ?_
        refine S_iald X 4 rfl (by omega) (by omega) (nle rfl) dX12_worthOf_25 ?_
        refine S_aload_n X dX12_worthOf_26 rfl hL5_0 ?_
        refine S_get X fgX12_28_11 0 rfl hf4 dX12_worthOf_27 ?_
        refine S_iload_n X dX12_worthOf_30 rfl hL5_2 ?_
        refine S_iald X 5 rfl (by omega) (by omega) (nle rfl) dX12_worthOf_31 ?_
        refine S_icmp_eq (tgt := 55) X dX12_worthOf_32 (by decide) (by omega) (by omega) (fun c_2 => ?_) (fun c_2 => ?_)
        ·
          refine S_aload_n X dX12_worthOf_55 rfl hL5_0 ?_
          refine S_iload_n X dX12_worthOf_56 rfl hL5_1 ?_
          refine S_aload_n X dX12_worthOf_57 rfl hL5_0 ?_
          refine S_get X fgX12_28_11 0 rfl hf4 dX12_worthOf_58 ?_
          refine S_iload_n X dX12_worthOf_61 rfl hL5_2 ?_
          refine S_iald X 5 rfl (by omega) (by omega) (nle rfl) dX12_worthOf_62 ?_
          refine S_aload_n X dX12_worthOf_63 rfl hL5_0 ?_
          refine S_get X fgX12_31_11 0 rfl hf5 dX12_worthOf_64 ?_
          refine S_iload_n X dX12_worthOf_67 rfl hL5_2 ?_
          refine S_iald X 6 rfl (by omega) (by omega) (nle rfl) dX12_worthOf_68 ?_
          refine S_calli X (kX12_workOut l h0 f hC hV hle hst C V Le Sv n9 (Sf c9) (Ef c9) pq.2 en v2 hf0 hf1 hf6 hf7 (by omega) (by omega) hlet (by rw [hS9]; exact htk2) hr2 he2 hi2) (is := [0, 1, 2, 7, 8]) rfl (run_V X lkX12_212 0 rfl rfl (is := [0, 1, 2, 7, 8]) (avs := [iv n9, iv (Sf c9), iv (Ef c9)]) (rest := []) rfl rfl (nle rfl) ⟨nle rfl, nle rfl⟩ ⟨nle rfl, nle rfl⟩ dX12_worthOf_69 (by decide) rfl) (fun z_5 u_3 hp_4 => ?_)
          obtain ⟨S2_6, hz_7, hu_8⟩ := hp_4
          replace hz_7 := Eq.symm hz_7
          subst hz_7
          subst hu_8
          refine ⟨rfl, ?_⟩
          refine S_w (ws' := [(h0, ob 11 f), (hC, ar 1700 C), (hV, ar 1700 V), (hL, ar 5 Lk), (hTf, ar 450 Tf), (hSf, ar 450 Sf), (hEf, ar 450 Ef), (hle, ar 5 Le), (hst, ar 80 S2_6)]) rfl ?_
          exact S_iret X (nle rfl) (nle rfl) dX12_worthOf_72 (hPo _ _ (⟨_, by rw [hw]; exact (wth_one (Or.inl (nil_len (by omega))) he2).symm, rfl⟩))
        ·
          have hne : ¬ pq.1 = [] := fun h7 => by rw [h7, List.length_nil] at hS9; omega
          obtain ⟨v1, hi1, hr1, he1⟩ := qP_run (hgc.1.resolve_left hne) (by omega)
          have hi1r := hi1
          unfold inB at hi1r
          refine S_aload_n X dX12_worthOf_35 rfl hL5_0 ?_
          refine S_iload_n X dX12_worthOf_36 rfl hL5_1 ?_
          refine S_aload_n X dX12_worthOf_37 rfl hL5_0 ?_
          refine S_get X fgX12_25_11 0 rfl hf3 dX12_worthOf_38 ?_
          refine S_iload_n X dX12_worthOf_41 rfl hL5_2 ?_
          refine S_iald X 4 rfl (by omega) (by omega) (nle rfl) dX12_worthOf_42 ?_
          refine S_aload_n X dX12_worthOf_43 rfl hL5_0 ?_
          refine S_get X fgX12_28_11 0 rfl hf4 dX12_worthOf_44 ?_
          refine S_iload_n X dX12_worthOf_47 rfl hL5_2 ?_
          refine S_iald X 5 rfl (by omega) (by omega) (nle rfl) dX12_worthOf_48 ?_
          refine S_calli X (kX12_workOut l h0 f hC hV hle hst C V Le Sv n9 (Tf c9) (Sf c9) pq.1 en v1 hf0 hf1 hf6 hf7 (by omega) (by omega) hlet (by rw [hT9]; exact htk1) hr1 he1 hi1) (is := [0, 1, 2, 7, 8]) rfl (run_V X lkX12_212 0 rfl rfl (is := [0, 1, 2, 7, 8]) (avs := [iv n9, iv (Tf c9), iv (Sf c9)]) (rest := []) rfl rfl (nle rfl) ⟨nle rfl, nle rfl⟩ ⟨nle rfl, nle rfl⟩ dX12_worthOf_49 (by decide) rfl) (fun z_11 u_9 hp_10 => ?_)
          obtain ⟨S2_12, hz_13, hu_14⟩ := hp_10
          replace hz_13 := Eq.symm hz_13
          subst hz_13
          subst hu_14
          refine ⟨rfl, ?_⟩
          refine S_w (ws' := [(h0, ob 11 f), (hC, ar 1700 C), (hV, ar 1700 V), (hL, ar 5 Lk), (hTf, ar 450 Tf), (hSf, ar 450 Sf), (hEf, ar 450 Ef), (hle, ar 5 Le), (hst, ar 80 S2_12)]) rfl ?_
          refine S_if_eq (tgt := 73) X dX12_worthOf_52 (by decide) (by omega) (fun c_15 => ?_) (fun c_15 => ?_)
          ·
            refine S_iinc X dX12_worthOf_73 (nle rfl) hL5_2 ?_
            refine S_goto (tgt := 5) X dX12_worthOf_76 (by decide) ?_
            exact ih5 (c9 + 1) _ _ S2_12 _ (by omega) (hrest) (by omega) (fun p hp => hg p (by simp [hp])) (by rw [hw]; exact wth_go hne he1 (by assumption)) hL5_0 hL5_1 rfl (by omega)
          ·
            refine S_aload_n X dX12_worthOf_55 rfl hL5_0 ?_
            refine S_iload_n X dX12_worthOf_56 rfl hL5_1 ?_
            refine S_aload_n X dX12_worthOf_57 rfl hL5_0 ?_
            refine S_get X fgX12_28_11 0 rfl hf4 dX12_worthOf_58 ?_
            refine S_iload_n X dX12_worthOf_61 rfl hL5_2 ?_
            refine S_iald X 5 rfl (by omega) (by omega) (nle rfl) dX12_worthOf_62 ?_
            refine S_aload_n X dX12_worthOf_63 rfl hL5_0 ?_
            refine S_get X fgX12_31_11 0 rfl hf5 dX12_worthOf_64 ?_
            refine S_iload_n X dX12_worthOf_67 rfl hL5_2 ?_
            refine S_iald X 6 rfl (by omega) (by omega) (nle rfl) dX12_worthOf_68 ?_
            refine S_calli X (kX12_workOut l h0 f hC hV hle hst C V Le S2_12 n9 (Sf c9) (Ef c9) pq.2 en v2 hf0 hf1 hf6 hf7 (by omega) (by omega) hlet (by rw [hS9]; exact htk2) hr2 he2 hi2) (is := [0, 1, 2, 7, 8]) rfl (run_V X lkX12_212 0 rfl rfl (is := [0, 1, 2, 7, 8]) (avs := [iv n9, iv (Sf c9), iv (Ef c9)]) (rest := []) rfl rfl (nle rfl) ⟨nle rfl, nle rfl⟩ ⟨nle rfl, nle rfl⟩ dX12_worthOf_69 (by decide) rfl) (fun z_18 u_16 hp_17 => ?_)
            obtain ⟨S2_19, hz_20, hu_21⟩ := hp_17
            replace hz_20 := Eq.symm hz_20
            subst hz_20
            subst hu_21
            refine ⟨rfl, ?_⟩
            refine S_w (ws' := [(h0, ob 11 f), (hC, ar 1700 C), (hV, ar 1700 V), (hL, ar 5 Lk), (hTf, ar 450 Tf), (hSf, ar 450 Sf), (hEf, ar 450 Ef), (hle, ar 5 Le), (hst, ar 80 S2_19)]) rfl ?_
            exact S_iret X (nle rfl) (nle rfl) dX12_worthOf_72 (hPo _ _ (⟨_, by rw [hw]; exact (wth_one (Or.inr ⟨_, he1, by assumption⟩) he2).symm, rfl⟩))
  exact lp5_0 (Int.toNat (90 * n9 + Lk n9 + 1 - (90 * n9)) + 1) (90 * n9) _ _ Sk _ (by omega) (hlw0) (⟨Int.le_refl 0, by omega⟩) (hg0) (rfl) rfl rfl rfl (by omega)
set_option maxHeartbeats 4000000 in
set_option maxRecDepth 100000 in
theorem kX12_dampOf (l : Launch) (h0 : Nat) (f : Nat → AV) (pl : Int) (mt : Int) (ho : Int) (hC : Nat) (hV : Nat) (hL : Nat) (hTf : Nat) (hSf : Nat) (hEf : Nat) (hle : Nat) (hst : Nat) (C : Int → Int) (V : Int → Int) (Lk : Int → Int) (Tf : Int → Int) (Sf : Int → Int) (Ef : Int → Int) (Le : Int → Int) (Sk : Int → Int) (cs : List (List Int × List Int)) (dd : Int) (hf0 : f 6 = rv hC) (hf1 : f 7 = rv hV) (hf2 : f 9 = rv hL) (hf3 : f 10 = rv hTf) (hf4 : f 11 = rv hSf) (hf5 : f 12 = rv hEf) (hf6 : f 15 = rv hle) (hf7 : f 16 = rv hst) (hf8 : f 21 = iv pl) (hf9 : f 22 = iv mt) (hf10 : f 27 = iv ho) (hpm : (0 ≤ pl ∧ pl ≤ 6) ∧ 1 ≤ mt ∧ mt ≤ 99) (hho : ho = -1 ∨ (0 ≤ ho ∧ ho ≤ 3 ∧ lawAt C V Lk Tf Sf Ef ho cs)) (hdd : 0 ≤ dd ∧ dd ≤ 1100) : AMi l yX12_dampOf cX12_dampOf 4 .int 5 0 0 [rv h0, iv dd] [(h0, ob 11 f), (hC, ar 1700 C), (hV, ar 1700 V), (hL, ar 5 Lk), (hTf, ar 450 Tf), (hSf, ar 450 Sf), (hEf, ar 450 Ef), (hle, ar 5 Le), (hst, ar 80 Sk)] (fun z u => ∃ L2 : Int → Int, ∃ S2 : Int → Int, z = aDy ho cs mt pl dd ∧ u = [(h0, ob 11 f), (hC, ar 1700 C), (hV, ar 1700 V), (hL, ar 5 Lk), (hTf, ar 450 Tf), (hSf, ar 450 Sf), (hEf, ar 450 Ef), (hle, ar 5 L2), (hst, ar 80 S2)]) := by
  refine AMi.of2 rfl (nle rfl) ?_
  intro D G A p e s m args below meth c Po hPo X
  refine S_iconst X dX12_dampOf_0 ?_
  refine S_istore_n X dX12_dampOf_1 rfl (nle rfl) ?_
  refine S_iconst X dX12_dampOf_2 ?_
  refine S_istore_n X dX12_dampOf_3 rfl (nle rfl) ?_
  have lp4_0 : ∀ (N : Nat) (d9 : Int) (v : Int) (Lv : Int → Int) (Sv : Int → Int) (L : Nat → Option AV), 0 ≤ d9 ∧ d9 ≤ dd + 1 → 0 ≤ v ∧ v ≤ 9 → (d9 = 0 ∧ v = 0) ∨ (1 ≤ d9 ∧ ho ≠ -1 ∧ v = dyI cs mt pl (d9 - 1)) → L 0 = some (rv h0) → L 1 = some (iv dd) → L 2 = some (iv v) → L 3 = some (iv d9) → dd + 2 - d9 < (N : Int) → S_ p l e (rmD 5 0 0) s m args below meth c (MQ below (QcI D G A Po) args s 0 0 A) D G A 4 0 0 4 L [] [(h0, ob 11 f), (hC, ar 1700 C), (hV, ar 1700 V), (hL, ar 5 Lk), (hTf, ar 450 Tf), (hSf, ar 450 Sf), (hEf, ar 450 Ef), (hle, ar 5 Lv), (hst, ar 80 Sv)] := by
    intro N
    induction N with
    | zero =>
      intro d9 v Lv Sv L4 hd hvr hv hL4_0 hL4_1 hL4_2 hL4_3 hN4
      exfalso; omega
    | succ N ih4 =>
      intro d9 v Lv Sv L4 hd hvr hv hL4_0 hL4_1 hL4_2 hL4_3 hN4
      refine S_iload_n X dX12_dampOf_4 rfl hL4_3 ?_
      refine S_iload_n X dX12_dampOf_5 rfl hL4_1 ?_
      refine S_icmp_gt (tgt := 85) X dX12_dampOf_6 (by decide) (by omega) (by omega) (fun c_1 => ?_) (fun c_1 => ?_)
      ·
        refine S_iload_n X dX12_dampOf_85 rfl hL4_2 ?_
        exact S_iret X (nle rfl) (nle rfl) dX12_dampOf_86 (hPo _ _ (⟨_, _, by unfold aDy; first | (rw [if_pos (by omega)]; omega) | (rw [if_neg (by omega)]; rcases hv with h9 | h9; (exfalso; omega); rw [h9.2.2, show d9 - 1 = dd by omega]), rfl⟩))
      ·
        refine S_aload_n X dX12_dampOf_9 rfl hL4_0 ?_
        refine S_get X fgX12_52_11 0 rfl hf10 dX12_dampOf_10 ?_
        refine S_iconst X dX12_dampOf_13 ?_
        refine S_icmp_eq (tgt := 85) X dX12_dampOf_14 (by decide) (by omega) (by decide) (fun c_2 => ?_) (fun c_2 => ?_)
        ·
          refine S_iload_n X dX12_dampOf_85 rfl hL4_2 ?_
          exact S_iret X (nle rfl) (nle rfl) dX12_dampOf_86 (hPo _ _ (⟨_, _, by unfold aDy; first | (rw [if_pos (by omega)]; omega) | (rw [if_neg (by omega)]; rcases hv with h9 | h9; (exfalso; omega); rw [h9.2.2, show d9 - 1 = dd by omega]), rfl⟩))
        ·
          refine S_aload_n X dX12_dampOf_17 rfl hL4_0 ?_
          refine S_get X fgX12_34_11 0 rfl hf6 dX12_dampOf_18 ?_
          refine S_iconst X dX12_dampOf_21 ?_
          refine S_iload_n X dX12_dampOf_22 rfl hL4_3 ?_
          refine S_iast X 7 rfl (by omega) (by omega) (nle rfl) dX12_dampOf_23 ?_
          refine S_w (ws' := [(h0, ob 11 f), (hC, ar 1700 C), (hV, ar 1700 V), (hL, ar 5 Lk), (hTf, ar 450 Tf), (hSf, ar 450 Sf), (hEf, ar 450 Ef), (hle, ar 5 (uZ Lv 0 d9)), (hst, ar 80 Sv)]) rfl ?_
          refine S_aload_n X dX12_dampOf_24 rfl hL4_0 ?_
          refine S_get X fgX12_34_11 0 rfl hf6 dX12_dampOf_25 ?_
          refine S_iconst X dX12_dampOf_28 ?_
          refine S_iload_n X dX12_dampOf_29 rfl hL4_3 ?_
          refine S_bipush X dX12_dampOf_30 rfl ?_
          refine S_irem X (by omega) (by decide) (by decide) dX12_dampOf_32 ?_
          refine S_iast X 7 rfl (by omega) (by omega) (nle rfl) dX12_dampOf_33 ?_
          refine S_w (ws' := [(h0, ob 11 f), (hC, ar 1700 C), (hV, ar 1700 V), (hL, ar 5 Lk), (hTf, ar 450 Tf), (hSf, ar 450 Sf), (hEf, ar 450 Ef), (hle, ar 5 (uZ (uZ Lv 0 d9) 1 (d9.tmod 7))), (hst, ar 80 Sv)]) rfl ?_
          refine S_aload_n X dX12_dampOf_34 rfl hL4_0 ?_
          refine S_get X fgX12_34_11 0 rfl hf6 dX12_dampOf_35 ?_
          refine S_iconst X dX12_dampOf_38 ?_
          refine S_aload_n X dX12_dampOf_39 rfl hL4_0 ?_
          refine S_get X fgX12_256_11 0 rfl hf9 dX12_dampOf_40 ?_
          refine S_iast X 7 rfl (by omega) (by omega) (nle rfl) dX12_dampOf_43 ?_
          refine S_w (ws' := [(h0, ob 11 f), (hC, ar 1700 C), (hV, ar 1700 V), (hL, ar 5 Lk), (hTf, ar 450 Tf), (hSf, ar 450 Sf), (hEf, ar 450 Ef), (hle, ar 5 (uZ (uZ (uZ Lv 0 d9) 1 (d9.tmod 7)) 2 mt)), (hst, ar 80 Sv)]) rfl ?_
          refine S_aload_n X dX12_dampOf_44 rfl hL4_0 ?_
          refine S_get X fgX12_34_11 0 rfl hf6 dX12_dampOf_45 ?_
          refine S_iconst X dX12_dampOf_48 ?_
          refine S_aload_n X dX12_dampOf_49 rfl hL4_0 ?_
          refine S_get X fgX12_253_11 0 rfl hf8 dX12_dampOf_50 ?_
          refine S_iast X 7 rfl (by omega) (by omega) (nle rfl) dX12_dampOf_53 ?_
          refine S_w (ws' := [(h0, ob 11 f), (hC, ar 1700 C), (hV, ar 1700 V), (hL, ar 5 Lk), (hTf, ar 450 Tf), (hSf, ar 450 Sf), (hEf, ar 450 Ef), (hle, ar 5 (uZ (uZ (uZ (uZ Lv 0 d9) 1 (d9.tmod 7)) 2 mt) 3 pl)), (hst, ar 80 Sv)]) rfl ?_
          refine S_aload_n X dX12_dampOf_54 rfl hL4_0 ?_
          refine S_get X fgX12_34_11 0 rfl hf6 dX12_dampOf_55 ?_
          refine S_iconst X dX12_dampOf_58 ?_
          refine S_iload_n X dX12_dampOf_59 rfl hL4_2 ?_
          refine S_iast X 7 rfl (by omega) (by omega) (nle rfl) dX12_dampOf_60 ?_
          refine S_w (ws' := [(h0, ob 11 f), (hC, ar 1700 C), (hV, ar 1700 V), (hL, ar 5 Lk), (hTf, ar 450 Tf), (hSf, ar 450 Sf), (hEf, ar 450 Ef), (hle, ar 5 (uZ (uZ (uZ (uZ (uZ Lv 0 d9) 1 (d9.tmod 7)) 2 mt) 3 pl) 4 v)), (hst, ar 80 Sv)]) rfl ?_
          have hhl := hho.resolve_left (by omega)
          have hen9 := envI_in (d := d9) (mt := mt) (pl := pl) (o := v) (inB_of (by omega)) (inB_of (by omega)) (inB_of (by omega)) (inB_of (by omega))
          have hwi := wth_in hen9 cs (hhl.2.2.2.2.2.2 _ _ (clPQ hen9)) hhl.2.2.2.1
          unfold inB at hwi
          refine S_iconst X dX12_dampOf_61 ?_
          refine S_bipush X dX12_dampOf_62 rfl ?_
          refine S_aload_n X dX12_dampOf_64 rfl hL4_0 ?_
          refine S_aload_n X dX12_dampOf_65 rfl hL4_0 ?_
          refine S_get X fgX12_52_11 0 rfl hf10 dX12_dampOf_66 ?_
          refine S_calli X (kX12_worthOf l h0 f hC hV hL hTf hSf hEf hle hst C V Lk Tf Sf Ef (uZ (uZ (uZ (uZ (uZ Lv 0 d9) 1 (d9.tmod 7)) 2 mt) 3 pl) 4 v) Sv ho cs (envI d9 mt pl v) hf0 hf1 hf2 hf3 hf4 hf5 hf6 hf7 (by omega) let_env hen9 hhl.2.2) (is := [0, 1, 2, 3, 4, 5, 6, 7, 8]) rfl (run_V X lkX12_290 0 rfl rfl (is := [0, 1, 2, 3, 4, 5, 6, 7, 8]) (avs := [iv ho]) (rest := [iv 9, iv 0]) rfl rfl (nle rfl) ⟨nle rfl, nle rfl⟩ ⟨nle rfl, nle rfl⟩ dX12_dampOf_69 (by decide) rfl) (fun z_5 u_3 hp_4 => ?_)
          obtain ⟨S2_6, hz_7, hu_8⟩ := hp_4
          subst hz_7
          subst hu_8
          refine ⟨rfl, ?_⟩
          refine S_w (ws' := [(h0, ob 11 f), (hC, ar 1700 C), (hV, ar 1700 V), (hL, ar 5 Lk), (hTf, ar 450 Tf), (hSf, ar 450 Sf), (hEf, ar 450 Ef), (hle, ar 5 (uZ (uZ (uZ (uZ (uZ Lv 0 d9) 1 (d9.tmod 7)) 2 mt) 3 pl) 4 v)), (hst, ar 80 S2_6)]) rfl ?_
          refine S_mmin X lkX12_293 rfl rfl (by decide) (by omega) (nle rfl) (nle rfl) (nle rfl) (nle rfl) dX12_dampOf_72 ?_
          refine S_mmax X lkX12_295 rfl rfl (by decide) (by omega) (nle rfl) (nle rfl) (nle rfl) (nle rfl) dX12_dampOf_75 ?_
          refine S_istore_n X dX12_dampOf_78 rfl (nle rfl) ?_
          refine S_iinc X dX12_dampOf_79 (nle rfl) hL4_3 ?_
          refine S_goto (tgt := 4) X dX12_dampOf_82 (by decide) ?_
          exact ih4 (d9 + 1) (max 0 (min 9 (wth (envI d9 mt pl v) cs))) (uZ (uZ (uZ (uZ (uZ Lv 0 d9) 1 (d9.tmod 7)) 2 mt) 3 pl) 4 v) S2_6 _ (by omega) (by omega) (Or.inr ⟨by omega, by omega, by rw [Int.add_sub_cancel]; exact dy_go hv⟩) hL4_0 hL4_1 rfl rfl (by omega)
  exact lp4_0 (Int.toNat (dd + 2 - 0) + 1) 0 0 Le Sk _ (by omega) (by omega) (Or.inl ⟨rfl, rfl⟩) rfl rfl rfl rfl (by omega)
set_option maxHeartbeats 4000000 in
set_option maxRecDepth 100000 in
theorem kX12_damp (l : Launch) (h0 : Nat) (f : Nat → AV) (pl : Int) (mt : Int) (ho : Int) (hC : Nat) (hV : Nat) (hL : Nat) (hTf : Nat) (hSf : Nat) (hEf : Nat) (hle : Nat) (hst : Nat) (C : Int → Int) (V : Int → Int) (Lk : Int → Int) (Tf : Int → Int) (Sf : Int → Int) (Ef : Int → Int) (Le : Int → Int) (Sk : Int → Int) (cs : List (List Int × List Int)) (dd : Int) (hf0 : f 6 = rv hC) (hf1 : f 7 = rv hV) (hf2 : f 9 = rv hL) (hf3 : f 10 = rv hTf) (hf4 : f 11 = rv hSf) (hf5 : f 12 = rv hEf) (hf6 : f 15 = rv hle) (hf7 : f 16 = rv hst) (hf8 : f 21 = iv pl) (hf9 : f 22 = iv mt) (hf10 : f 27 = iv ho) (hpm : (0 ≤ pl ∧ pl ≤ 6) ∧ 1 ≤ mt ∧ mt ≤ 99) (hho : ho = -1 ∨ (0 ≤ ho ∧ ho ≤ 3 ∧ lawAt C V Lk Tf Sf Ef ho cs)) (hx_d : inR dd) : AMi l yX12_damp cX12_damp 2 .int 6 0 0 [rv h0, iv dd] [(h0, ob 11 f), (hC, ar 1700 C), (hV, ar 1700 V), (hL, ar 5 Lk), (hTf, ar 450 Tf), (hSf, ar 450 Sf), (hEf, ar 450 Ef), (hle, ar 5 Le), (hst, ar 80 Sk)] (fun z u => ∃ L2 : Int → Int, ∃ S2 : Int → Int, z = aDamp ho cs mt pl dd ∧ u = [(h0, ob 11 f), (hC, ar 1700 C), (hV, ar 1700 V), (hL, ar 5 Lk), (hTf, ar 450 Tf), (hSf, ar 450 Sf), (hEf, ar 450 Ef), (hle, ar 5 L2), (hst, ar 80 S2)]) := by
  refine AMi.of2 rfl (nle rfl) ?_
  intro D G A p e s m args below meth c Po hPo X
  refine S_aload_n X dX12_damp_0 rfl rfl ?_
  refine S_get X fgX12_253_11 0 rfl hf8 dX12_damp_1 ?_
  refine S_if_le (tgt := 26) X dX12_damp_4 (by decide) (by omega) (fun c_1 => ?_) (fun c_1 => ?_)
  ·
    refine S_iconst X dX12_damp_26 ?_
    exact S_iret X (nle rfl) (nle rfl) dX12_damp_27 (hPo _ _ (⟨_, _, by unfold aDamp; rw [if_neg (by omega)], rfl⟩))
  ·
    refine S_iload_n X dX12_damp_7 rfl rfl ?_
    refine S_iconst X dX12_damp_8 ?_
    refine S_sipush X dX12_damp_9 rfl ?_
    refine S_calli X (kX12_in l dd 0 999 (by omega) (by omega) (by omega)) (is := []) rfl (run_S X lkX12_216 (is := []) (avs := [iv dd, iv 0, iv 999]) (rest := []) rfl rfl (nle rfl) ⟨nle rfl, nle rfl⟩ ⟨nle rfl, nle rfl⟩ dX12_damp_12 (by decide) rfl) (fun z_4 u_2 hp_3 => ?_)
    rcases hp_3 with ⟨hz_5, hu_6, hq_7⟩ | ⟨hz_8, hu_9, hq_10⟩
    ·
      subst hz_5
      subst hu_6
      refine ⟨rfl, ?_⟩
      refine S_w (ws' := [(h0, ob 11 f), (hC, ar 1700 C), (hV, ar 1700 V), (hL, ar 5 Lk), (hTf, ar 450 Tf), (hSf, ar 450 Sf), (hEf, ar 450 Ef), (hle, ar 5 Le), (hst, ar 80 Sk)]) rfl ?_
      refine S_if_eq (tgt := 26) X dX12_damp_15 (by decide) (by decide) (fun _ => ?_) (fun h9 => absurd h9 (by decide))
      refine S_iconst X dX12_damp_26 ?_
      exact S_iret X (nle rfl) (nle rfl) dX12_damp_27 (hPo _ _ (⟨_, _, by unfold aDamp; rw [if_neg (by omega)], rfl⟩))
    ·
      subst hz_8
      subst hu_9
      refine ⟨rfl, ?_⟩
      refine S_w (ws' := [(h0, ob 11 f), (hC, ar 1700 C), (hV, ar 1700 V), (hL, ar 5 Lk), (hTf, ar 450 Tf), (hSf, ar 450 Sf), (hEf, ar 450 Ef), (hle, ar 5 Le), (hst, ar 80 Sk)]) rfl ?_
      refine S_if_eq (tgt := 26) X dX12_damp_15 (by decide) (by decide) (fun h9 => absurd h9 (by decide)) (fun _ => ?_)
      refine S_aload_n X dX12_damp_18 rfl rfl ?_
      refine S_iload_n X dX12_damp_19 rfl rfl ?_
      refine S_calli X (kX12_dampOf l h0 f pl mt ho hC hV hL hTf hSf hEf hle hst C V Lk Tf Sf Ef Le Sk cs dd hf0 hf1 hf2 hf3 hf4 hf5 hf6 hf7 hf8 hf9 hf10 (by omega) (by omega) (by omega)) (is := [0, 1, 2, 3, 4, 5, 6, 7, 8]) rfl (run_V X lkX12_297 0 rfl rfl (is := [0, 1, 2, 3, 4, 5, 6, 7, 8]) (avs := [iv dd]) (rest := []) rfl rfl (nle rfl) ⟨nle rfl, nle rfl⟩ ⟨nle rfl, nle rfl⟩ dX12_damp_20 (by decide) rfl) (fun z_15 u_13 hp_14 => ?_)
      obtain ⟨L2_16, S2_17, hz_18, hu_19⟩ := hp_14
      subst hz_18
      subst hu_19
      refine ⟨rfl, ?_⟩
      refine S_w (ws' := [(h0, ob 11 f), (hC, ar 1700 C), (hV, ar 1700 V), (hL, ar 5 Lk), (hTf, ar 450 Tf), (hSf, ar 450 Sf), (hEf, ar 450 Ef), (hle, ar 5 L2_16), (hst, ar 80 S2_17)]) rfl ?_
      refine S_goto (tgt := 27) X dX12_damp_23 (by decide) ?_
      exact S_iret X (nle rfl) (nle rfl) dX12_damp_27 (hPo _ _ (⟨_, _, by unfold aDamp; rw [if_pos (by omega)], rfl⟩))
set_option maxHeartbeats 4000000 in
set_option maxRecDepth 100000 in
theorem kX12_pass (l : Launch) (h0 : Nat) (f : Nat → AV) (pl : Int) (mt : Int) (hQ : Nat) (hB : Nat) (Q : Int → Int) (B : Int → Int) (at9 : Int) (wet : Int) (hf0 : f 21 = iv pl) (hf1 : f 20 = rv hQ) (hf2 : f 23 = rv hB) (hf3 : f 22 = iv mt) (hpl : 0 ≤ pl ∧ pl ≤ 6) (hod : okDy pl mt (c5 Q 2) (c5 Q 1)) (hB1 : ∀ p, 0 ≤ p → p < pl → 1 ≤ B p ∧ B p ≤ 199) (hwet : 0 ≤ wet ∧ wet ≤ 9) (hat : -1 ≤ at9 ∧ at9 < pl) : AMv l yX12_pass cX12_pass 7 1 0 0 [rv h0, iv at9, iv wet] [(h0, ob 11 f), (hQ, ar 30 Q), (hB, ar 6 B)] (fun u => ∃ B2 : Int → Int, u = [(h0, ob 11 f), (hQ, ar 30 Q), (hB, ar 6 B2)] ∧ B2 = (paF (c5 Q 2) (c5 Q 1) mt at9 wet pl B)) := by
  refine AMv.of2 rfl (nle rfl) ?_
  intro D G A p e s m args below meth c Po hPo hnm X
  refine S_iconst X dX12_pass_0 ?_
  refine S_istore_n X dX12_pass_1 rfl (nle rfl) ?_
  have lp2_0 : ∀ (N : Nat) (i : Int) (Bv : Int → Int) (L : Nat → Option AV), 0 ≤ i ∧ i ≤ pl → (∀ x, 0 ≤ x → x < i → Bv x = (paF (c5 Q 2) (c5 Q 1) mt at9 wet pl B) x) → (∀ x, x < 0 ∨ i ≤ x → Bv x = B x) → L 0 = some (rv h0) → L 1 = some (iv at9) → L 2 = some (iv wet) → L 3 = some (iv i) → pl + 1 - i < (N : Int) → S_ p l e (rmD 1 0 0) s m args below meth c (MQ below (QcV D G A Po) args s 0 0 A) D G A 7 0 0 2 L [] [(h0, ob 11 f), (hQ, ar 30 Q), (hB, ar 6 Bv)] := by
    intro N
    induction N with
    | zero =>
      intro i Bv L2 hi hk hk2 hL2_0 hL2_1 hL2_2 hL2_3 hN2
      exfalso; omega
    | succ N ih2 =>
      intro i Bv L2 hi hk hk2 hL2_0 hL2_1 hL2_2 hL2_3 hN2
      refine S_iload_n X dX12_pass_2 rfl hL2_3 ?_
      refine S_aload_n X dX12_pass_3 rfl hL2_0 ?_
      refine S_get X fgX12_253_11 0 rfl hf0 dX12_pass_4 ?_
      refine S_icmp_ge (tgt := 103) X dX12_pass_7 (by decide) (by omega) (by omega) (fun c_1 => ?_) (fun c_1 => ?_)
      ·
        exact S_vret X (nle rfl) (nle rfl) dX12_pass_103 (hPo _ (⟨_, rfl, by funext x; by_cases h9 : 0 ≤ x ∧ x < pl; exact hk x h9.1 (by omega); rw [hk2 x (by omega)]; unfold paF; rw [if_neg h9]⟩))
      ·
        have hod9 := hod.2.2 i (by omega) (by omega)
        unfold c5 at hod9
        have hmu := mul9 hod9.2 (b := wet) (by omega)
        have hbb := hB1 i (by omega) (by omega)
        have hbv := hk2 i (by omega)
        have hpv : (paF (c5 Q 2) (c5 Q 1) mt at9 wet pl B) i = if i = at9 then mt else drF (c5 Q 2 i) (c5 Q 1 i) 1 wet (B i) := if_pos ⟨by omega, by omega⟩
        refine S_aload_n X dX12_pass_10 rfl hL2_0 ?_
        refine S_iload_n X dX12_pass_11 rfl hL2_3 ?_
        refine S_iconst X dX12_pass_12 ?_
        refine S_calli X (kX12_of l h0 f hQ Q i 2 hf1 (by omega) (by omega)) (is := [0, 1]) rfl (run_V X lkX12_284 0 rfl rfl (is := [0, 1]) (avs := [iv i, iv 2]) (rest := []) rfl rfl (nle rfl) ⟨nle rfl, nle rfl⟩ ⟨nle rfl, nle rfl⟩ dX12_pass_13 (by decide) rfl) (fun z_4 u_2 hp_3 => ?_)
        obtain ⟨hz_5, hu_6⟩ := hp_3
        subst hz_5
        subst hu_6
        refine ⟨rfl, ?_⟩
        refine S_w (ws' := [(h0, ob 11 f), (hQ, ar 30 Q), (hB, ar 6 Bv)]) rfl ?_
        refine S_istore X dX12_pass_16 (nle rfl) ?_
        refine S_iload X dX12_pass_18 rfl ?_
        refine S_iconst X dX12_pass_20 ?_
        refine S_icmp_ge (tgt := 33) X dX12_pass_21 (by decide) (by omega) (by decide) (fun c_7 => ?_) (fun c_7 => ?_)
        ·
          refine S_aload_n X dX12_pass_33 rfl hL2_0 ?_
          refine S_iload_n X dX12_pass_34 rfl hL2_3 ?_
          refine S_iconst X dX12_pass_35 ?_
          refine S_calli X (kX12_of l h0 f hQ Q i 1 hf1 (by omega) (by omega)) (is := [0, 1]) rfl (run_V X lkX12_284 0 rfl rfl (is := [0, 1]) (avs := [iv i, iv 1]) (rest := []) rfl rfl (nle rfl) ⟨nle rfl, nle rfl⟩ ⟨nle rfl, nle rfl⟩ dX12_pass_36 (by decide) rfl) (fun z_10 u_8 hp_9 => ?_)
          obtain ⟨hz_11, hu_12⟩ := hp_9
          subst hz_11
          subst hu_12
          refine ⟨rfl, ?_⟩
          refine S_w (ws' := [(h0, ob 11 f), (hQ, ar 30 Q), (hB, ar 6 Bv)]) rfl ?_
          refine S_iload_n X dX12_pass_39 rfl hL2_2 ?_
          refine S_imul X dX12_pass_40 ?_
          refine S_istore X dX12_pass_41 (nle rfl) ?_
          refine S_aload_n X dX12_pass_43 rfl hL2_0 ?_
          refine S_get X fgX12_46_11 0 rfl hf2 dX12_pass_44 ?_
          refine S_iload_n X dX12_pass_47 rfl hL2_3 ?_
          refine S_iald X 2 rfl (by omega) (by omega) (nle rfl) dX12_pass_48 ?_
          refine S_iload X dX12_pass_49 rfl ?_
          refine S_iconst X dX12_pass_51 ?_
          have htm1 := Int.tmod_lt_of_pos (Q (5 * i + 2)) (b := 2) (by decide)
          have htm2 := Int.lt_tmod_of_pos (Q (5 * i + 2)) (b := 2) (by decide)
          refine S_irem X (by omega) (by decide) (by decide) dX12_pass_52 ?_
          refine S_if_ne (tgt := 61) X dX12_pass_53 (by decide) (by omega) (fun c_13 => ?_) (fun c_13 => ?_)
          ·
            refine S_iload X dX12_pass_61 rfl ?_
            refine S_ineg X dX12_pass_63 ?_
            refine S_iadd X dX12_pass_64 ?_
            refine S_istore X dX12_pass_65 (nle rfl) ?_
            refine S_aload_n X dX12_pass_67 rfl hL2_0 ?_
            refine S_get X fgX12_46_11 0 rfl hf2 dX12_pass_68 ?_
            refine S_iload_n X dX12_pass_71 rfl hL2_3 ?_
            refine S_iload_n X dX12_pass_72 rfl hL2_3 ?_
            refine S_iload_n X dX12_pass_73 rfl hL2_1 ?_
            refine S_icmp_ne (tgt := 84) X dX12_pass_74 (by decide) (by omega) (by omega) (fun c_14 => ?_) (fun c_14 => ?_)
            ·
              refine S_iconst X dX12_pass_84 ?_
              refine S_sipush X dX12_pass_85 rfl ?_
              refine S_iload X dX12_pass_88 rfl ?_
              refine S_mmin X lkX12_293 rfl rfl (by decide) (by omega) (nle rfl) (nle rfl) (nle rfl) (nle rfl) dX12_pass_90 ?_
              refine S_mmax X lkX12_295 rfl rfl (by decide) (by omega) (nle rfl) (nle rfl) (nle rfl) (nle rfl) dX12_pass_93 ?_
              refine S_iast X 2 rfl (by omega) (by omega) (nle rfl) dX12_pass_96 ?_
              refine S_w (ws' := [(h0, ob 11 f), (hQ, ar 30 Q), (hB, ar 6 (uZ Bv i (max 1 (min 199 ((Bv i) + (-((Q (5 * i + 1)) * wet)))))))]) rfl ?_
              refine S_iinc X dX12_pass_97 (nle rfl) hL2_3 ?_
              refine S_goto (tgt := 2) X dX12_pass_100 (by decide) ?_
              exact ih2 (i + 1) (uZ Bv i (max 1 (min 199 ((Bv i) + (-((Q (5 * i + 1)) * wet)))))) _ (by omega) (fun x h0 h1 => (by omega : x < i ∨ x = i).elim (fun q9 => by rw [uZ_ne (by omega)]; exact hk x h0 q9) (fun q9 => by rw [q9, uZ_at, hpv]; first | (rw [if_pos (by omega)]) | (rw [if_neg (by omega)]; unfold drF c5; (repeat' split) <;> first | omega | (exfalso; omega)))) (fun x h => by rw [uZ_ne (by omega)]; exact hk2 x (by omega)) hL2_0 hL2_1 hL2_2 rfl (by omega)
            ·
              refine S_aload_n X dX12_pass_77 rfl hL2_0 ?_
              refine S_get X fgX12_256_11 0 rfl hf3 dX12_pass_78 ?_
              refine S_goto (tgt := 96) X dX12_pass_81 (by decide) ?_
              refine S_iast X 2 rfl (by omega) (by omega) (nle rfl) dX12_pass_96 ?_
              refine S_w (ws' := [(h0, ob 11 f), (hQ, ar 30 Q), (hB, ar 6 (uZ Bv i mt))]) rfl ?_
              refine S_iinc X dX12_pass_97 (nle rfl) hL2_3 ?_
              refine S_goto (tgt := 2) X dX12_pass_100 (by decide) ?_
              exact ih2 (i + 1) (uZ Bv i mt) _ (by omega) (fun x h0 h1 => (by omega : x < i ∨ x = i).elim (fun q9 => by rw [uZ_ne (by omega)]; exact hk x h0 q9) (fun q9 => by rw [q9, uZ_at, hpv]; first | (rw [if_pos (by omega)]) | (rw [if_neg (by omega)]; unfold drF c5; (repeat' split) <;> first | omega | (exfalso; omega)))) (fun x h => by rw [uZ_ne (by omega)]; exact hk2 x (by omega)) hL2_0 hL2_1 hL2_2 rfl (by omega)
          ·
            refine S_iload X dX12_pass_56 rfl ?_
            refine S_goto (tgt := 64) X dX12_pass_58 (by decide) ?_
            refine S_iadd X dX12_pass_64 ?_
            refine S_istore X dX12_pass_65 (nle rfl) ?_
            refine S_aload_n X dX12_pass_67 rfl hL2_0 ?_
            refine S_get X fgX12_46_11 0 rfl hf2 dX12_pass_68 ?_
            refine S_iload_n X dX12_pass_71 rfl hL2_3 ?_
            refine S_iload_n X dX12_pass_72 rfl hL2_3 ?_
            refine S_iload_n X dX12_pass_73 rfl hL2_1 ?_
            refine S_icmp_ne (tgt := 84) X dX12_pass_74 (by decide) (by omega) (by omega) (fun c_15 => ?_) (fun c_15 => ?_)
            ·
              refine S_iconst X dX12_pass_84 ?_
              refine S_sipush X dX12_pass_85 rfl ?_
              refine S_iload X dX12_pass_88 rfl ?_
              refine S_mmin X lkX12_293 rfl rfl (by decide) (by omega) (nle rfl) (nle rfl) (nle rfl) (nle rfl) dX12_pass_90 ?_
              refine S_mmax X lkX12_295 rfl rfl (by decide) (by omega) (nle rfl) (nle rfl) (nle rfl) (nle rfl) dX12_pass_93 ?_
              refine S_iast X 2 rfl (by omega) (by omega) (nle rfl) dX12_pass_96 ?_
              refine S_w (ws' := [(h0, ob 11 f), (hQ, ar 30 Q), (hB, ar 6 (uZ Bv i (max 1 (min 199 ((Bv i) + ((Q (5 * i + 1)) * wet))))))]) rfl ?_
              refine S_iinc X dX12_pass_97 (nle rfl) hL2_3 ?_
              refine S_goto (tgt := 2) X dX12_pass_100 (by decide) ?_
              exact ih2 (i + 1) (uZ Bv i (max 1 (min 199 ((Bv i) + ((Q (5 * i + 1)) * wet))))) _ (by omega) (fun x h0 h1 => (by omega : x < i ∨ x = i).elim (fun q9 => by rw [uZ_ne (by omega)]; exact hk x h0 q9) (fun q9 => by rw [q9, uZ_at, hpv]; first | (rw [if_pos (by omega)]) | (rw [if_neg (by omega)]; unfold drF c5; (repeat' split) <;> first | omega | (exfalso; omega)))) (fun x h => by rw [uZ_ne (by omega)]; exact hk2 x (by omega)) hL2_0 hL2_1 hL2_2 rfl (by omega)
            ·
              refine S_aload_n X dX12_pass_77 rfl hL2_0 ?_
              refine S_get X fgX12_256_11 0 rfl hf3 dX12_pass_78 ?_
              refine S_goto (tgt := 96) X dX12_pass_81 (by decide) ?_
              refine S_iast X 2 rfl (by omega) (by omega) (nle rfl) dX12_pass_96 ?_
              refine S_w (ws' := [(h0, ob 11 f), (hQ, ar 30 Q), (hB, ar 6 (uZ Bv i mt))]) rfl ?_
              refine S_iinc X dX12_pass_97 (nle rfl) hL2_3 ?_
              refine S_goto (tgt := 2) X dX12_pass_100 (by decide) ?_
              exact ih2 (i + 1) (uZ Bv i mt) _ (by omega) (fun x h0 h1 => (by omega : x < i ∨ x = i).elim (fun q9 => by rw [uZ_ne (by omega)]; exact hk x h0 q9) (fun q9 => by rw [q9, uZ_at, hpv]; first | (rw [if_pos (by omega)]) | (rw [if_neg (by omega)]; unfold drF c5; (repeat' split) <;> first | omega | (exfalso; omega)))) (fun x h => by rw [uZ_ne (by omega)]; exact hk2 x (by omega)) hL2_0 hL2_1 hL2_2 rfl (by omega)
        ·
          refine S_aload_n X dX12_pass_24 rfl hL2_0 ?_
          refine S_iload_n X dX12_pass_25 rfl hL2_3 ?_
          refine S_iconst X dX12_pass_26 ?_
          refine S_calli X (kX12_of l h0 f hQ Q i 1 hf1 (by omega) (by omega)) (is := [0, 1]) rfl (run_V X lkX12_284 0 rfl rfl (is := [0, 1]) (avs := [iv i, iv 1]) (rest := []) rfl rfl (nle rfl) ⟨nle rfl, nle rfl⟩ ⟨nle rfl, nle rfl⟩ dX12_pass_27 (by decide) rfl) (fun z_18 u_16 hp_17 => ?_)
          obtain ⟨hz_19, hu_20⟩ := hp_17
          subst hz_19
          subst hu_20
          refine ⟨rfl, ?_⟩
          refine S_w (ws' := [(h0, ob 11 f), (hQ, ar 30 Q), (hB, ar 6 Bv)]) rfl ?_
          refine S_goto (tgt := 41) X dX12_pass_30 (by decide) ?_
          refine S_istore X dX12_pass_41 (nle rfl) ?_
          refine S_aload_n X dX12_pass_43 rfl hL2_0 ?_
          refine S_get X fgX12_46_11 0 rfl hf2 dX12_pass_44 ?_
          refine S_iload_n X dX12_pass_47 rfl hL2_3 ?_
          refine S_iald X 2 rfl (by omega) (by omega) (nle rfl) dX12_pass_48 ?_
          refine S_iload X dX12_pass_49 rfl ?_
          refine S_iconst X dX12_pass_51 ?_
          have htm1 := Int.tmod_lt_of_pos (Q (5 * i + 2)) (b := 2) (by decide)
          have htm2 := Int.lt_tmod_of_pos (Q (5 * i + 2)) (b := 2) (by decide)
          refine S_irem X (by omega) (by decide) (by decide) dX12_pass_52 ?_
          refine S_if_ne (tgt := 61) X dX12_pass_53 (by decide) (by omega) (fun c_21 => ?_) (fun c_21 => ?_)
          ·
            refine S_iload X dX12_pass_61 rfl ?_
            refine S_ineg X dX12_pass_63 ?_
            refine S_iadd X dX12_pass_64 ?_
            refine S_istore X dX12_pass_65 (nle rfl) ?_
            refine S_aload_n X dX12_pass_67 rfl hL2_0 ?_
            refine S_get X fgX12_46_11 0 rfl hf2 dX12_pass_68 ?_
            refine S_iload_n X dX12_pass_71 rfl hL2_3 ?_
            refine S_iload_n X dX12_pass_72 rfl hL2_3 ?_
            refine S_iload_n X dX12_pass_73 rfl hL2_1 ?_
            refine S_icmp_ne (tgt := 84) X dX12_pass_74 (by decide) (by omega) (by omega) (fun c_22 => ?_) (fun c_22 => ?_)
            ·
              refine S_iconst X dX12_pass_84 ?_
              refine S_sipush X dX12_pass_85 rfl ?_
              refine S_iload X dX12_pass_88 rfl ?_
              refine S_mmin X lkX12_293 rfl rfl (by decide) (by omega) (nle rfl) (nle rfl) (nle rfl) (nle rfl) dX12_pass_90 ?_
              refine S_mmax X lkX12_295 rfl rfl (by decide) (by omega) (nle rfl) (nle rfl) (nle rfl) (nle rfl) dX12_pass_93 ?_
              refine S_iast X 2 rfl (by omega) (by omega) (nle rfl) dX12_pass_96 ?_
              refine S_w (ws' := [(h0, ob 11 f), (hQ, ar 30 Q), (hB, ar 6 (uZ Bv i (max 1 (min 199 ((Bv i) + (-(Q (5 * i + 1))))))))]) rfl ?_
              refine S_iinc X dX12_pass_97 (nle rfl) hL2_3 ?_
              refine S_goto (tgt := 2) X dX12_pass_100 (by decide) ?_
              exact ih2 (i + 1) (uZ Bv i (max 1 (min 199 ((Bv i) + (-(Q (5 * i + 1))))))) _ (by omega) (fun x h0 h1 => (by omega : x < i ∨ x = i).elim (fun q9 => by rw [uZ_ne (by omega)]; exact hk x h0 q9) (fun q9 => by rw [q9, uZ_at, hpv]; first | (rw [if_pos (by omega)]) | (rw [if_neg (by omega)]; unfold drF c5; (repeat' split) <;> first | omega | (exfalso; omega)))) (fun x h => by rw [uZ_ne (by omega)]; exact hk2 x (by omega)) hL2_0 hL2_1 hL2_2 rfl (by omega)
            ·
              refine S_aload_n X dX12_pass_77 rfl hL2_0 ?_
              refine S_get X fgX12_256_11 0 rfl hf3 dX12_pass_78 ?_
              refine S_goto (tgt := 96) X dX12_pass_81 (by decide) ?_
              refine S_iast X 2 rfl (by omega) (by omega) (nle rfl) dX12_pass_96 ?_
              refine S_w (ws' := [(h0, ob 11 f), (hQ, ar 30 Q), (hB, ar 6 (uZ Bv i mt))]) rfl ?_
              refine S_iinc X dX12_pass_97 (nle rfl) hL2_3 ?_
              refine S_goto (tgt := 2) X dX12_pass_100 (by decide) ?_
              exact ih2 (i + 1) (uZ Bv i mt) _ (by omega) (fun x h0 h1 => (by omega : x < i ∨ x = i).elim (fun q9 => by rw [uZ_ne (by omega)]; exact hk x h0 q9) (fun q9 => by rw [q9, uZ_at, hpv]; first | (rw [if_pos (by omega)]) | (rw [if_neg (by omega)]; unfold drF c5; (repeat' split) <;> first | omega | (exfalso; omega)))) (fun x h => by rw [uZ_ne (by omega)]; exact hk2 x (by omega)) hL2_0 hL2_1 hL2_2 rfl (by omega)
          ·
            refine S_iload X dX12_pass_56 rfl ?_
            refine S_goto (tgt := 64) X dX12_pass_58 (by decide) ?_
            refine S_iadd X dX12_pass_64 ?_
            refine S_istore X dX12_pass_65 (nle rfl) ?_
            refine S_aload_n X dX12_pass_67 rfl hL2_0 ?_
            refine S_get X fgX12_46_11 0 rfl hf2 dX12_pass_68 ?_
            refine S_iload_n X dX12_pass_71 rfl hL2_3 ?_
            refine S_iload_n X dX12_pass_72 rfl hL2_3 ?_
            refine S_iload_n X dX12_pass_73 rfl hL2_1 ?_
            refine S_icmp_ne (tgt := 84) X dX12_pass_74 (by decide) (by omega) (by omega) (fun c_23 => ?_) (fun c_23 => ?_)
            ·
              refine S_iconst X dX12_pass_84 ?_
              refine S_sipush X dX12_pass_85 rfl ?_
              refine S_iload X dX12_pass_88 rfl ?_
              refine S_mmin X lkX12_293 rfl rfl (by decide) (by omega) (nle rfl) (nle rfl) (nle rfl) (nle rfl) dX12_pass_90 ?_
              refine S_mmax X lkX12_295 rfl rfl (by decide) (by omega) (nle rfl) (nle rfl) (nle rfl) (nle rfl) dX12_pass_93 ?_
              refine S_iast X 2 rfl (by omega) (by omega) (nle rfl) dX12_pass_96 ?_
              refine S_w (ws' := [(h0, ob 11 f), (hQ, ar 30 Q), (hB, ar 6 (uZ Bv i (max 1 (min 199 ((Bv i) + (Q (5 * i + 1)))))))]) rfl ?_
              refine S_iinc X dX12_pass_97 (nle rfl) hL2_3 ?_
              refine S_goto (tgt := 2) X dX12_pass_100 (by decide) ?_
              exact ih2 (i + 1) (uZ Bv i (max 1 (min 199 ((Bv i) + (Q (5 * i + 1)))))) _ (by omega) (fun x h0 h1 => (by omega : x < i ∨ x = i).elim (fun q9 => by rw [uZ_ne (by omega)]; exact hk x h0 q9) (fun q9 => by rw [q9, uZ_at, hpv]; first | (rw [if_pos (by omega)]) | (rw [if_neg (by omega)]; unfold drF c5; (repeat' split) <;> first | omega | (exfalso; omega)))) (fun x h => by rw [uZ_ne (by omega)]; exact hk2 x (by omega)) hL2_0 hL2_1 hL2_2 rfl (by omega)
            ·
              refine S_aload_n X dX12_pass_77 rfl hL2_0 ?_
              refine S_get X fgX12_256_11 0 rfl hf3 dX12_pass_78 ?_
              refine S_goto (tgt := 96) X dX12_pass_81 (by decide) ?_
              refine S_iast X 2 rfl (by omega) (by omega) (nle rfl) dX12_pass_96 ?_
              refine S_w (ws' := [(h0, ob 11 f), (hQ, ar 30 Q), (hB, ar 6 (uZ Bv i mt))]) rfl ?_
              refine S_iinc X dX12_pass_97 (nle rfl) hL2_3 ?_
              refine S_goto (tgt := 2) X dX12_pass_100 (by decide) ?_
              exact ih2 (i + 1) (uZ Bv i mt) _ (by omega) (fun x h0 h1 => (by omega : x < i ∨ x = i).elim (fun q9 => by rw [uZ_ne (by omega)]; exact hk x h0 q9) (fun q9 => by rw [q9, uZ_at, hpv]; first | (rw [if_pos (by omega)]) | (rw [if_neg (by omega)]; unfold drF c5; (repeat' split) <;> first | omega | (exfalso; omega)))) (fun x h => by rw [uZ_ne (by omega)]; exact hk2 x (by omega)) hL2_0 hL2_1 hL2_2 rfl (by omega)
  exact lp2_0 (Int.toNat (pl + 1 - 0) + 1) 0 B _ (by omega) (fun x h0 h1 => by omega) (fun x h => rfl) rfl rfl rfl rfl (by omega)
end pt_47rday
/- 48.rgift.lean.txt -/
section pt_48rgift
def foldN {S : Type} (f : Int → S → S) : Nat → S → S
  | 0, s => s
  | n + 1, s => f (n : Int) (foldN f n s)
def foldI {S : Type} (f : Int → S → S) (p : Int) (s : S) : S := foldN f p.toNat s
theorem foldI_0 {S : Type} {f : Int → S → S} {s : S} : foldI f 0 s = s := rfl
theorem foldI_S {S : Type} {f : Int → S → S} {p : Int} {s : S} (h : 0 ≤ p) : foldI f (p + 1) s = f p (foldI f p s) := by
  unfold foldI
  rw [toNat_S h, foldN, toNat_c h]
section WK
variable (pl n ec mk mt : Int) (Fo Ho Lt Kd Dr wet : Int → Int)
/-- all rows of DAYS: the digits and how much of the first least one -/
def wkN : Nat → Int → Int → (Int → Int) → Int × Int → Int × Int
  | 0, _, dg, B, r => if r.1 = -1 ∨ WO pl n ec mk Fo Ho B Lt < r.2 then (dg, WO pl n ec mk Fo Ho B Lt) else r
  | K + 1, i, dg, B, r => foldI (fun a q => wkN K (i + 1) (10 * dg + a) (paF Kd Dr mt a (wet i) pl B) q) pl r
/-- how many rows of DAMPS make p last -/
def odN (p : Int) : Nat → (Int → Int) → Int
  | 0, B => if amI (tS pl ec mk Fo Ho B Lt (n - 1)) pl = p then 1 else 0
  | K + 1, B => smI (fun d => odN p K (paF Kd Dr mt (-1) d pl B)) 3
end WK
def mxd (K : Nat) : Int := if K = 0 then 999999 else if K = 1 then 99999 else if K = 2 then 9999 else if K = 3 then 999 else if K = 4 then 99 else if K = 5 then 9 else 0
theorem mxd_S {K : Nat} {d a : Int} (hK : K + 1 ≤ 6) (h0 : 0 ≤ d) (h : d ≤ mxd (K + 1)) (ha : 0 ≤ a ∧ a ≤ 5) : 0 ≤ 10 * d + a ∧ 10 * d + a ≤ mxd K := by
  unfold mxd at h ⊢
  have : K = 0 ∨ K = 1 ∨ K = 2 ∨ K = 3 ∨ K = 4 ∨ K = 5 := by omega
  rcases this with rfl | rfl | rfl | rfl | rfl | rfl <;> simp at h ⊢ <;> omega
theorem mxd_le (K : Nat) : 0 ≤ mxd K ∧ mxd K ≤ 999999 := by unfold mxd; (repeat' split) <;> omega
theorem pa_back {pl : Int} {B B2 W : Int → Int} {Kd Dr : Int → Int} {mt a wet : Int} (h1 : ∀ x, 0 ≤ x → x < pl → B2 x = W x) (h2 : ∀ x, x < 0 ∨ pl ≤ x → B2 x = paF Kd Dr mt a wet pl B x) (h3 : ∀ x, 0 ≤ x → x < pl → W x = B x) : B2 = B := by
  funext x
  by_cases h : 0 ≤ x ∧ x < pl
  · rw [h1 x h.1 h.2, h3 x h.1 h.2]
  · rw [h2 x (by omega)]
    unfold paF
    rw [if_neg h]
def aGift (pl n ec mk mt dy : Int) (Fo Ho B0 Lt Kd Dr : Int → Int) (wet w : Int) : Int := if 1 ≤ pl ∧ (w = 0 ∨ w = 1) ∧ dy ≤ 999 then (if w = 0 then amI (fun a => -WO pl n ec mk Fo Ho (paF Kd Dr mt a wet pl B0) Lt) pl else WO pl n ec mk Fo Ho (paF Kd Dr mt (amI (fun a => -WO pl n ec mk Fo Ho (paF Kd Dr mt a wet pl B0) Lt) pl) wet pl B0) Lt) else -1
def aWeekR (pl n ec mk mt dy : Int) (Fo Ho B0 Lt Kd Dr wet : Int → Int) (w : Int) (le : Int) : Int := if 1 ≤ pl ∧ (w = 0 ∨ w = 1) ∧ dy + 6 ≤ 1000 then (if w = 0 then (wkN pl n ec mk mt Fo Ho Lt Kd Dr wet 6 0 0 B0 (-1, le)).1 else (wkN pl n ec mk mt Fo Ho Lt Kd Dr wet 6 0 0 B0 (-1, le)).2) else -1
def aOddsR (pl n ec mk mt : Int) (Fo Ho B0 Lt Kd Dr : Int → Int) (p k : Int) : Int := if (0 ≤ p ∧ p < pl) ∧ 1 ≤ k ∧ k ≤ 6 then odN pl n ec mk mt Fo Ho Lt Kd Dr p k.toNat B0 else -1
set_option maxHeartbeats 4000000 in
set_option maxRecDepth 100000 in
theorem kX12_day (l : Launch) (h0 : Nat) (f : Nat → AV) (pl : Int) (mt : Int) (ho : Int) (hC : Nat) (hV : Nat) (hL : Nat) (hTf : Nat) (hSf : Nat) (hEf : Nat) (hle : Nat) (hst : Nat) (C : Int → Int) (V : Int → Int) (Lk : Int → Int) (Tf : Int → Int) (Sf : Int → Int) (Ef : Int → Int) (Le : Int → Int) (Sk : Int → Int) (cs : List (List Int × List Int)) (hQ : Nat) (hB : Nat) (Q : Int → Int) (B : Int → Int) (hK : Nat) (K : Int → Int) (dy : Int) (ac : Int) (at9 : Int) (hf0 : f 6 = rv hC) (hf1 : f 7 = rv hV) (hf2 : f 9 = rv hL) (hf3 : f 10 = rv hTf) (hf4 : f 11 = rv hSf) (hf5 : f 12 = rv hEf) (hf6 : f 15 = rv hle) (hf7 : f 16 = rv hst) (hf8 : f 21 = iv pl) (hf9 : f 22 = iv mt) (hf10 : f 27 = iv ho) (hf11 : f 20 = rv hQ) (hf12 : f 23 = rv hB) (hf13 : f 31 = rv hK) (hpm : (0 ≤ pl ∧ pl ≤ 6) ∧ 1 ≤ mt ∧ mt ≤ 99) (hho : ho = -1 ∨ (0 ≤ ho ∧ ho ≤ 3 ∧ lawAt C V Lk Tf Sf Ef ho cs)) (hod : okDy pl mt (c5 Q 2) (c5 Q 1)) (hB1 : ∀ p, 0 ≤ p → p < pl → 1 ≤ B p ∧ B p ≤ 199) (hdy : 0 ≤ dy ∧ dy ≤ 1000) (hac : 0 ≤ ac ∧ ac ≤ 60) (hx_a : inR at9) : AMi l yX12_day cX12_day 3 .int 6 0 0 [rv h0, iv at9] [(h0, ob 11 (uF (uF f 25 (iv dy)) 32 (iv ac))), (hQ, ar 30 Q), (hB, ar 6 B), (hK, ar 360 K), (hC, ar 1700 C), (hV, ar 1700 V), (hL, ar 5 Lk), (hTf, ar 450 Tf), (hSf, ar 450 Sf), (hEf, ar 450 Ef), (hle, ar 5 Le), (hst, ar 80 Sk)] (fun z u => (z = -1 ∧ u = [(h0, ob 11 (uF (uF f 25 (iv dy)) 32 (iv ac))), (hQ, ar 30 Q), (hB, ar 6 B), (hK, ar 360 K), (hC, ar 1700 C), (hV, ar 1700 V), (hL, ar 5 Lk), (hTf, ar 450 Tf), (hSf, ar 450 Sf), (hEf, ar 450 Ef), (hle, ar 5 Le), (hst, ar 80 Sk)] ∧ (pl = 0 ∨ at9 < -1 ∨ pl ≤ at9 ∨ 999 < dy)) ∨ (∃ B2 : Int → Int, ∃ K2 : Int → Int, ∃ ac2 : Int, ∃ L2 : Int → Int, ∃ S2 : Int → Int, z = dy + 1 ∧ u = [(h0, ob 11 (uF (uF f 25 (iv (dy + 1))) 32 (iv ac2))), (hQ, ar 30 Q), (hB, ar 6 B2), (hK, ar 360 K2), (hC, ar 1700 C), (hV, ar 1700 V), (hL, ar 5 Lk), (hTf, ar 450 Tf), (hSf, ar 450 Sf), (hEf, ar 450 Ef), (hle, ar 5 L2), (hst, ar 80 S2)] ∧ (1 ≤ pl ∧ -1 ≤ at9 ∧ at9 < pl ∧ dy ≤ 999) ∧ B2 = (paF (c5 Q 2) (c5 Q 1) mt at9 (aDy ho cs mt pl dy) pl B) ∧ ((ac < 60 ∧ ac2 = ac + 1) ∨ (ac = 60 ∧ ac2 = 60)) ∧ (∀ x, 0 ≤ x → x < 6 → K2 (6 * (ac2 - 1) + x) = B x) ∧ (∀ x, 0 ≤ x → x < 6 * (ac2 - 1) → K2 x = K (x + 6 * (ac + 1 - ac2))))) := by
  refine AMi.of2 rfl (nle rfl) ?_
  intro D G A p e s m args below meth c Po hPo X
  refine S_aload_n X dX12_day_0 rfl rfl ?_
  refine S_get X fgX12_253_11 0 rfl hf8 dX12_day_1 ?_
  refine S_if_eq (tgt := 31) X dX12_day_4 (by decide) (by omega) (fun c_1 => ?_) (fun c_1 => ?_)
  ·
    refine S_iconst X dX12_day_31 ?_
    exact S_iret X (nle rfl) (nle rfl) dX12_day_32 (hPo _ _ (Or.inl ⟨rfl, rfl, by omega⟩))
  ·
    refine S_iload_n X dX12_day_7 rfl rfl ?_
    refine S_iconst X dX12_day_8 ?_
    refine S_aload_n X dX12_day_9 rfl rfl ?_
    refine S_get X fgX12_253_11 0 rfl hf8 dX12_day_10 ?_
    refine S_iconst X dX12_day_13 ?_
    refine S_isub X dX12_day_14 ?_
    refine S_calli X (kX12_in l at9 (-1) (pl - 1) (by omega) (by omega) (by omega)) (is := []) rfl (run_S X lkX12_216 (is := []) (avs := [iv at9, iv (-1), iv (pl - 1)]) (rest := []) rfl rfl (nle rfl) ⟨nle rfl, nle rfl⟩ ⟨nle rfl, nle rfl⟩ dX12_day_15 (by decide) rfl) (fun z_4 u_2 hp_3 => ?_)
    rcases hp_3 with ⟨hz_5, hu_6, hq_7⟩ | ⟨hz_8, hu_9, hq_10⟩
    ·
      subst hz_5
      subst hu_6
      refine ⟨rfl, ?_⟩
      refine S_w (ws' := [(h0, ob 11 (uF (uF f 25 (iv dy)) 32 (iv ac))), (hQ, ar 30 Q), (hB, ar 6 B), (hK, ar 360 K), (hC, ar 1700 C), (hV, ar 1700 V), (hL, ar 5 Lk), (hTf, ar 450 Tf), (hSf, ar 450 Sf), (hEf, ar 450 Ef), (hle, ar 5 Le), (hst, ar 80 Sk)]) rfl ?_
      refine S_if_eq (tgt := 31) X dX12_day_18 (by decide) (by decide) (fun _ => ?_) (fun h9 => absurd h9 (by decide))
      refine S_iconst X dX12_day_31 ?_
      exact S_iret X (nle rfl) (nle rfl) dX12_day_32 (hPo _ _ (Or.inl ⟨rfl, rfl, by omega⟩))
    ·
      subst hz_8
      subst hu_9
      refine ⟨rfl, ?_⟩
      refine S_w (ws' := [(h0, ob 11 (uF (uF f 25 (iv dy)) 32 (iv ac))), (hQ, ar 30 Q), (hB, ar 6 B), (hK, ar 360 K), (hC, ar 1700 C), (hV, ar 1700 V), (hL, ar 5 Lk), (hTf, ar 450 Tf), (hSf, ar 450 Sf), (hEf, ar 450 Ef), (hle, ar 5 Le), (hst, ar 80 Sk)]) rfl ?_
      refine S_if_eq (tgt := 31) X dX12_day_18 (by decide) (by decide) (fun h9 => absurd h9 (by decide)) (fun _ => ?_)
      refine S_aload_n X dX12_day_21 rfl rfl ?_
      refine S_get (v := iv dy) X fgX12_259_11 0 rfl rfl dX12_day_22 ?_
      refine S_sipush X dX12_day_25 rfl ?_
      refine S_icmp_le (tgt := 33) X dX12_day_28 (by decide) (by omega) (by decide) (fun c_13 => ?_) (fun c_13 => ?_)
      ·
        refine S_aload_n X dX12_day_33 rfl rfl ?_
        refine S_get (v := iv ac) X fgX12_262_11 0 rfl rfl dX12_day_34 ?_
        refine S_bipush X dX12_day_37 rfl ?_
        refine S_icmp_ne (tgt := 83) X dX12_day_39 (by decide) (by omega) (by decide) (fun c_14 => ?_) (fun c_14 => ?_)
        ·
          have lp83_4 : ∀ (a1 : Int) (Kv : Int → Int) (L : Nat → Option AV), (ac < 60 ∧ a1 = ac) ∨ (ac = 60 ∧ a1 = 59) → (∀ x, 0 ≤ x → x < 6 * a1 → Kv x = K (x + 6 * (ac - a1))) → L 0 = some (rv h0) → L 1 = some (iv at9) → S_ p l e (rmD 6 0 0) s m args below meth c (MQ below (QcI D G A Po) args s 0 0 A) D G A 3 0 0 83 L [] [(h0, ob 11 (uF (uF f 25 (iv dy)) 32 (iv a1))), (hQ, ar 30 Q), (hB, ar 6 B), (hK, ar 360 Kv), (hC, ar 1700 C), (hV, ar 1700 V), (hL, ar 5 Lk), (hTf, ar 450 Tf), (hSf, ar 450 Sf), (hEf, ar 450 Ef), (hle, ar 5 Le), (hst, ar 80 Sk)] := by
            intro a1 Kv L83 ha1 hks0 hL83_0 hL83_1
            refine S_iconst X dX12_day_83 ?_
            refine S_istore_n X dX12_day_84 rfl (nle rfl) ?_
            have lp85_5 : ∀ (N : Nat) (i : Int) (Kw : Int → Int) (L : Nat → Option AV), 0 ≤ i ∧ i ≤ 6 → (∀ x, 0 ≤ x → x < i → Kw (6 * a1 + x) = B x) → (∀ x, x < 6 * a1 → Kw x = Kv x) → L 0 = some (rv h0) → L 1 = some (iv at9) → L 2 = some (iv i) → 7 - i < (N : Int) → S_ p l e (rmD 6 0 0) s m args below meth c (MQ below (QcI D G A Po) args s 0 0 A) D G A 3 0 0 85 L [] [(h0, ob 11 (uF (uF f 25 (iv dy)) 32 (iv a1))), (hQ, ar 30 Q), (hB, ar 6 B), (hK, ar 360 Kw), (hC, ar 1700 C), (hV, ar 1700 V), (hL, ar 5 Lk), (hTf, ar 450 Tf), (hSf, ar 450 Sf), (hEf, ar 450 Ef), (hle, ar 5 Le), (hst, ar 80 Sk)] := by
              intro N
              induction N with
              | zero =>
                intro i Kw L85 hi hkb hkc hL85_0 hL85_1 hL85_2 hN85
                exfalso; omega
              | succ N ih85 =>
                intro i Kw L85 hi hkb hkc hL85_0 hL85_1 hL85_2 hN85
                refine S_iload_n X dX12_day_85 rfl hL85_2 ?_
                refine S_bipush X dX12_day_86 rfl ?_
                refine S_icmp_ge (tgt := 117) X dX12_day_88 (by decide) (by omega) (by decide) (fun c_15 => ?_) (fun c_15 => ?_)
                ·
                  refine S_aload_n X dX12_day_117 rfl hL85_0 ?_
                  refine S_dup X dX12_day_118 ?_
                  refine S_get (v := iv a1) X fgX12_262_11 0 rfl rfl dX12_day_119 ?_
                  refine S_iconst X dX12_day_122 ?_
                  refine S_iadd X dX12_day_123 ?_
                  refine S_put X fpX12_262_11 0 rfl FT_i dX12_day_124 ?_
                  refine S_w (ws' := [(h0, ob 11 (uF (uF f 25 (iv dy)) 32 (iv (a1 + 1)))), (hQ, ar 30 Q), (hB, ar 6 B), (hK, ar 360 Kw), (hC, ar 1700 C), (hV, ar 1700 V), (hL, ar 5 Lk), (hTf, ar 450 Tf), (hSf, ar 450 Sf), (hEf, ar 450 Ef), (hle, ar 5 Le), (hst, ar 80 Sk)]) (by simp only [List.set]; rw [uF_same (k := 32)]) ?_
                  refine S_aload_n X dX12_day_127 rfl hL85_0 ?_
                  refine S_iload_n X dX12_day_128 rfl hL85_1 ?_
                  refine S_aload_n X dX12_day_129 rfl hL85_0 ?_
                  refine S_aload_n X dX12_day_130 rfl hL85_0 ?_
                  refine S_get (v := iv dy) X fgX12_259_11 0 rfl rfl dX12_day_131 ?_
                  refine S_calli X (kX12_dampOf l h0 (uF (uF f 25 (iv dy)) 32 (iv (a1 + 1))) pl mt ho hC hV hL hTf hSf hEf hle hst C V Lk Tf Sf Ef Le Sk cs dy hf0 hf1 hf2 hf3 hf4 hf5 hf6 hf7 hf8 hf9 hf10 (by omega) hho (by omega)) (is := [0, 4, 5, 6, 7, 8, 9, 10, 11]) rfl (run_V X lkX12_297 0 rfl rfl (is := [0, 4, 5, 6, 7, 8, 9, 10, 11]) (avs := [iv dy]) (rest := [iv at9, rv h0]) rfl rfl (nle rfl) ⟨nle rfl, nle rfl⟩ ⟨nle rfl, nle rfl⟩ dX12_day_134 (by decide) rfl) (fun z_18 u_16 hp_17 => ?_)
                  obtain ⟨L2_19, S2_20, hz_21, hu_22⟩ := hp_17
                  subst hz_21
                  subst hu_22
                  refine ⟨rfl, ?_⟩
                  refine S_w (ws' := [(h0, ob 11 (uF (uF f 25 (iv dy)) 32 (iv (a1 + 1)))), (hQ, ar 30 Q), (hB, ar 6 B), (hK, ar 360 Kw), (hC, ar 1700 C), (hV, ar 1700 V), (hL, ar 5 Lk), (hTf, ar 450 Tf), (hSf, ar 450 Sf), (hEf, ar 450 Ef), (hle, ar 5 L2_19), (hst, ar 80 S2_20)]) rfl ?_
                  have hw9 := aDy_in (ho := ho) (cs := cs) (mt := mt) (pl := pl) (d := dy) (by omega)
                  refine S_callv X (kX12_pass l h0 (uF (uF f 25 (iv dy)) 32 (iv (a1 + 1))) pl mt hQ hB Q B at9 (aDy ho cs mt pl dy) hf8 hf11 hf12 hf9 (by omega) hod hB1 (by omega) (by omega)) (is := [0, 1, 2]) rfl (run_V X lkX12_300 0 rfl rfl (is := [0, 1, 2]) (avs := [iv at9, iv (aDy ho cs mt pl dy)]) (rest := []) rfl rfl (nle rfl) ⟨nle rfl, nle rfl⟩ ⟨nle rfl, nle rfl⟩ dX12_day_137 (by decide) rfl) (fun u_23 hp_24 => ?_)
                  obtain ⟨B2_26, hu_28, hB2_29⟩ := hp_24
                  subst hu_28
                  refine ⟨rfl, ?_⟩
                  refine S_w (ws' := [(h0, ob 11 (uF (uF f 25 (iv dy)) 32 (iv (a1 + 1)))), (hQ, ar 30 Q), (hB, ar 6 B2_26), (hK, ar 360 Kw), (hC, ar 1700 C), (hV, ar 1700 V), (hL, ar 5 Lk), (hTf, ar 450 Tf), (hSf, ar 450 Sf), (hEf, ar 450 Ef), (hle, ar 5 L2_19), (hst, ar 80 S2_20)]) rfl ?_
                  have hB9 := hB2_29
                  refine S_aload_n X dX12_day_140 rfl hL85_0 ?_
                  refine S_dup X dX12_day_141 ?_
                  refine S_get (v := iv dy) X fgX12_259_11 0 rfl rfl dX12_day_142 ?_
                  refine S_iconst X dX12_day_145 ?_
                  refine S_iadd X dX12_day_146 ?_
                  refine S_put X fpX12_259_11 0 rfl FT_i dX12_day_147 ?_
                  refine S_w (ws' := [(h0, ob 11 (uF (uF f 25 (iv (dy + 1))) 32 (iv (a1 + 1)))), (hQ, ar 30 Q), (hB, ar 6 B2_26), (hK, ar 360 Kw), (hC, ar 1700 C), (hV, ar 1700 V), (hL, ar 5 Lk), (hTf, ar 450 Tf), (hSf, ar 450 Sf), (hEf, ar 450 Ef), (hle, ar 5 L2_19), (hst, ar 80 S2_20)]) (by simp only [List.set]; rw [uF_mv (j := 32) (k := 25) (by decide), uF_same (k := 25)]) ?_
                  refine S_aload_n X dX12_day_150 rfl hL85_0 ?_
                  refine S_get (v := iv (dy + 1)) X fgX12_259_11 0 rfl rfl dX12_day_151 ?_
                  exact S_iret X (nle rfl) (nle rfl) dX12_day_154 (hPo _ _ (Or.inr ⟨_, _, _, _, _, rfl, rfl, by omega, hB9, by omega, fun x h0 h1 => by rw [show a1 + 1 - 1 = a1 by omega]; exact hkb x h0 (by omega), fun x h0 h1 => (hkc x (by omega)).trans ((hks0 x h0 (by omega)).trans (by rw [show ac + 1 - (a1 + 1) = ac - a1 by omega]))⟩))
                ·
                  refine S_aload_n X dX12_day_91 rfl hL85_0 ?_
                  refine S_get X fgX12_62_11 0 rfl hf13 dX12_day_92 ?_
                  refine S_bipush X dX12_day_95 rfl ?_
                  refine S_aload_n X dX12_day_97 rfl hL85_0 ?_
                  refine S_get (v := iv a1) X fgX12_262_11 0 rfl rfl dX12_day_98 ?_
                  refine S_imul X dX12_day_101 ?_
                  refine S_iload_n X dX12_day_102 rfl hL85_2 ?_
                  refine S_iadd X dX12_day_103 ?_
                  refine S_aload_n X dX12_day_104 rfl hL85_0 ?_
                  refine S_get X fgX12_46_11 0 rfl hf12 dX12_day_105 ?_
                  refine S_iload_n X dX12_day_108 rfl hL85_2 ?_
                  refine S_iald X 2 rfl (by omega) (by omega) (nle rfl) dX12_day_109 ?_
                  refine S_iast X 3 rfl (by omega) (by omega) (nle rfl) dX12_day_110 ?_
                  refine S_w (ws' := [(h0, ob 11 (uF (uF f 25 (iv dy)) 32 (iv a1))), (hQ, ar 30 Q), (hB, ar 6 B), (hK, ar 360 (uZ Kw ((6 * a1) + i) (B i))), (hC, ar 1700 C), (hV, ar 1700 V), (hL, ar 5 Lk), (hTf, ar 450 Tf), (hSf, ar 450 Sf), (hEf, ar 450 Ef), (hle, ar 5 Le), (hst, ar 80 Sk)]) rfl ?_
                  refine S_iinc X dX12_day_111 (nle rfl) hL85_2 ?_
                  refine S_goto (tgt := 85) X dX12_day_114 (by decide) ?_
                  exact ih85 (i + 1) (uZ Kw ((6 * a1) + i) (B i)) _ (by omega) (fun x h0 h1 => (by omega : x < i ∨ x = i).elim (fun q9 => by rw [uZ_ne (by omega)]; exact hkb x h0 q9) (fun q9 => by rw [q9]; exact uZ_at)) (fun x h => by rw [uZ_ne (by omega)]; exact hkc x h) hL85_0 hL85_1 rfl (by omega)
            exact lp85_5 (Int.toNat (7 - 0) + 1) 0 Kv _ (by omega) (fun x h0 h1 => by omega) (fun x h => rfl) hL83_0 hL83_1 rfl (by omega)
          exact lp83_4 ac K _ (by omega) (fun x h0 h1 => by rw [Int.sub_self]; simp) rfl rfl
        ·
          refine S_bipush X dX12_day_42 rfl ?_
          refine S_istore_n X dX12_day_44 rfl (nle rfl) ?_
          have lp45_4 : ∀ (N : Nat) (i : Int) (Kv : Int → Int) (L : Nat → Option AV), 6 ≤ i ∧ i ≤ 360 → (∀ x, 0 ≤ x → x < i - 6 → Kv x = K (x + 6)) → (∀ x, i - 6 ≤ x → Kv x = K x) → L 0 = some (rv h0) → L 1 = some (iv at9) → L 2 = some (iv i) → 361 - i < (N : Int) → S_ p l e (rmD 6 0 0) s m args below meth c (MQ below (QcI D G A Po) args s 0 0 A) D G A 3 0 0 45 L [] [(h0, ob 11 (uF (uF f 25 (iv dy)) 32 (iv ac))), (hQ, ar 30 Q), (hB, ar 6 B), (hK, ar 360 Kv), (hC, ar 1700 C), (hV, ar 1700 V), (hL, ar 5 Lk), (hTf, ar 450 Tf), (hSf, ar 450 Sf), (hEf, ar 450 Ef), (hle, ar 5 Le), (hst, ar 80 Sk)] := by
            intro N
            induction N with
            | zero =>
              intro i Kv L45 hi hk hk2 hL45_0 hL45_1 hL45_2 hN45
              exfalso; omega
            | succ N ih45 =>
              intro i Kv L45 hi hk hk2 hL45_0 hL45_1 hL45_2 hN45
              refine S_iload_n X dX12_day_45 rfl hL45_2 ?_
              refine S_sipush X dX12_day_46 rfl ?_
              refine S_icmp_ge (tgt := 73) X dX12_day_49 (by decide) (by omega) (by decide) (fun c_30 => ?_) (fun c_30 => ?_)
              ·
                refine S_aload_n X dX12_day_73 rfl hL45_0 ?_
                refine S_dup X dX12_day_74 ?_
                refine S_get (v := iv ac) X fgX12_262_11 0 rfl rfl dX12_day_75 ?_
                refine S_iconst X dX12_day_78 ?_
                refine S_isub X dX12_day_79 ?_
                refine S_put X fpX12_262_11 0 rfl FT_i dX12_day_80 ?_
                refine S_w (ws' := [(h0, ob 11 (uF (uF f 25 (iv dy)) 32 (iv (ac - 1)))), (hQ, ar 30 Q), (hB, ar 6 B), (hK, ar 360 Kv), (hC, ar 1700 C), (hV, ar 1700 V), (hL, ar 5 Lk), (hTf, ar 450 Tf), (hSf, ar 450 Sf), (hEf, ar 450 Ef), (hle, ar 5 Le), (hst, ar 80 Sk)]) (by simp only [List.set]; rw [uF_same (k := 32)]) ?_
                have lp83_7 : ∀ (a1 : Int) (Kv : Int → Int) (L : Nat → Option AV), (ac < 60 ∧ a1 = ac) ∨ (ac = 60 ∧ a1 = 59) → (∀ x, 0 ≤ x → x < 6 * a1 → Kv x = K (x + 6 * (ac - a1))) → L 0 = some (rv h0) → L 1 = some (iv at9) → S_ p l e (rmD 6 0 0) s m args below meth c (MQ below (QcI D G A Po) args s 0 0 A) D G A 3 0 0 83 L [] [(h0, ob 11 (uF (uF f 25 (iv dy)) 32 (iv a1))), (hQ, ar 30 Q), (hB, ar 6 B), (hK, ar 360 Kv), (hC, ar 1700 C), (hV, ar 1700 V), (hL, ar 5 Lk), (hTf, ar 450 Tf), (hSf, ar 450 Sf), (hEf, ar 450 Ef), (hle, ar 5 Le), (hst, ar 80 Sk)] := by
                  intro a1 Kv L83 ha1 hks0 hL83_0 hL83_1
                  refine S_iconst X dX12_day_83 ?_
                  refine S_istore_n X dX12_day_84 rfl (nle rfl) ?_
                  have lp85_8 : ∀ (N : Nat) (i : Int) (Kw : Int → Int) (L : Nat → Option AV), 0 ≤ i ∧ i ≤ 6 → (∀ x, 0 ≤ x → x < i → Kw (6 * a1 + x) = B x) → (∀ x, x < 6 * a1 → Kw x = Kv x) → L 0 = some (rv h0) → L 1 = some (iv at9) → L 2 = some (iv i) → 7 - i < (N : Int) → S_ p l e (rmD 6 0 0) s m args below meth c (MQ below (QcI D G A Po) args s 0 0 A) D G A 3 0 0 85 L [] [(h0, ob 11 (uF (uF f 25 (iv dy)) 32 (iv a1))), (hQ, ar 30 Q), (hB, ar 6 B), (hK, ar 360 Kw), (hC, ar 1700 C), (hV, ar 1700 V), (hL, ar 5 Lk), (hTf, ar 450 Tf), (hSf, ar 450 Sf), (hEf, ar 450 Ef), (hle, ar 5 Le), (hst, ar 80 Sk)] := by
                    intro N
                    induction N with
                    | zero =>
                      intro i Kw L85 hi hkb hkc hL85_0 hL85_1 hL85_2 hN85
                      exfalso; omega
                    | succ N ih85 =>
                      intro i Kw L85 hi hkb hkc hL85_0 hL85_1 hL85_2 hN85
                      refine S_iload_n X dX12_day_85 rfl hL85_2 ?_
                      refine S_bipush X dX12_day_86 rfl ?_
                      refine S_icmp_ge (tgt := 117) X dX12_day_88 (by decide) (by omega) (by decide) (fun c_31 => ?_) (fun c_31 => ?_)
                      ·
                        refine S_aload_n X dX12_day_117 rfl hL85_0 ?_
                        refine S_dup X dX12_day_118 ?_
                        refine S_get (v := iv a1) X fgX12_262_11 0 rfl rfl dX12_day_119 ?_
                        refine S_iconst X dX12_day_122 ?_
                        refine S_iadd X dX12_day_123 ?_
                        refine S_put X fpX12_262_11 0 rfl FT_i dX12_day_124 ?_
                        refine S_w (ws' := [(h0, ob 11 (uF (uF f 25 (iv dy)) 32 (iv (a1 + 1)))), (hQ, ar 30 Q), (hB, ar 6 B), (hK, ar 360 Kw), (hC, ar 1700 C), (hV, ar 1700 V), (hL, ar 5 Lk), (hTf, ar 450 Tf), (hSf, ar 450 Sf), (hEf, ar 450 Ef), (hle, ar 5 Le), (hst, ar 80 Sk)]) (by simp only [List.set]; rw [uF_same (k := 32)]) ?_
                        refine S_aload_n X dX12_day_127 rfl hL85_0 ?_
                        refine S_iload_n X dX12_day_128 rfl hL85_1 ?_
                        refine S_aload_n X dX12_day_129 rfl hL85_0 ?_
                        refine S_aload_n X dX12_day_130 rfl hL85_0 ?_
                        refine S_get (v := iv dy) X fgX12_259_11 0 rfl rfl dX12_day_131 ?_
                        refine S_calli X (kX12_dampOf l h0 (uF (uF f 25 (iv dy)) 32 (iv (a1 + 1))) pl mt ho hC hV hL hTf hSf hEf hle hst C V Lk Tf Sf Ef Le Sk cs dy hf0 hf1 hf2 hf3 hf4 hf5 hf6 hf7 hf8 hf9 hf10 (by omega) hho (by omega)) (is := [0, 4, 5, 6, 7, 8, 9, 10, 11]) rfl (run_V X lkX12_297 0 rfl rfl (is := [0, 4, 5, 6, 7, 8, 9, 10, 11]) (avs := [iv dy]) (rest := [iv at9, rv h0]) rfl rfl (nle rfl) ⟨nle rfl, nle rfl⟩ ⟨nle rfl, nle rfl⟩ dX12_day_134 (by decide) rfl) (fun z_34 u_32 hp_33 => ?_)
                        obtain ⟨L2_35, S2_36, hz_37, hu_38⟩ := hp_33
                        subst hz_37
                        subst hu_38
                        refine ⟨rfl, ?_⟩
                        refine S_w (ws' := [(h0, ob 11 (uF (uF f 25 (iv dy)) 32 (iv (a1 + 1)))), (hQ, ar 30 Q), (hB, ar 6 B), (hK, ar 360 Kw), (hC, ar 1700 C), (hV, ar 1700 V), (hL, ar 5 Lk), (hTf, ar 450 Tf), (hSf, ar 450 Sf), (hEf, ar 450 Ef), (hle, ar 5 L2_35), (hst, ar 80 S2_36)]) rfl ?_
                        have hw9 := aDy_in (ho := ho) (cs := cs) (mt := mt) (pl := pl) (d := dy) (by omega)
                        refine S_callv X (kX12_pass l h0 (uF (uF f 25 (iv dy)) 32 (iv (a1 + 1))) pl mt hQ hB Q B at9 (aDy ho cs mt pl dy) hf8 hf11 hf12 hf9 (by omega) hod hB1 (by omega) (by omega)) (is := [0, 1, 2]) rfl (run_V X lkX12_300 0 rfl rfl (is := [0, 1, 2]) (avs := [iv at9, iv (aDy ho cs mt pl dy)]) (rest := []) rfl rfl (nle rfl) ⟨nle rfl, nle rfl⟩ ⟨nle rfl, nle rfl⟩ dX12_day_137 (by decide) rfl) (fun u_39 hp_40 => ?_)
                        obtain ⟨B2_42, hu_44, hB2_45⟩ := hp_40
                        subst hu_44
                        refine ⟨rfl, ?_⟩
                        refine S_w (ws' := [(h0, ob 11 (uF (uF f 25 (iv dy)) 32 (iv (a1 + 1)))), (hQ, ar 30 Q), (hB, ar 6 B2_42), (hK, ar 360 Kw), (hC, ar 1700 C), (hV, ar 1700 V), (hL, ar 5 Lk), (hTf, ar 450 Tf), (hSf, ar 450 Sf), (hEf, ar 450 Ef), (hle, ar 5 L2_35), (hst, ar 80 S2_36)]) rfl ?_
                        have hB9 := hB2_45
                        refine S_aload_n X dX12_day_140 rfl hL85_0 ?_
                        refine S_dup X dX12_day_141 ?_
                        refine S_get (v := iv dy) X fgX12_259_11 0 rfl rfl dX12_day_142 ?_
                        refine S_iconst X dX12_day_145 ?_
                        refine S_iadd X dX12_day_146 ?_
                        refine S_put X fpX12_259_11 0 rfl FT_i dX12_day_147 ?_
                        refine S_w (ws' := [(h0, ob 11 (uF (uF f 25 (iv (dy + 1))) 32 (iv (a1 + 1)))), (hQ, ar 30 Q), (hB, ar 6 B2_42), (hK, ar 360 Kw), (hC, ar 1700 C), (hV, ar 1700 V), (hL, ar 5 Lk), (hTf, ar 450 Tf), (hSf, ar 450 Sf), (hEf, ar 450 Ef), (hle, ar 5 L2_35), (hst, ar 80 S2_36)]) (by simp only [List.set]; rw [uF_mv (j := 32) (k := 25) (by decide), uF_same (k := 25)]) ?_
                        refine S_aload_n X dX12_day_150 rfl hL85_0 ?_
                        refine S_get (v := iv (dy + 1)) X fgX12_259_11 0 rfl rfl dX12_day_151 ?_
                        exact S_iret X (nle rfl) (nle rfl) dX12_day_154 (hPo _ _ (Or.inr ⟨_, _, _, _, _, rfl, rfl, by omega, hB9, by omega, fun x h0 h1 => by rw [show a1 + 1 - 1 = a1 by omega]; exact hkb x h0 (by omega), fun x h0 h1 => (hkc x (by omega)).trans ((hks0 x h0 (by omega)).trans (by rw [show ac + 1 - (a1 + 1) = ac - a1 by omega]))⟩))
                      ·
                        refine S_aload_n X dX12_day_91 rfl hL85_0 ?_
                        refine S_get X fgX12_62_11 0 rfl hf13 dX12_day_92 ?_
                        refine S_bipush X dX12_day_95 rfl ?_
                        refine S_aload_n X dX12_day_97 rfl hL85_0 ?_
                        refine S_get (v := iv a1) X fgX12_262_11 0 rfl rfl dX12_day_98 ?_
                        refine S_imul X dX12_day_101 ?_
                        refine S_iload_n X dX12_day_102 rfl hL85_2 ?_
                        refine S_iadd X dX12_day_103 ?_
                        refine S_aload_n X dX12_day_104 rfl hL85_0 ?_
                        refine S_get X fgX12_46_11 0 rfl hf12 dX12_day_105 ?_
                        refine S_iload_n X dX12_day_108 rfl hL85_2 ?_
                        refine S_iald X 2 rfl (by omega) (by omega) (nle rfl) dX12_day_109 ?_
                        refine S_iast X 3 rfl (by omega) (by omega) (nle rfl) dX12_day_110 ?_
                        refine S_w (ws' := [(h0, ob 11 (uF (uF f 25 (iv dy)) 32 (iv a1))), (hQ, ar 30 Q), (hB, ar 6 B), (hK, ar 360 (uZ Kw ((6 * a1) + i) (B i))), (hC, ar 1700 C), (hV, ar 1700 V), (hL, ar 5 Lk), (hTf, ar 450 Tf), (hSf, ar 450 Sf), (hEf, ar 450 Ef), (hle, ar 5 Le), (hst, ar 80 Sk)]) rfl ?_
                        refine S_iinc X dX12_day_111 (nle rfl) hL85_2 ?_
                        refine S_goto (tgt := 85) X dX12_day_114 (by decide) ?_
                        exact ih85 (i + 1) (uZ Kw ((6 * a1) + i) (B i)) _ (by omega) (fun x h0 h1 => (by omega : x < i ∨ x = i).elim (fun q9 => by rw [uZ_ne (by omega)]; exact hkb x h0 q9) (fun q9 => by rw [q9]; exact uZ_at)) (fun x h => by rw [uZ_ne (by omega)]; exact hkc x h) hL85_0 hL85_1 rfl (by omega)
                  exact lp85_8 (Int.toNat (7 - 0) + 1) 0 Kv _ (by omega) (fun x h0 h1 => by omega) (fun x h => rfl) hL83_0 hL83_1 rfl (by omega)
                exact lp83_7 (ac - 1) Kv _ (by omega) (fun x h0 h1 => (hk x h0 (by omega)).trans (by rw [show 6 * (ac - (ac - 1)) = 6 by omega])) hL45_0 hL45_1
              ·
                refine S_aload_n X dX12_day_52 rfl hL45_0 ?_
                refine S_get X fgX12_62_11 0 rfl hf13 dX12_day_53 ?_
                refine S_iload_n X dX12_day_56 rfl hL45_2 ?_
                refine S_bipush X dX12_day_57 rfl ?_
                refine S_isub X dX12_day_59 ?_
                refine S_aload_n X dX12_day_60 rfl hL45_0 ?_
                refine S_get X fgX12_62_11 0 rfl hf13 dX12_day_61 ?_
                refine S_iload_n X dX12_day_64 rfl hL45_2 ?_
                refine S_iald X 3 rfl (by omega) (by omega) (nle rfl) dX12_day_65 ?_
                refine S_iast X 3 rfl (by omega) (by omega) (nle rfl) dX12_day_66 ?_
                refine S_w (ws' := [(h0, ob 11 (uF (uF f 25 (iv dy)) 32 (iv ac))), (hQ, ar 30 Q), (hB, ar 6 B), (hK, ar 360 (uZ Kv (i - 6) (Kv i))), (hC, ar 1700 C), (hV, ar 1700 V), (hL, ar 5 Lk), (hTf, ar 450 Tf), (hSf, ar 450 Sf), (hEf, ar 450 Ef), (hle, ar 5 Le), (hst, ar 80 Sk)]) rfl ?_
                refine S_iinc X dX12_day_67 (nle rfl) hL45_2 ?_
                refine S_goto (tgt := 45) X dX12_day_70 (by decide) ?_
                exact ih45 (i + 1) (uZ Kv (i - 6) (Kv i)) _ (by omega) (fun x h0 h1 => (by omega : x < i - 6 ∨ x = i - 6).elim (fun q9 => by rw [uZ_ne (by omega)]; exact hk x h0 q9) (fun q9 => by rw [q9, uZ_at, hk2 i (by omega)]; congr 1; omega)) (fun x h => by rw [uZ_ne (by omega)]; exact hk2 x (by omega)) hL45_0 hL45_1 rfl (by omega)
          exact lp45_4 (Int.toNat (361 - 6) + 1) 6 K _ (by omega) (fun x h0 h1 => by omega) (fun x h => rfl) rfl rfl rfl (by omega)
      ·
        refine S_iconst X dX12_day_31 ?_
        exact S_iret X (nle rfl) (nle rfl) dX12_day_32 (hPo _ _ (Or.inl ⟨rfl, rfl, by omega⟩))
set_option maxHeartbeats 4000000 in
set_option maxRecDepth 100000 in
theorem kX12_gift (l : Launch) (h0 : Nat) (f : Nat → AV) (pl : Int) (n : Int) (ec : Int) (mk : Int) (hQ : Nat) (hB : Nat) (hE : Nat) (hA : Nat) (hM : Nat) (hW : Nat) (Q : Int → Int) (B : Int → Int) (E : Int → Int) (Ab : Int → Int) (Mt : Int → Int) (Wt : Int → Int) (v : Int) (mt : Int) (ho : Int) (dy : Int) (hC : Nat) (hV : Nat) (hL : Nat) (hTf : Nat) (hSf : Nat) (hEf : Nat) (hle : Nat) (hst : Nat) (C : Int → Int) (V : Int → Int) (Lk : Int → Int) (Tf : Int → Int) (Sf : Int → Int) (Ef : Int → Int) (Le : Int → Int) (Sk : Int → Int) (cs : List (List Int × List Int)) (hwb : Nat) (Wb : Int → Int) (hf0 : f 21 = iv pl) (hf1 : f 28 = iv n) (hf2 : f 29 = iv ec) (hf3 : f 26 = iv mk) (hf4 : f 20 = rv hQ) (hf5 : f 23 = rv hB) (hf6 : f 24 = rv hE) (hf7 : f 33 = rv hA) (hf8 : f 34 = rv hM) (hf9 : f 35 = rv hW) (hf10 : f 22 = iv mt) (hf11 : f 27 = iv ho) (hf12 : f 25 = iv dy) (hf13 : f 36 = rv hwb) (hf14 : f 6 = rv hC) (hf15 : f 7 = rv hV) (hf16 : f 9 = rv hL) (hf17 : f 10 = rv hTf) (hf18 : f 11 = rv hSf) (hf19 : f 12 = rv hEf) (hf20 : f 15 = rv hle) (hf21 : f 16 = rv hst) (hz : okZ pl n ec (c5 Q 3) (c5 Q 4) B E) (hx_v : inR v) (hpm : (0 ≤ pl ∧ pl ≤ 6) ∧ 1 ≤ mt ∧ mt ≤ 99) (hho : ho = -1 ∨ (0 ≤ ho ∧ ho ≤ 3 ∧ lawAt C V Lk Tf Sf Ef ho cs)) (hod : okDy pl mt (c5 Q 2) (c5 Q 1)) (hdy : 0 ≤ dy ∧ dy ≤ 1000) : AMi l yX12_gift cX12_gift 7 .int 6 0 0 [rv h0, iv v] [(h0, ob 11 f), (hQ, ar 30 Q), (hB, ar 6 B), (hE, ar 6 E), (hA, ar 1206 Ab), (hM, ar 180 Mt), (hW, ar 180 Wt), (hwb, ar 42 Wb), (hC, ar 1700 C), (hV, ar 1700 V), (hL, ar 5 Lk), (hTf, ar 450 Tf), (hSf, ar 450 Sf), (hEf, ar 450 Ef), (hle, ar 5 Le), (hst, ar 80 Sk)] (fun z u => ∃ A2 : Int → Int, ∃ M2 : Int → Int, ∃ W2 : Int → Int, ∃ Wb2 : Int → Int, ∃ L2 : Int → Int, ∃ S2 : Int → Int, z = aGift pl n ec mk mt dy (c5 Q 3) (c5 Q 4) B E (c5 Q 2) (c5 Q 1) (aDy ho cs mt pl dy) v ∧ u = [(h0, ob 11 f), (hQ, ar 30 Q), (hB, ar 6 B), (hE, ar 6 E), (hA, ar 1206 A2), (hM, ar 180 M2), (hW, ar 180 W2), (hwb, ar 42 Wb2), (hC, ar 1700 C), (hV, ar 1700 V), (hL, ar 5 Lk), (hTf, ar 450 Tf), (hSf, ar 450 Sf), (hEf, ar 450 Ef), (hle, ar 5 L2), (hst, ar 80 S2)]) := by
  refine AMi.of2 rfl (nle rfl) ?_
  intro D G A p e s m args below meth c Po hPo X
  have hz6 := hz.2.1
  have hz0 := hz.1
  have hzn := hz.2.2.1
  have hzm := hz.2.2.2.1
  have hze := hz.2.2.2.2
  refine S_aload_n X dX12_gift_0 rfl rfl ?_
  refine S_get X fgX12_253_11 0 rfl hf0 dX12_gift_1 ?_
  refine S_if_eq (tgt := 26) X dX12_gift_4 (by decide) (by omega) (fun c_1 => ?_) (fun c_1 => ?_)
  ·
    refine S_iconst X dX12_gift_26 ?_
    exact S_iret X (nle rfl) (nle rfl) dX12_gift_27 (hPo _ _ (⟨_, _, _, _, _, _, by unfold aGift; rw [if_neg (by omega)], rfl⟩))
  ·
    refine S_iload_n X dX12_gift_7 rfl rfl ?_
    refine S_iconst X dX12_gift_8 ?_
    refine S_iconst X dX12_gift_9 ?_
    refine S_calli X (kX12_in l v 0 1 (by omega) (by omega) (by omega)) (is := []) rfl (run_S X lkX12_216 (is := []) (avs := [iv v, iv 0, iv 1]) (rest := []) rfl rfl (nle rfl) ⟨nle rfl, nle rfl⟩ ⟨nle rfl, nle rfl⟩ dX12_gift_10 (by decide) rfl) (fun z_4 u_2 hp_3 => ?_)
    rcases hp_3 with ⟨hz_5, hu_6, hq_7⟩ | ⟨hz_8, hu_9, hq_10⟩
    ·
      subst hz_5
      subst hu_6
      refine ⟨rfl, ?_⟩
      refine S_w (ws' := [(h0, ob 11 f), (hQ, ar 30 Q), (hB, ar 6 B), (hE, ar 6 E), (hA, ar 1206 Ab), (hM, ar 180 Mt), (hW, ar 180 Wt), (hwb, ar 42 Wb), (hC, ar 1700 C), (hV, ar 1700 V), (hL, ar 5 Lk), (hTf, ar 450 Tf), (hSf, ar 450 Sf), (hEf, ar 450 Ef), (hle, ar 5 Le), (hst, ar 80 Sk)]) rfl ?_
      refine S_if_eq (tgt := 26) X dX12_gift_13 (by decide) (by decide) (fun _ => ?_) (fun h9 => absurd h9 (by decide))
      refine S_iconst X dX12_gift_26 ?_
      exact S_iret X (nle rfl) (nle rfl) dX12_gift_27 (hPo _ _ (⟨_, _, _, _, _, _, by unfold aGift; rw [if_neg (by omega)], rfl⟩))
    ·
      subst hz_8
      subst hu_9
      refine ⟨rfl, ?_⟩
      refine S_w (ws' := [(h0, ob 11 f), (hQ, ar 30 Q), (hB, ar 6 B), (hE, ar 6 E), (hA, ar 1206 Ab), (hM, ar 180 Mt), (hW, ar 180 Wt), (hwb, ar 42 Wb), (hC, ar 1700 C), (hV, ar 1700 V), (hL, ar 5 Lk), (hTf, ar 450 Tf), (hSf, ar 450 Sf), (hEf, ar 450 Ef), (hle, ar 5 Le), (hst, ar 80 Sk)]) rfl ?_
      refine S_if_eq (tgt := 26) X dX12_gift_13 (by decide) (by decide) (fun h9 => absurd h9 (by decide)) (fun _ => ?_)
      refine S_aload_n X dX12_gift_16 rfl rfl ?_
      refine S_get X fgX12_259_11 0 rfl hf12 dX12_gift_17 ?_
      refine S_sipush X dX12_gift_20 rfl ?_
      refine S_icmp_le (tgt := 28) X dX12_gift_23 (by decide) (by omega) (by decide) (fun c_13 => ?_) (fun c_13 => ?_)
      ·
        have hok := hz.s (by omega)
        have hpl := hok.2.1
        have hpl1 := hok.1
        have hn1 := hok.2.2.1
        have hn2 := hok.2.2.2.1
        have hec := hok.2.2.2.2
        refine S_aload_n X dX12_gift_28 rfl rfl ?_
        refine S_aload_n X dX12_gift_29 rfl rfl ?_
        refine S_get X fgX12_259_11 0 rfl hf12 dX12_gift_30 ?_
        refine S_calli X (kX12_dampOf l h0 f pl mt ho hC hV hL hTf hSf hEf hle hst C V Lk Tf Sf Ef Le Sk cs dy hf14 hf15 hf16 hf17 hf18 hf19 hf20 hf21 hf0 hf10 hf11 (by omega) hho (by omega)) (is := [0, 8, 9, 10, 11, 12, 13, 14, 15]) rfl (run_V X lkX12_297 0 rfl rfl (is := [0, 8, 9, 10, 11, 12, 13, 14, 15]) (avs := [iv dy]) (rest := []) rfl rfl (nle rfl) ⟨nle rfl, nle rfl⟩ ⟨nle rfl, nle rfl⟩ dX12_gift_33 (by decide) rfl) (fun z_16 u_14 hp_15 => ?_)
        obtain ⟨L2_17, S2_18, hz_19, hu_20⟩ := hp_15
        subst hz_19
        subst hu_20
        refine ⟨rfl, ?_⟩
        refine S_w (ws' := [(h0, ob 11 f), (hQ, ar 30 Q), (hB, ar 6 B), (hE, ar 6 E), (hA, ar 1206 Ab), (hM, ar 180 Mt), (hW, ar 180 Wt), (hwb, ar 42 Wb), (hC, ar 1700 C), (hV, ar 1700 V), (hL, ar 5 Lk), (hTf, ar 450 Tf), (hSf, ar 450 Sf), (hEf, ar 450 Ef), (hle, ar 5 L2_17), (hst, ar 80 S2_18)]) rfl ?_
        have hw9 := aDy_in (ho := ho) (cs := cs) (mt := mt) (pl := pl) (d := dy) (by omega)
        refine S_istore_n X dX12_gift_36 rfl (nle rfl) ?_
        refine S_aload_n X dX12_gift_37 rfl rfl ?_
        refine S_iconst X dX12_gift_38 ?_
        refine S_callv X (kX12_keepBeats l h0 f pl hB B hwb Wb 0 hf0 hf5 hf13 (by omega) (by omega)) (is := [0, 2, 7]) rfl (run_V X lkX12_336 0 rfl rfl (is := [0, 2, 7]) (avs := [iv 0]) (rest := []) rfl rfl (nle rfl) ⟨nle rfl, nle rfl⟩ ⟨nle rfl, nle rfl⟩ dX12_gift_39 (by decide) rfl) (fun u_21 hp_22 => ?_)
        obtain ⟨Wb2_24, hu_26, hW2_27, hW3_28⟩ := hp_22
        subst hu_26
        refine ⟨rfl, ?_⟩
        refine S_w (ws' := [(h0, ob 11 f), (hQ, ar 30 Q), (hB, ar 6 B), (hE, ar 6 E), (hA, ar 1206 Ab), (hM, ar 180 Mt), (hW, ar 180 Wt), (hwb, ar 42 Wb2_24), (hC, ar 1700 C), (hV, ar 1700 V), (hL, ar 5 Lk), (hTf, ar 450 Tf), (hSf, ar 450 Sf), (hEf, ar 450 Ef), (hle, ar 5 L2_17), (hst, ar 80 S2_18)]) rfl ?_
        have hKB := hW2_27
        refine S_iconst X dX12_gift_42 ?_
        refine S_istore_n X dX12_gift_43 rfl (nle rfl) ?_
        refine S_iconst X dX12_gift_44 ?_
        refine S_istore X dX12_gift_45 (nle rfl) ?_
        refine S_iconst X dX12_gift_47 ?_
        refine S_istore X dX12_gift_48 (nle rfl) ?_
        have lp50_3 : ∀ (N : Nat) (q : Int) (be : Int) (le : Int) (Bv : Int → Int) (Aw : Int → Int) (Mw : Int → Int) (Ww : Int → Int) (L : Nat → Option AV), 0 ≤ q ∧ q ≤ pl → -1 ≤ be ∧ be ≤ 6 → Bv = B → q = 0 ∧ be = -1 ∧ le = 0 ∨ 1 ≤ q ∧ be = amI (fun a => -(fun a9 => WO pl n ec mk (c5 Q 3) (c5 Q 4) (paF (c5 Q 2) (c5 Q 1) mt a9 (aDy ho cs mt pl dy) pl B) E) a) q ∧ le = (fun a9 => WO pl n ec mk (c5 Q 3) (c5 Q 4) (paF (c5 Q 2) (c5 Q 1) mt a9 (aDy ho cs mt pl dy) pl B) E) be ∧ 0 ≤ le ∧ le ≤ 7470 ∧ 0 ≤ be → L 0 = some (rv h0) → L 1 = some (iv v) → L 2 = some (iv (aDy ho cs mt pl dy)) → L 3 = some (iv be) → L 4 = some (iv le) → L 5 = some (iv q) → pl + 1 - q < (N : Int) → S_ p l e (rmD 6 0 0) s m args below meth c (MQ below (QcI D G A Po) args s 0 0 A) D G A 7 0 0 50 L [] [(h0, ob 11 f), (hQ, ar 30 Q), (hB, ar 6 Bv), (hE, ar 6 E), (hA, ar 1206 Aw), (hM, ar 180 Mw), (hW, ar 180 Ww), (hwb, ar 42 Wb2_24), (hC, ar 1700 C), (hV, ar 1700 V), (hL, ar 5 Lk), (hTf, ar 450 Tf), (hSf, ar 450 Sf), (hEf, ar 450 Ef), (hle, ar 5 L2_17), (hst, ar 80 S2_18)] := by
          intro N
          induction N with
          | zero =>
            intro q be le Bv Aw Mw Ww L50 hq hbr hBv hbe hL50_0 hL50_1 hL50_2 hL50_3 hL50_4 hL50_5 hN50
            exfalso; omega
          | succ N ih50 =>
            intro q be le Bv Aw Mw Ww L50 hq hbr hBv hbe hL50_0 hL50_1 hL50_2 hL50_3 hL50_4 hL50_5 hN50
            refine S_iload X dX12_gift_50 hL50_5 ?_
            refine S_aload_n X dX12_gift_52 rfl hL50_0 ?_
            refine S_get X fgX12_253_11 0 rfl hf0 dX12_gift_53 ?_
            refine S_icmp_ge (tgt := 102) X dX12_gift_56 (by decide) (by omega) (by omega) (fun c_29 => ?_) (fun c_29 => ?_)
            ·
              refine S_iload_n X dX12_gift_102 rfl hL50_1 ?_
              refine S_if_ne (tgt := 110) X dX12_gift_103 (by decide) (by omega) (fun c_30 => ?_) (fun c_30 => ?_)
              ·
                refine S_iload X dX12_gift_110 hL50_4 ?_
                exact S_iret X (nle rfl) (nle rfl) dX12_gift_112 (hPo _ _ (⟨_, _, _, _, _, _, by unfold aGift; rw [if_pos (by omega), if_neg (by omega)]; rcases hbe with h9 | h9; (exfalso; omega); rw [h9.2.2.1, h9.2.1, show q = pl by omega], by rw [hBv]⟩))
              ·
                refine S_iload_n X dX12_gift_106 rfl hL50_3 ?_
                refine S_goto (tgt := 112) X dX12_gift_107 (by decide) ?_
                exact S_iret X (nle rfl) (nle rfl) dX12_gift_112 (hPo _ _ (⟨_, _, _, _, _, _, by unfold aGift; rw [if_pos (by omega), if_pos (by omega)]; rcases hbe with h9 | h9; (exfalso; omega); rw [h9.2.1, show q = pl by omega], by rw [hBv]⟩))
            ·
              refine S_aload_n X dX12_gift_59 rfl hL50_0 ?_
              refine S_iload X dX12_gift_60 hL50_5 ?_
              refine S_iload_n X dX12_gift_62 rfl hL50_2 ?_
              refine S_callv X (kX12_pass l h0 f pl mt hQ hB Q Bv q (aDy ho cs mt pl dy) hf0 hf4 hf5 hf10 (by omega) hod (by rw [hBv]; exact fun p h0 h1 => (hok.2.2.2.2.2.2 p h0 h1).2.2.1) (by omega) (by omega)) (is := [0, 1, 2]) rfl (run_V X lkX12_300 0 rfl rfl (is := [0, 1, 2]) (avs := [iv q, iv (aDy ho cs mt pl dy)]) (rest := []) rfl rfl (nle rfl) ⟨nle rfl, nle rfl⟩ ⟨nle rfl, nle rfl⟩ dX12_gift_63 (by decide) rfl) (fun u_31 hp_32 => ?_)
              obtain ⟨B2_34, hu_36, hB2_37⟩ := hp_32
              subst hu_36
              refine ⟨rfl, ?_⟩
              refine S_w (ws' := [(h0, ob 11 f), (hQ, ar 30 Q), (hB, ar 6 B2_34), (hE, ar 6 E), (hA, ar 1206 Aw), (hM, ar 180 Mw), (hW, ar 180 Ww), (hwb, ar 42 Wb2_24), (hC, ar 1700 C), (hV, ar 1700 V), (hL, ar 5 Lk), (hTf, ar 450 Tf), (hSf, ar 450 Sf), (hEf, ar 450 Ef), (hle, ar 5 L2_17), (hst, ar 80 S2_18)]) rfl ?_
              have hB9 := hB2_37
              refine S_aload_n X dX12_gift_66 rfl hL50_0 ?_
              refine S_calli X (kX12_worstNow l h0 f pl n ec mk hQ hB hE hA hM hW Q B2_34 E Aw Mw Ww hf0 hf1 hf2 hf3 hf4 hf5 hf6 hf7 hf8 hf9 (by rw [hB9, hBv]; exact hok.pa hod)) (is := [0, 1, 2, 3, 4, 5, 6]) rfl (run_V X lkX12_321 0 rfl rfl (is := [0, 1, 2, 3, 4, 5, 6]) (avs := []) (rest := []) rfl rfl (nle rfl) ⟨nle rfl, nle rfl⟩ ⟨nle rfl, nle rfl⟩ dX12_gift_67 (by decide) rfl) (fun z_40 u_38 hp_39 => ?_)
              obtain ⟨A2_41, M2_42, W2_43, hz_44, hu_45⟩ := hp_39
              subst hz_44
              subst hu_45
              refine ⟨rfl, ?_⟩
              refine S_w (ws' := [(h0, ob 11 f), (hQ, ar 30 Q), (hB, ar 6 B2_34), (hE, ar 6 E), (hA, ar 1206 A2_41), (hM, ar 180 M2_42), (hW, ar 180 W2_43), (hwb, ar 42 Wb2_24), (hC, ar 1700 C), (hV, ar 1700 V), (hL, ar 5 Lk), (hTf, ar 450 Tf), (hSf, ar 450 Sf), (hEf, ar 450 Ef), (hle, ar 5 L2_17), (hst, ar 80 S2_18)]) rfl ?_
              have hv9 : WO pl n ec mk (c5 Q 3) (c5 Q 4) B2_34 E = WO pl n ec mk (c5 Q 3) (c5 Q 4) (paF (c5 Q 2) (c5 Q 1) mt q (aDy ho cs mt pl dy) pl B) E := by rw [hB9, hBv]
              have hwr := (hok.pa (at9 := q) (wet := aDy ho cs mt pl dy) hod).worst (mk := mk)
              refine S_istore X dX12_gift_70 (nle rfl) ?_
              refine S_aload_n X dX12_gift_72 rfl hL50_0 ?_
              refine S_iconst X dX12_gift_73 ?_
              refine S_callv X (kX12_takeBeats l h0 f pl hB B2_34 hwb Wb2_24 0 hf0 hf5 hf13 (by omega) (by omega)) (is := [0, 2, 7]) rfl (run_V X lkX12_342 0 rfl rfl (is := [0, 2, 7]) (avs := [iv 0]) (rest := []) rfl rfl (nle rfl) ⟨nle rfl, nle rfl⟩ ⟨nle rfl, nle rfl⟩ dX12_gift_74 (by decide) rfl) (fun u_46 hp_47 => ?_)
              obtain ⟨B2_49, hu_51, hB2_52, hB3_53⟩ := hp_47
              subst hu_51
              refine ⟨rfl, ?_⟩
              refine S_w (ws' := [(h0, ob 11 f), (hQ, ar 30 Q), (hB, ar 6 B2_49), (hE, ar 6 E), (hA, ar 1206 A2_41), (hM, ar 180 M2_42), (hW, ar 180 W2_43), (hwb, ar 42 Wb2_24), (hC, ar 1700 C), (hV, ar 1700 V), (hL, ar 5 Lk), (hTf, ar 450 Tf), (hSf, ar 450 Sf), (hEf, ar 450 Ef), (hle, ar 5 L2_17), (hst, ar 80 S2_18)]) rfl ?_
              refine S_iload_n X dX12_gift_77 rfl hL50_3 ?_
              refine S_iconst X dX12_gift_78 ?_
              refine S_icmp_eq (tgt := 89) X dX12_gift_79 (by decide) (by omega) (by decide) (fun c_54 => ?_) (fun c_54 => ?_)
              ·
                refine S_iload X dX12_gift_89 hL50_5 ?_
                refine S_istore_n X dX12_gift_91 rfl (nle rfl) ?_
                refine S_iload X dX12_gift_92 rfl ?_
                refine S_istore X dX12_gift_94 (nle rfl) ?_
                refine S_iinc X dX12_gift_96 (nle rfl) hL50_5 ?_
                refine S_goto (tgt := 50) X dX12_gift_99 (by decide) ?_
                exact ih50 (q + 1) q (WO pl n ec mk (c5 Q 3) (c5 Q 4) B2_34 E) B2_49 A2_41 M2_42 W2_43 _ (by omega) (by omega) (pa_back (pl := pl) (W := fun x => Wb2_24 (6 * 0 + x)) (fun x h0 h1 => hB2_52 x h0 h1) (fun x h => by rw [hB3_53 x h, hB9, hBv]) (fun x h0 h1 => hKB x h0 h1)) (am_step (W := (fun a9 => WO pl n ec mk (c5 Q 3) (c5 Q 4) (paF (c5 Q 2) (c5 Q 1) mt a9 (aDy ho cs mt pl dy) pl B) E)) (by omega) hbe hv9 (by omega) (by exact Or.inl ⟨rfl, rfl, by omega⟩)) hL50_0 hL50_1 hL50_2 rfl rfl rfl (by omega)
              ·
                refine S_iload X dX12_gift_82 rfl ?_
                refine S_iload X dX12_gift_84 hL50_4 ?_
                refine S_icmp_ge (tgt := 96) X dX12_gift_86 (by decide) (by omega) (by omega) (fun c_55 => ?_) (fun c_55 => ?_)
                ·
                  refine S_iinc X dX12_gift_96 (nle rfl) hL50_5 ?_
                  refine S_goto (tgt := 50) X dX12_gift_99 (by decide) ?_
                  exact ih50 (q + 1) be le B2_49 A2_41 M2_42 W2_43 _ (by omega) (by omega) (pa_back (pl := pl) (W := fun x => Wb2_24 (6 * 0 + x)) (fun x h0 h1 => hB2_52 x h0 h1) (fun x h => by rw [hB3_53 x h, hB9, hBv]) (fun x h0 h1 => hKB x h0 h1)) (am_step (W := (fun a9 => WO pl n ec mk (c5 Q 3) (c5 Q 4) (paF (c5 Q 2) (c5 Q 1) mt a9 (aDy ho cs mt pl dy) pl B) E)) (by omega) hbe hv9 (by omega) (by exact Or.inr ⟨rfl, rfl, by omega⟩)) hL50_0 hL50_1 hL50_2 hL50_3 hL50_4 rfl (by omega)
                ·
                  refine S_iload X dX12_gift_89 hL50_5 ?_
                  refine S_istore_n X dX12_gift_91 rfl (nle rfl) ?_
                  refine S_iload X dX12_gift_92 rfl ?_
                  refine S_istore X dX12_gift_94 (nle rfl) ?_
                  refine S_iinc X dX12_gift_96 (nle rfl) hL50_5 ?_
                  refine S_goto (tgt := 50) X dX12_gift_99 (by decide) ?_
                  exact ih50 (q + 1) q (WO pl n ec mk (c5 Q 3) (c5 Q 4) B2_34 E) B2_49 A2_41 M2_42 W2_43 _ (by omega) (by omega) (pa_back (pl := pl) (W := fun x => Wb2_24 (6 * 0 + x)) (fun x h0 h1 => hB2_52 x h0 h1) (fun x h => by rw [hB3_53 x h, hB9, hBv]) (fun x h0 h1 => hKB x h0 h1)) (am_step (W := (fun a9 => WO pl n ec mk (c5 Q 3) (c5 Q 4) (paF (c5 Q 2) (c5 Q 1) mt a9 (aDy ho cs mt pl dy) pl B) E)) (by omega) hbe hv9 (by omega) (by exact Or.inl ⟨rfl, rfl, by omega⟩)) hL50_0 hL50_1 hL50_2 rfl rfl rfl (by omega)
        exact lp50_3 (Int.toNat (pl + 1 - 0) + 1) 0 (-1) 0 B Ab Mt Wt _ (by omega) (by omega) (rfl) (Or.inl ⟨rfl, rfl, rfl⟩) rfl rfl rfl rfl rfl rfl (by omega)
      ·
        refine S_iconst X dX12_gift_26 ?_
        exact S_iret X (nle rfl) (nle rfl) dX12_gift_27 (hPo _ _ (⟨_, _, _, _, _, _, by unfold aGift; rw [if_neg (by omega)], rfl⟩))
end pt_48rgift
/- 49.rweek.lean.txt -/
section pt_49rweek
theorem foldI_c {S : Type} {f g : Int → S → S} {s : S} : ∀ p, 0 ≤ p → (∀ a, 0 ≤ a → a < p → ∀ q, f a q = g a q) → foldI f p s = foldI g p s := by
  refine upI (fun _ => rfl) (fun p hp ih h => ?_)
  rw [foldI_S hp, foldI_S hp, ih (fun a h0 h1 q => h a h0 (by omega) q), h p hp (by omega)]
theorem wkN_wet {pl n ec mk mt : Int} {Fo Ho Lt Kd Dr w w2 : Int → Int} (hp : 0 ≤ pl) (h : ∀ x, 0 ≤ x → x < 6 → w x = w2 x) : ∀ (K : Nat) (i dg : Int) (B : Int → Int) (r : Int × Int), 0 ≤ i → i + K = 6 → wkN pl n ec mk mt Fo Ho Lt Kd Dr w K i dg B r = wkN pl n ec mk mt Fo Ho Lt Kd Dr w2 K i dg B r := by
  intro K
  induction K with
  | zero => intro i dg B r h0 h1; rfl
  | succ K ih =>
    intro i dg B r h0 h1
    rw [wkN, wkN, h i h0 (by omega)]
    exact foldI_c pl hp (fun a a0 a1 q => ih (i + 1) (10 * dg + a) _ q (by omega) (by omega))
def C_X12_weekFrom (l : Launch) (K : Nat) (d : Nat) : Prop := ∀ (h0 : Nat) (f : Nat → AV) (pl : Int) (n : Int) (ec : Int) (mk : Int) (hQ : Nat) (hB : Nat) (hE : Nat) (hA : Nat) (hM : Nat) (hW : Nat) (Q : Int → Int) (B : Int → Int) (E : Int → Int) (Ab : Int → Int) (Mt : Int → Int) (Wt : Int → Int) (mt : Int) (hwb : Nat) (Wb : Int → Int) (hwd : Nat) (Wd : Int → Int) (ro : Int) (le : Int) (i : Int) (dg : Int), (f 21 = iv pl) → (f 28 = iv n) → (f 29 = iv ec) → (f 26 = iv mk) → (f 20 = rv hQ) → (f 23 = rv hB) → (f 24 = rv hE) → (f 33 = rv hA) → (f 34 = rv hM) → (f 35 = rv hW) → (f 22 = iv mt) → (f 36 = rv hwb) → (f 37 = rv hwd) → (okS pl n ec (c5 Q 3) (c5 Q 4) B E) → (okDy pl mt (c5 Q 2) (c5 Q 1)) → (0 ≤ i ∧ i + (K : Int) = 6) → (0 ≤ dg ∧ dg ≤ mxd K) → (∀ j, 0 ≤ j → j < 6 → 0 ≤ Wd j ∧ Wd j ≤ 9) → (ro = -1 ∨ ((0 ≤ ro ∧ ro ≤ 999999) ∧ 0 ≤ le ∧ le ≤ 7470)) → AMv l yX12_weekFrom cX12_weekFrom 4 d 0 0 [rv h0, iv i, iv dg] [(h0, ob 11 (uF (uF f 38 (iv ro)) 39 (iv le))), (hQ, ar 30 Q), (hB, ar 6 B), (hE, ar 6 E), (hA, ar 1206 Ab), (hM, ar 180 Mt), (hW, ar 180 Wt), (hwb, ar 42 Wb), (hwd, ar 6 Wd)] (fun u => ∃ r2 : Int × Int, ∃ A2 : Int → Int, ∃ M2 : Int → Int, ∃ W2 : Int → Int, ∃ Wb2 : Int → Int, u = [(h0, ob 11 (uF (uF f 38 (iv r2.1)) 39 (iv r2.2))), (hQ, ar 30 Q), (hB, ar 6 B), (hE, ar 6 E), (hA, ar 1206 A2), (hM, ar 180 M2), (hW, ar 180 W2), (hwb, ar 42 Wb2), (hwd, ar 6 Wd)] ∧ r2 = wkN pl n ec mk mt (c5 Q 3) (c5 Q 4) E (c5 Q 2) (c5 Q 1) Wd K i dg B (ro, le) ∧ (∀ x, x < 6 * i → Wb2 x = Wb x) ∧ ((r2.1 = -1 ∧ ro = -1) ∨ ((0 ≤ r2.1 ∧ r2.1 ≤ 999999) ∧ 0 ≤ r2.2 ∧ r2.2 ≤ 7470)))
set_option maxHeartbeats 4000000 in
set_option maxRecDepth 100000 in
theorem kX12_weekFrom (l : Launch) (K : Nat) (d : Nat) (hd : 5 ≤ d) (hnx : ∀ K2 : Nat, K = K2 + 1 → C_X12_weekFrom l K2 d) : C_X12_weekFrom l K (d + 1) := by
  intro h0 f pl n ec mk hQ hB hE hA hM hW Q B E Ab Mt Wt mt hwb Wb hwd Wd ro le i dg hf0 hf1 hf2 hf3 hf4 hf5 hf6 hf7 hf8 hf9 hf10 hf11 hf12 hok hod hi hdg hwd1 hro
  refine AMv.of2 rfl (nle rfl) ?_
  intro D G A p e s m args below meth c Po hPo hnm X
  have hok6 := hok.2.1
  have hok1 := hok.1
  have hmx := mxd_le K
  refine S_iload_n X dX12_weekFrom_0 rfl rfl ?_
  refine S_bipush X dX12_weekFrom_1 rfl ?_
  refine S_icmp_ne (tgt := 38) X dX12_weekFrom_3 (by decide) (by omega) (by decide) (fun c_1 => ?_) (fun c_1 => ?_)
  ·
    obtain ⟨K2, hK2⟩ : ∃ K2, K = K2 + 1 := ⟨K - 1, by omega⟩
    refine S_aload_n X dX12_weekFrom_38 rfl rfl ?_
    refine S_iload_n X dX12_weekFrom_39 rfl rfl ?_
    refine S_callv X (kX12_keepBeats l h0 (uF (uF f 38 (iv ro)) 39 (iv le)) pl hB B hwb Wb i hf0 hf5 hf11 (by omega) (by omega)) (is := [0, 2, 7]) rfl (run_V X lkX12_336 0 rfl rfl (is := [0, 2, 7]) (avs := [iv i]) (rest := []) rfl rfl (nle rfl) ⟨by simp only [rmD]; omega, by simp only [rmD]; omega⟩ ⟨nle rfl, nle rfl⟩ dX12_weekFrom_40 (by decide) rfl) (fun u_2 hp_3 => ?_)
    obtain ⟨Wb2_5, hu_7, hW2_8, hW3_9⟩ := hp_3
    subst hu_7
    refine ⟨rfl, ?_⟩
    refine S_w (ws' := [(h0, ob 11 (uF (uF f 38 (iv ro)) 39 (iv le))), (hQ, ar 30 Q), (hB, ar 6 B), (hE, ar 6 E), (hA, ar 1206 Ab), (hM, ar 180 Mt), (hW, ar 180 Wt), (hwb, ar 42 Wb2_5), (hwd, ar 6 Wd)]) rfl ?_
    have hKB := hW2_8
    have hKC := hW3_9
    refine S_iconst X dX12_weekFrom_43 ?_
    refine S_istore_n X dX12_weekFrom_44 rfl (nle rfl) ?_
    have lp45_1 : ∀ (N : Nat) (q : Int) (ro9 : Int) (le9 : Int) (Bv : Int → Int) (Aw : Int → Int) (Mw : Int → Int) (Ww : Int → Int) (Wv : Int → Int) (L : Nat → Option AV), 0 ≤ q ∧ q ≤ pl → Bv = B → (∀ x, x < 6 * (i + 1) → Wv x = Wb2_5 x) → ro9 = -1 ∨ ((0 ≤ ro9 ∧ ro9 ≤ 999999) ∧ 0 ≤ le9 ∧ le9 ≤ 7470) → (ro9 = -1 ∧ ro = -1) ∨ ((0 ≤ ro9 ∧ ro9 ≤ 999999) ∧ 0 ≤ le9 ∧ le9 ≤ 7470) → foldI (fun a q => wkN pl n ec mk mt (c5 Q 3) (c5 Q 4) E (c5 Q 2) (c5 Q 1) Wd K2 (i + 1) (10 * dg + a) (paF (c5 Q 2) (c5 Q 1) mt a (Wd i) pl B) q) q (ro, le) = (ro9, le9) → L 0 = some (rv h0) → L 1 = some (iv i) → L 2 = some (iv dg) → L 3 = some (iv q) → pl + 1 - q < (N : Int) → S_ p l e (rmD (d + 1) 0 0) s m args below meth c (MQ below (QcV D G A Po) args s 0 0 A) D G A 4 0 0 45 L [] [(h0, ob 11 (uF (uF f 38 (iv ro9)) 39 (iv le9))), (hQ, ar 30 Q), (hB, ar 6 Bv), (hE, ar 6 E), (hA, ar 1206 Aw), (hM, ar 180 Mw), (hW, ar 180 Ww), (hwb, ar 42 Wv), (hwd, ar 6 Wd)] := by
      intro N
      induction N with
      | zero =>
        intro q ro9 le9 Bv Aw Mw Ww Wv L45 hq hBv hWv hrn hr1 hfo hL45_0 hL45_1 hL45_2 hL45_3 hN45
        exfalso; omega
      | succ N ih45 =>
        intro q ro9 le9 Bv Aw Mw Ww Wv L45 hq hBv hWv hrn hr1 hfo hL45_0 hL45_1 hL45_2 hL45_3 hN45
        refine S_iload_n X dX12_weekFrom_45 rfl hL45_3 ?_
        refine S_aload_n X dX12_weekFrom_46 rfl hL45_0 ?_
        refine S_get X fgX12_253_11 0 rfl hf0 dX12_weekFrom_47 ?_
        refine S_icmp_ge (tgt := 88) X dX12_weekFrom_50 (by decide) (by omega) (by omega) (fun c_10 => ?_) (fun c_10 => ?_)
        ·
          exact S_vret X (nle rfl) (nle rfl) dX12_weekFrom_88 (hPo _ (⟨(ro9, le9), _, _, _, _, by rw [hBv], by have h9 := hfo; rw [show q = pl by omega] at h9; rw [hK2, wkN, h9], fun x h => (hWv x (by omega)).trans (hKC x (by omega)), by dsimp only; omega⟩))
        ·
          have hwdi := hwd1 i (by omega) (by omega)
          refine S_aload_n X dX12_weekFrom_53 rfl hL45_0 ?_
          refine S_iload_n X dX12_weekFrom_54 rfl hL45_3 ?_
          refine S_aload_n X dX12_weekFrom_55 rfl hL45_0 ?_
          refine S_get X fgX12_77_11 0 rfl hf12 dX12_weekFrom_56 ?_
          refine S_iload_n X dX12_weekFrom_59 rfl hL45_1 ?_
          refine S_iald X 8 rfl (by omega) (by omega) (nle rfl) dX12_weekFrom_60 ?_
          refine S_callv X (kX12_pass l h0 (uF (uF f 38 (iv ro9)) 39 (iv le9)) pl mt hQ hB Q Bv q (Wd i) hf0 hf4 hf5 hf10 (by omega) hod (by rw [hBv]; exact fun p h0 h1 => (hok.2.2.2.2.2.2 p h0 h1).2.2.1) (by omega) (by omega)) (is := [0, 1, 2]) rfl (run_V X lkX12_300 0 rfl rfl (is := [0, 1, 2]) (avs := [iv q, iv (Wd i)]) (rest := []) rfl rfl (nle rfl) ⟨by simp only [rmD]; omega, by simp only [rmD]; omega⟩ ⟨nle rfl, nle rfl⟩ dX12_weekFrom_61 (by decide) rfl) (fun u_11 hp_12 => ?_)
          obtain ⟨B2_14, hu_16, hB2_17⟩ := hp_12
          subst hu_16
          refine ⟨rfl, ?_⟩
          refine S_w (ws' := [(h0, ob 11 (uF (uF f 38 (iv ro9)) 39 (iv le9))), (hQ, ar 30 Q), (hB, ar 6 B2_14), (hE, ar 6 E), (hA, ar 1206 Aw), (hM, ar 180 Mw), (hW, ar 180 Ww), (hwb, ar 42 Wv), (hwd, ar 6 Wd)]) rfl ?_
          have hB9 := hB2_17
          have hmd := mxd_S (K := K2) (d := dg) (a := q) (by omega) hdg.1 (by rw [← hK2]; exact hdg.2) (by omega)
          refine S_aload_n X dX12_weekFrom_64 rfl hL45_0 ?_
          refine S_iload_n X dX12_weekFrom_65 rfl hL45_1 ?_
          refine S_iconst X dX12_weekFrom_66 ?_
          refine S_iadd X dX12_weekFrom_67 ?_
          refine S_bipush X dX12_weekFrom_68 rfl ?_
          refine S_iload_n X dX12_weekFrom_70 rfl hL45_2 ?_
          refine S_imul X dX12_weekFrom_71 ?_
          refine S_iload_n X dX12_weekFrom_72 rfl hL45_3 ?_
          refine S_iadd X dX12_weekFrom_73 ?_
          refine S_callv X ((hnx K2 hK2) h0 f pl n ec mk hQ hB hE hA hM hW Q B2_14 E Aw Mw Ww mt hwb Wv hwd Wd ro9 le9 (i + 1) ((10 * dg) + q) hf0 hf1 hf2 hf3 hf4 hf5 hf6 hf7 hf8 hf9 hf10 hf11 hf12 (by rw [hB9, hBv]; exact hok.pa hod) hod (by omega) (hmd) hwd1 hrn) (is := [0, 1, 2, 3, 4, 5, 6, 7, 8]) rfl (run_V X lkX12_339 0 rfl rfl (is := [0, 1, 2, 3, 4, 5, 6, 7, 8]) (avs := [iv (i + 1), iv ((10 * dg) + q)]) (rest := []) rfl rfl (nle rfl) ⟨by simp only [rmD]; omega, by simp only [rmD]; omega⟩ ⟨nle rfl, nle rfl⟩ dX12_weekFrom_74 (by decide) rfl) (fun u_18 hp_19 => ?_)
          obtain ⟨r2_21, A2_22, M2_23, W2_24, Wb2_25, hu_27, hr2_28, hWb_29, hrn_30⟩ := hp_19
          subst hu_27
          refine ⟨rfl, ?_⟩
          refine S_w (ws' := [(h0, ob 11 (uF (uF f 38 (iv r2_21.1)) 39 (iv r2_21.2))), (hQ, ar 30 Q), (hB, ar 6 B2_14), (hE, ar 6 E), (hA, ar 1206 A2_22), (hM, ar 180 M2_23), (hW, ar 180 W2_24), (hwb, ar 42 Wb2_25), (hwd, ar 6 Wd)]) rfl ?_
          have hq9 := hr2_28
          have hq8 := hWb_29
          have hq7 := hrn_30
          rw [hB9, hBv] at hq9
          refine S_aload_n X dX12_weekFrom_77 rfl hL45_0 ?_
          refine S_iload_n X dX12_weekFrom_78 rfl hL45_1 ?_
          refine S_callv X (kX12_takeBeats l h0 (uF (uF f 38 (iv r2_21.1)) 39 (iv r2_21.2)) pl hB B2_14 hwb Wb2_25 i hf0 hf5 hf11 (by omega) (by omega)) (is := [0, 2, 7]) rfl (run_V X lkX12_342 0 rfl rfl (is := [0, 2, 7]) (avs := [iv i]) (rest := []) rfl rfl (nle rfl) ⟨by simp only [rmD]; omega, by simp only [rmD]; omega⟩ ⟨nle rfl, nle rfl⟩ dX12_weekFrom_79 (by decide) rfl) (fun u_31 hp_32 => ?_)
          obtain ⟨B2_34, hu_36, hB2_37, hB3_38⟩ := hp_32
          subst hu_36
          refine ⟨rfl, ?_⟩
          refine S_w (ws' := [(h0, ob 11 (uF (uF f 38 (iv r2_21.1)) 39 (iv r2_21.2))), (hQ, ar 30 Q), (hB, ar 6 B2_34), (hE, ar 6 E), (hA, ar 1206 A2_22), (hM, ar 180 M2_23), (hW, ar 180 W2_24), (hwb, ar 42 Wb2_25), (hwd, ar 6 Wd)]) rfl ?_
          have hT1 := hB2_37
          have hT2 := hB3_38
          refine S_iinc X dX12_weekFrom_82 (nle rfl) hL45_3 ?_
          refine S_goto (tgt := 45) X dX12_weekFrom_85 (by decide) ?_
          exact ih45 (q + 1) r2_21.1 r2_21.2 B2_34 A2_22 M2_23 W2_24 Wb2_25 _ (by omega) (pa_back (pl := pl) (B := B) hT1 (fun x h => by rw [hT2 x h, hB9, hBv]) (fun x h0 h1 => (hq8 _ (by omega)).trans ((hWv _ (by omega)).trans (hKB x h0 h1)))) (fun x h => (hq8 x (by omega)).trans (hWv x h)) (by omega) (by omega) (by rw [foldI_S (by omega), hfo, ← hq9]) hL45_0 hL45_1 hL45_2 rfl (by omega)
    exact lp45_1 (Int.toNat (pl + 1 - 0) + 1) 0 ro le B Ab Mt Wt Wb2_5 _ (by omega) (rfl) (fun x h => rfl) (hro) (by omega) (foldI_0) rfl rfl rfl rfl (by omega)
  ·
    refine S_aload_n X dX12_weekFrom_6 rfl rfl ?_
    refine S_calli X (kX12_worstNow l h0 (uF (uF f 38 (iv ro)) 39 (iv le)) pl n ec mk hQ hB hE hA hM hW Q B E Ab Mt Wt hf0 hf1 hf2 hf3 hf4 hf5 hf6 hf7 hf8 hf9 hok) (is := [0, 1, 2, 3, 4, 5, 6]) rfl (run_V X lkX12_321 0 rfl rfl (is := [0, 1, 2, 3, 4, 5, 6]) (avs := []) (rest := []) rfl rfl (nle rfl) ⟨by simp only [rmD]; omega, by simp only [rmD]; omega⟩ ⟨nle rfl, nle rfl⟩ dX12_weekFrom_7 (by decide) rfl) (fun z_41 u_39 hp_40 => ?_)
    obtain ⟨A2_42, M2_43, W2_44, hz_45, hu_46⟩ := hp_40
    subst hz_45
    subst hu_46
    refine ⟨rfl, ?_⟩
    refine S_w (ws' := [(h0, ob 11 (uF (uF f 38 (iv ro)) 39 (iv le))), (hQ, ar 30 Q), (hB, ar 6 B), (hE, ar 6 E), (hA, ar 1206 A2_42), (hM, ar 180 M2_43), (hW, ar 180 W2_44), (hwb, ar 42 Wb), (hwd, ar 6 Wd)]) rfl ?_
    have hwr := hok.worst (mk := mk)
    refine S_istore_n X dX12_weekFrom_10 rfl (nle rfl) ?_
    refine S_aload_n X dX12_weekFrom_11 rfl rfl ?_
    refine S_get (v := iv ro) X fgX12_330_11 0 rfl rfl dX12_weekFrom_12 ?_
    refine S_iconst X dX12_weekFrom_15 ?_
    refine S_icmp_eq (tgt := 27) X dX12_weekFrom_16 (by decide) (by omega) (by decide) (fun c_47 => ?_) (fun c_47 => ?_)
    ·
      refine S_aload_n X dX12_weekFrom_27 rfl rfl ?_
      refine S_iload_n X dX12_weekFrom_28 rfl rfl ?_
      refine S_put X fpX12_330_11 0 rfl FT_i dX12_weekFrom_29 ?_
      refine S_w (ws' := [(h0, ob 11 (uF (uF f 38 (iv dg)) 39 (iv le))), (hQ, ar 30 Q), (hB, ar 6 B), (hE, ar 6 E), (hA, ar 1206 A2_42), (hM, ar 180 M2_43), (hW, ar 180 W2_44), (hwb, ar 42 Wb), (hwd, ar 6 Wd)]) (by simp only [List.set]; rw [uF_mv (j := 39) (k := 38) (by decide), uF_same (k := 38)]) ?_
      refine S_aload_n X dX12_weekFrom_32 rfl rfl ?_
      refine S_iload_n X dX12_weekFrom_33 rfl rfl ?_
      refine S_put X fpX12_333_11 0 rfl FT_i dX12_weekFrom_34 ?_
      refine S_w (ws' := [(h0, ob 11 (uF (uF f 38 (iv dg)) 39 (iv (WO pl n ec mk (c5 Q 3) (c5 Q 4) B E)))), (hQ, ar 30 Q), (hB, ar 6 B), (hE, ar 6 E), (hA, ar 1206 A2_42), (hM, ar 180 M2_43), (hW, ar 180 W2_44), (hwb, ar 42 Wb), (hwd, ar 6 Wd)]) (by simp only [List.set]; rw [uF_same (k := 39)]) ?_
      exact S_vret X (nle rfl) (nle rfl) dX12_weekFrom_37 (hPo _ (⟨(dg, WO pl n ec mk (c5 Q 3) (c5 Q 4) B E), _, _, _, _, rfl, by rw [show K = 0 by omega, wkN]; rw [if_pos (by first | (left; assumption) | (right; dsimp only; omega))], fun x h => rfl, Or.inr ⟨by dsimp only; omega, hwr⟩⟩))
    ·
      refine S_iload_n X dX12_weekFrom_19 rfl rfl ?_
      refine S_aload_n X dX12_weekFrom_20 rfl rfl ?_
      refine S_get (v := iv le) X fgX12_333_11 0 rfl rfl dX12_weekFrom_21 ?_
      refine S_icmp_ge (tgt := 37) X dX12_weekFrom_24 (by decide) (by omega) (by omega) (fun c_48 => ?_) (fun c_48 => ?_)
      ·
        exact S_vret X (nle rfl) (nle rfl) dX12_weekFrom_37 (hPo _ (⟨(ro, le), _, _, _, _, rfl, by rw [show K = 0 by omega, wkN, if_neg (by dsimp only; omega)], fun x h => rfl, by dsimp only; omega⟩))
      ·
        refine S_aload_n X dX12_weekFrom_27 rfl rfl ?_
        refine S_iload_n X dX12_weekFrom_28 rfl rfl ?_
        refine S_put X fpX12_330_11 0 rfl FT_i dX12_weekFrom_29 ?_
        refine S_w (ws' := [(h0, ob 11 (uF (uF f 38 (iv dg)) 39 (iv le))), (hQ, ar 30 Q), (hB, ar 6 B), (hE, ar 6 E), (hA, ar 1206 A2_42), (hM, ar 180 M2_43), (hW, ar 180 W2_44), (hwb, ar 42 Wb), (hwd, ar 6 Wd)]) (by simp only [List.set]; rw [uF_mv (j := 39) (k := 38) (by decide), uF_same (k := 38)]) ?_
        refine S_aload_n X dX12_weekFrom_32 rfl rfl ?_
        refine S_iload_n X dX12_weekFrom_33 rfl rfl ?_
        refine S_put X fpX12_333_11 0 rfl FT_i dX12_weekFrom_34 ?_
        refine S_w (ws' := [(h0, ob 11 (uF (uF f 38 (iv dg)) 39 (iv (WO pl n ec mk (c5 Q 3) (c5 Q 4) B E)))), (hQ, ar 30 Q), (hB, ar 6 B), (hE, ar 6 E), (hA, ar 1206 A2_42), (hM, ar 180 M2_43), (hW, ar 180 W2_44), (hwb, ar 42 Wb), (hwd, ar 6 Wd)]) (by simp only [List.set]; rw [uF_same (k := 39)]) ?_
        exact S_vret X (nle rfl) (nle rfl) dX12_weekFrom_37 (hPo _ (⟨(dg, WO pl n ec mk (c5 Q 3) (c5 Q 4) B E), _, _, _, _, rfl, by rw [show K = 0 by omega, wkN]; rw [if_pos (by first | (left; assumption) | (right; dsimp only; omega))], fun x h => rfl, Or.inr ⟨by dsimp only; omega, hwr⟩⟩))
theorem wk_all (l : Launch) : ∀ K : Nat, C_X12_weekFrom l K (6 + K) := by
  intro K
  induction K with
  | zero => exact kX12_weekFrom l 0 5 (by omega) (fun K2 h => by omega)
  | succ K ih => exact kX12_weekFrom l (K + 1) (6 + K) (by omega) (fun K2 h => by cases h; exact ih)
set_option maxHeartbeats 4000000 in
set_option maxRecDepth 100000 in
theorem kX12_week (l : Launch) (h0 : Nat) (f : Nat → AV) (pl : Int) (n : Int) (ec : Int) (mk : Int) (hQ : Nat) (hB : Nat) (hE : Nat) (hA : Nat) (hM : Nat) (hW : Nat) (Q : Int → Int) (B : Int → Int) (E : Int → Int) (Ab : Int → Int) (Mt : Int → Int) (Wt : Int → Int) (v : Int) (mt : Int) (ho : Int) (dy : Int) (hC : Nat) (hV : Nat) (hL : Nat) (hTf : Nat) (hSf : Nat) (hEf : Nat) (hle : Nat) (hst : Nat) (C : Int → Int) (V : Int → Int) (Lk : Int → Int) (Tf : Int → Int) (Sf : Int → Int) (Ef : Int → Int) (Le : Int → Int) (Sk : Int → Int) (cs : List (List Int × List Int)) (hwb : Nat) (Wb : Int → Int) (hwd : Nat) (Wd : Int → Int) (ro : Int) (le : Int) (hf0 : f 21 = iv pl) (hf1 : f 28 = iv n) (hf2 : f 29 = iv ec) (hf3 : f 26 = iv mk) (hf4 : f 20 = rv hQ) (hf5 : f 23 = rv hB) (hf6 : f 24 = rv hE) (hf7 : f 33 = rv hA) (hf8 : f 34 = rv hM) (hf9 : f 35 = rv hW) (hf10 : f 22 = iv mt) (hf11 : f 27 = iv ho) (hf12 : f 25 = iv dy) (hf13 : f 36 = rv hwb) (hf14 : f 37 = rv hwd) (hf15 : f 6 = rv hC) (hf16 : f 7 = rv hV) (hf17 : f 9 = rv hL) (hf18 : f 10 = rv hTf) (hf19 : f 11 = rv hSf) (hf20 : f 12 = rv hEf) (hf21 : f 15 = rv hle) (hf22 : f 16 = rv hst) (hz : okZ pl n ec (c5 Q 3) (c5 Q 4) B E) (hx_v : inR v) (hpm : (0 ≤ pl ∧ pl ≤ 6) ∧ 1 ≤ mt ∧ mt ≤ 99) (hho : ho = -1 ∨ (0 ≤ ho ∧ ho ≤ 3 ∧ lawAt C V Lk Tf Sf Ef ho cs)) (hod : okDy pl mt (c5 Q 2) (c5 Q 1)) (hdy : 0 ≤ dy ∧ dy ≤ 1000) : AMi l yX12_week cX12_week 3 .int 13 0 0 [rv h0, iv v] [(h0, ob 11 (uF (uF f 38 (iv ro)) 39 (iv le))), (hQ, ar 30 Q), (hB, ar 6 B), (hE, ar 6 E), (hA, ar 1206 Ab), (hM, ar 180 Mt), (hW, ar 180 Wt), (hwb, ar 42 Wb), (hwd, ar 6 Wd), (hC, ar 1700 C), (hV, ar 1700 V), (hL, ar 5 Lk), (hTf, ar 450 Tf), (hSf, ar 450 Sf), (hEf, ar 450 Ef), (hle, ar 5 Le), (hst, ar 80 Sk)] (fun z u => ∃ r3 : Int, ∃ l3 : Int, ∃ A2 : Int → Int, ∃ M2 : Int → Int, ∃ W2 : Int → Int, ∃ Wb2 : Int → Int, ∃ Wd2 : Int → Int, ∃ L2 : Int → Int, ∃ S2 : Int → Int, z = aWeekR pl n ec mk mt dy (c5 Q 3) (c5 Q 4) B E (c5 Q 2) (c5 Q 1) (fun j => aDy ho cs mt pl (dy + j)) v le ∧ u = [(h0, ob 11 (uF (uF f 38 (iv r3)) 39 (iv l3))), (hQ, ar 30 Q), (hB, ar 6 B), (hE, ar 6 E), (hA, ar 1206 A2), (hM, ar 180 M2), (hW, ar 180 W2), (hwb, ar 42 Wb2), (hwd, ar 6 Wd2), (hC, ar 1700 C), (hV, ar 1700 V), (hL, ar 5 Lk), (hTf, ar 450 Tf), (hSf, ar 450 Sf), (hEf, ar 450 Ef), (hle, ar 5 L2), (hst, ar 80 S2)]) := by
  refine AMi.of2 rfl (nle rfl) ?_
  intro D G A p e s m args below meth c Po hPo X
  have hz6 := hz.2.1
  have hz0 := hz.1
  have hzn := hz.2.2.1
  have hzm := hz.2.2.2.1
  have hze := hz.2.2.2.2
  refine S_aload_n X dX12_week_0 rfl rfl ?_
  refine S_get X fgX12_253_11 0 rfl hf0 dX12_week_1 ?_
  refine S_if_eq (tgt := 29) X dX12_week_4 (by decide) (by omega) (fun c_1 => ?_) (fun c_1 => ?_)
  ·
    refine S_iconst X dX12_week_29 ?_
    exact S_iret X (nle rfl) (nle rfl) dX12_week_30 (hPo _ _ (⟨_, _, _, _, _, _, _, _, _, by unfold aWeekR; rw [if_neg (by omega)], rfl⟩))
  ·
    refine S_iload_n X dX12_week_7 rfl rfl ?_
    refine S_iconst X dX12_week_8 ?_
    refine S_iconst X dX12_week_9 ?_
    refine S_calli X (kX12_in l v 0 1 (by omega) (by omega) (by omega)) (is := []) rfl (run_S X lkX12_216 (is := []) (avs := [iv v, iv 0, iv 1]) (rest := []) rfl rfl (nle rfl) ⟨nle rfl, nle rfl⟩ ⟨nle rfl, nle rfl⟩ dX12_week_10 (by decide) rfl) (fun z_4 u_2 hp_3 => ?_)
    rcases hp_3 with ⟨hz_5, hu_6, hq_7⟩ | ⟨hz_8, hu_9, hq_10⟩
    ·
      subst hz_5
      subst hu_6
      refine ⟨rfl, ?_⟩
      refine S_w (ws' := [(h0, ob 11 (uF (uF f 38 (iv ro)) 39 (iv le))), (hQ, ar 30 Q), (hB, ar 6 B), (hE, ar 6 E), (hA, ar 1206 Ab), (hM, ar 180 Mt), (hW, ar 180 Wt), (hwb, ar 42 Wb), (hwd, ar 6 Wd), (hC, ar 1700 C), (hV, ar 1700 V), (hL, ar 5 Lk), (hTf, ar 450 Tf), (hSf, ar 450 Sf), (hEf, ar 450 Ef), (hle, ar 5 Le), (hst, ar 80 Sk)]) rfl ?_
      refine S_if_eq (tgt := 29) X dX12_week_13 (by decide) (by decide) (fun _ => ?_) (fun h9 => absurd h9 (by decide))
      refine S_iconst X dX12_week_29 ?_
      exact S_iret X (nle rfl) (nle rfl) dX12_week_30 (hPo _ _ (⟨_, _, _, _, _, _, _, _, _, by unfold aWeekR; rw [if_neg (by omega)], rfl⟩))
    ·
      subst hz_8
      subst hu_9
      refine ⟨rfl, ?_⟩
      refine S_w (ws' := [(h0, ob 11 (uF (uF f 38 (iv ro)) 39 (iv le))), (hQ, ar 30 Q), (hB, ar 6 B), (hE, ar 6 E), (hA, ar 1206 Ab), (hM, ar 180 Mt), (hW, ar 180 Wt), (hwb, ar 42 Wb), (hwd, ar 6 Wd), (hC, ar 1700 C), (hV, ar 1700 V), (hL, ar 5 Lk), (hTf, ar 450 Tf), (hSf, ar 450 Sf), (hEf, ar 450 Ef), (hle, ar 5 Le), (hst, ar 80 Sk)]) rfl ?_
      refine S_if_eq (tgt := 29) X dX12_week_13 (by decide) (by decide) (fun h9 => absurd h9 (by decide)) (fun _ => ?_)
      refine S_aload_n X dX12_week_16 rfl rfl ?_
      refine S_get X fgX12_259_11 0 rfl hf12 dX12_week_17 ?_
      refine S_bipush X dX12_week_20 rfl ?_
      refine S_iadd X dX12_week_22 ?_
      refine S_sipush X dX12_week_23 rfl ?_
      refine S_icmp_le (tgt := 31) X dX12_week_26 (by decide) (by omega) (by decide) (fun c_13 => ?_) (fun c_13 => ?_)
      ·
        have hok := hz.s (by omega)
        have hpl := hok.2.1
        have hpl1 := hok.1
        have hn1 := hok.2.2.1
        have hn2 := hok.2.2.2.1
        have hec := hok.2.2.2.2
        refine S_iconst X dX12_week_31 ?_
        refine S_istore_n X dX12_week_32 rfl (nle rfl) ?_
        have lp33_3 : ∀ (N : Nat) (j : Int) (Wv : Int → Int) (Lv : Int → Int) (Sv : Int → Int) (L : Nat → Option AV), 0 ≤ j ∧ j ≤ 6 → (∀ x, 0 ≤ x → x < j → Wv x = (fun j => aDy ho cs mt pl (dy + j)) x) → L 0 = some (rv h0) → L 1 = some (iv v) → L 2 = some (iv j) → 7 - j < (N : Int) → S_ p l e (rmD 13 0 0) s m args below meth c (MQ below (QcI D G A Po) args s 0 0 A) D G A 3 0 0 33 L [] [(h0, ob 11 (uF (uF f 38 (iv ro)) 39 (iv le))), (hQ, ar 30 Q), (hB, ar 6 B), (hE, ar 6 E), (hA, ar 1206 Ab), (hM, ar 180 Mt), (hW, ar 180 Wt), (hwb, ar 42 Wb), (hwd, ar 6 Wv), (hC, ar 1700 C), (hV, ar 1700 V), (hL, ar 5 Lk), (hTf, ar 450 Tf), (hSf, ar 450 Sf), (hEf, ar 450 Ef), (hle, ar 5 Lv), (hst, ar 80 Sv)] := by
          intro N
          induction N with
          | zero =>
            intro j Wv Lv Sv L33 hj hwk hL33_0 hL33_1 hL33_2 hN33
            exfalso; omega
          | succ N ih33 =>
            intro j Wv Lv Sv L33 hj hwk hL33_0 hL33_1 hL33_2 hN33
            refine S_iload_n X dX12_week_33 rfl hL33_2 ?_
            refine S_bipush X dX12_week_34 rfl ?_
            refine S_icmp_ge (tgt := 61) X dX12_week_36 (by decide) (by omega) (by decide) (fun c_14 => ?_) (fun c_14 => ?_)
            ·
              have hwdl : ∀ x, 0 ≤ x → x < 6 → Wv x = (fun j => aDy ho cs mt pl (dy + j)) x := fun x h0 h1 => hwk x h0 (by omega)
              refine S_aload_n X dX12_week_61 rfl hL33_0 ?_
              refine S_iconst X dX12_week_62 ?_
              refine S_put X fpX12_330_11 0 rfl FT_i dX12_week_63 ?_
              refine S_w (ws' := [(h0, ob 11 (uF (uF f 38 (iv (-1))) 39 (iv le))), (hQ, ar 30 Q), (hB, ar 6 B), (hE, ar 6 E), (hA, ar 1206 Ab), (hM, ar 180 Mt), (hW, ar 180 Wt), (hwb, ar 42 Wb), (hwd, ar 6 Wv), (hC, ar 1700 C), (hV, ar 1700 V), (hL, ar 5 Lk), (hTf, ar 450 Tf), (hSf, ar 450 Sf), (hEf, ar 450 Ef), (hle, ar 5 Lv), (hst, ar 80 Sv)]) (by simp only [List.set]; rw [uF_mv (j := 39) (k := 38) (by decide), uF_same (k := 38)]) ?_
              refine S_aload_n X dX12_week_66 rfl hL33_0 ?_
              refine S_iconst X dX12_week_67 ?_
              refine S_iconst X dX12_week_68 ?_
              refine S_callv X ((wk_all l 6) h0 f pl n ec mk hQ hB hE hA hM hW Q B E Ab Mt Wt mt hwb Wb hwd Wv (-1) le 0 0 hf0 hf1 hf2 hf3 hf4 hf5 hf6 hf7 hf8 hf9 hf10 hf13 hf14 hok hod ⟨by decide, by decide⟩ ⟨by decide, by decide⟩ (fun x h0 h1 => by rw [hwdl x h0 h1]; exact aDy_in (by omega)) (Or.inl rfl)) (is := [0, 1, 2, 3, 4, 5, 6, 7, 8]) rfl (run_V X lkX12_339 0 rfl rfl (is := [0, 1, 2, 3, 4, 5, 6, 7, 8]) (avs := [iv 0, iv 0]) (rest := []) rfl rfl (nle rfl) ⟨nle rfl, nle rfl⟩ ⟨nle rfl, nle rfl⟩ dX12_week_69 (by decide) rfl) (fun u_15 hp_16 => ?_)
              obtain ⟨r2_18, A2_19, M2_20, W2_21, Wb2_22, hu_24, hr2_25, hWb_26, hrn_27⟩ := hp_16
              subst hu_24
              refine ⟨rfl, ?_⟩
              refine S_w (ws' := [(h0, ob 11 (uF (uF f 38 (iv r2_18.1)) 39 (iv r2_18.2))), (hQ, ar 30 Q), (hB, ar 6 B), (hE, ar 6 E), (hA, ar 1206 A2_19), (hM, ar 180 M2_20), (hW, ar 180 W2_21), (hwb, ar 42 Wb2_22), (hwd, ar 6 Wv), (hC, ar 1700 C), (hV, ar 1700 V), (hL, ar 5 Lk), (hTf, ar 450 Tf), (hSf, ar 450 Sf), (hEf, ar 450 Ef), (hle, ar 5 Lv), (hst, ar 80 Sv)]) rfl ?_
              have hrr := hr2_25
              have hrn := hrn_27
              rw [wkN_wet (by omega) hwdl 6 0 0 _ _ (by omega) (by decide)] at hrr
              refine S_iload_n X dX12_week_72 rfl hL33_1 ?_
              refine S_if_ne (tgt := 83) X dX12_week_73 (by decide) (by omega) (fun c_28 => ?_) (fun c_28 => ?_)
              ·
                refine S_aload_n X dX12_week_83 rfl hL33_0 ?_
                refine S_get (v := iv r2_18.2) X fgX12_333_11 0 rfl rfl dX12_week_84 ?_
                exact S_iret X (nle rfl) (nle rfl) dX12_week_87 (hPo _ _ (⟨_, _, _, _, _, _, _, _, _, by unfold aWeekR; rw [if_pos (by omega), if_neg (by omega), hrr], rfl⟩))
              ·
                refine S_aload_n X dX12_week_76 rfl hL33_0 ?_
                refine S_get (v := iv r2_18.1) X fgX12_330_11 0 rfl rfl dX12_week_77 ?_
                refine S_goto (tgt := 87) X dX12_week_80 (by decide) ?_
                exact S_iret X (nle rfl) (nle rfl) dX12_week_87 (hPo _ _ (⟨_, _, _, _, _, _, _, _, _, by unfold aWeekR; rw [if_pos (by omega), if_pos (by omega), hrr], rfl⟩))
            ·
              refine S_aload_n X dX12_week_39 rfl hL33_0 ?_
              refine S_get X fgX12_77_11 0 rfl hf14 dX12_week_40 ?_
              refine S_iload_n X dX12_week_43 rfl hL33_2 ?_
              refine S_aload_n X dX12_week_44 rfl hL33_0 ?_
              refine S_aload_n X dX12_week_45 rfl hL33_0 ?_
              refine S_get X fgX12_259_11 0 rfl hf12 dX12_week_46 ?_
              refine S_iload_n X dX12_week_49 rfl hL33_2 ?_
              refine S_iadd X dX12_week_50 ?_
              refine S_calli X (kX12_dampOf l h0 (uF (uF f 38 (iv ro)) 39 (iv le)) pl mt ho hC hV hL hTf hSf hEf hle hst C V Lk Tf Sf Ef Lv Sv cs (dy + j) hf15 hf16 hf17 hf18 hf19 hf20 hf21 hf22 hf0 hf10 hf11 (by omega) hho (by omega)) (is := [0, 9, 10, 11, 12, 13, 14, 15, 16]) rfl (run_V X lkX12_297 0 rfl rfl (is := [0, 9, 10, 11, 12, 13, 14, 15, 16]) (avs := [iv (dy + j)]) (rest := [iv j, rv hwd]) rfl rfl (nle rfl) ⟨nle rfl, nle rfl⟩ ⟨nle rfl, nle rfl⟩ dX12_week_51 (by decide) rfl) (fun z_31 u_29 hp_30 => ?_)
              obtain ⟨L2_32, S2_33, hz_34, hu_35⟩ := hp_30
              subst hz_34
              subst hu_35
              refine ⟨rfl, ?_⟩
              refine S_w (ws' := [(h0, ob 11 (uF (uF f 38 (iv ro)) 39 (iv le))), (hQ, ar 30 Q), (hB, ar 6 B), (hE, ar 6 E), (hA, ar 1206 Ab), (hM, ar 180 Mt), (hW, ar 180 Wt), (hwb, ar 42 Wb), (hwd, ar 6 Wv), (hC, ar 1700 C), (hV, ar 1700 V), (hL, ar 5 Lk), (hTf, ar 450 Tf), (hSf, ar 450 Sf), (hEf, ar 450 Ef), (hle, ar 5 L2_32), (hst, ar 80 S2_33)]) rfl ?_
              have hw9 := aDy_in (ho := ho) (cs := cs) (mt := mt) (pl := pl) (d := dy + j) (by omega)
              refine S_iast X 8 rfl (by omega) (by omega) (nle rfl) dX12_week_54 ?_
              refine S_w (ws' := [(h0, ob 11 (uF (uF f 38 (iv ro)) 39 (iv le))), (hQ, ar 30 Q), (hB, ar 6 B), (hE, ar 6 E), (hA, ar 1206 Ab), (hM, ar 180 Mt), (hW, ar 180 Wt), (hwb, ar 42 Wb), (hwd, ar 6 (uZ Wv j (aDy ho cs mt pl (dy + j)))), (hC, ar 1700 C), (hV, ar 1700 V), (hL, ar 5 Lk), (hTf, ar 450 Tf), (hSf, ar 450 Sf), (hEf, ar 450 Ef), (hle, ar 5 L2_32), (hst, ar 80 S2_33)]) rfl ?_
              refine S_iinc X dX12_week_55 (nle rfl) hL33_2 ?_
              refine S_goto (tgt := 33) X dX12_week_58 (by decide) ?_
              exact ih33 (j + 1) (uZ Wv j (aDy ho cs mt pl (dy + j))) L2_32 S2_33 _ (by omega) (fun x h0 h1 => (by omega : x < j ∨ x = j).elim (fun q9 => by rw [uZ_ne (by omega)]; exact hwk x h0 q9) (fun q9 => by rw [q9]; exact uZ_at)) hL33_0 hL33_1 rfl (by omega)
        exact lp33_3 (Int.toNat (7 - 0) + 1) 0 Wd Le Sk _ (by omega) (fun x h0 h1 => by omega) rfl rfl rfl (by omega)
      ·
        refine S_iconst X dX12_week_29 ?_
        exact S_iret X (nle rfl) (nle rfl) dX12_week_30 (hPo _ _ (⟨_, _, _, _, _, _, _, _, _, by unfold aWeekR; rw [if_neg (by omega)], rfl⟩))
def C_X12_oddsFrom (l : Launch) (K : Nat) (d : Nat) : Prop := ∀ (h0 : Nat) (f : Nat → AV) (pl : Int) (n : Int) (ec : Int) (mk : Int) (hQ : Nat) (hB : Nat) (hE : Nat) (hA : Nat) (hM : Nat) (hW : Nat) (Q : Int → Int) (B : Int → Int) (E : Int → Int) (Ab : Int → Int) (Mt : Int → Int) (Wt : Int → Int) (mt : Int) (hwb : Nat) (Wb : Int → Int) (i : Int) (k9 : Int) (pp : Int), (f 21 = iv pl) → (f 28 = iv n) → (f 29 = iv ec) → (f 26 = iv mk) → (f 20 = rv hQ) → (f 23 = rv hB) → (f 24 = rv hE) → (f 33 = rv hA) → (f 34 = rv hM) → (f 35 = rv hW) → (f 22 = iv mt) → (f 36 = rv hwb) → (okS pl n ec (c5 Q 3) (c5 Q 4) B E) → (okDy pl mt (c5 Q 2) (c5 Q 1)) → (0 ≤ i ∧ i + (K : Int) = k9 ∧ k9 ≤ 6) → (0 ≤ pp ∧ pp < pl) → AMi l yX12_oddsFrom cX12_oddsFrom 6 .int d 0 0 [rv h0, iv i, iv k9, iv pp] [(h0, ob 11 f), (hQ, ar 30 Q), (hB, ar 6 B), (hE, ar 6 E), (hA, ar 1206 Ab), (hM, ar 180 Mt), (hW, ar 180 Wt), (hwb, ar 42 Wb)] (fun z u => ∃ A2 : Int → Int, ∃ M2 : Int → Int, ∃ W2 : Int → Int, ∃ Wb2 : Int → Int, z = odN pl n ec mk mt (c5 Q 3) (c5 Q 4) E (c5 Q 2) (c5 Q 1) pp K B ∧ u = [(h0, ob 11 f), (hQ, ar 30 Q), (hB, ar 6 B), (hE, ar 6 E), (hA, ar 1206 A2), (hM, ar 180 M2), (hW, ar 180 W2), (hwb, ar 42 Wb2)] ∧ (∀ x, x < 6 * i → Wb2 x = Wb x))
set_option maxHeartbeats 4000000 in
set_option maxRecDepth 100000 in
theorem kX12_oddsFrom (l : Launch) (K : Nat) (d : Nat) (hd : 5 ≤ d) (hnx : ∀ K2 : Nat, K = K2 + 1 → C_X12_oddsFrom l K2 d) : C_X12_oddsFrom l K (d + 1) := by
  intro h0 f pl n ec mk hQ hB hE hA hM hW Q B E Ab Mt Wt mt hwb Wb i k9 pp hf0 hf1 hf2 hf3 hf4 hf5 hf6 hf7 hf8 hf9 hf10 hf11 hok hod hi hp
  refine AMi.of2 rfl (nle rfl) ?_
  intro D G A p e s m args below meth c Po hPo X
  have hok6 := hok.2.1
  have hok1 := hok.1
  refine S_iload_n X dX12_oddsFrom_0 rfl rfl ?_
  refine S_iload_n X dX12_oddsFrom_1 rfl rfl ?_
  refine S_icmp_ne (tgt := 29) X dX12_oddsFrom_2 (by decide) (by omega) (by omega) (fun c_1 => ?_) (fun c_1 => ?_)
  ·
    obtain ⟨K2, hK2⟩ : ∃ K2, K = K2 + 1 := ⟨K - 1, by omega⟩
    refine S_aload_n X dX12_oddsFrom_29 rfl rfl ?_
    refine S_iload_n X dX12_oddsFrom_30 rfl rfl ?_
    refine S_callv X (kX12_keepBeats l h0 f pl hB B hwb Wb i hf0 hf5 hf11 (by omega) (by omega)) (is := [0, 2, 7]) rfl (run_V X lkX12_336 0 rfl rfl (is := [0, 2, 7]) (avs := [iv i]) (rest := []) rfl rfl (nle rfl) ⟨by simp only [rmD]; omega, by simp only [rmD]; omega⟩ ⟨nle rfl, nle rfl⟩ dX12_oddsFrom_31 (by decide) rfl) (fun u_2 hp_3 => ?_)
    obtain ⟨Wb2_5, hu_7, hW2_8, hW3_9⟩ := hp_3
    subst hu_7
    refine ⟨rfl, ?_⟩
    refine S_w (ws' := [(h0, ob 11 f), (hQ, ar 30 Q), (hB, ar 6 B), (hE, ar 6 E), (hA, ar 1206 Ab), (hM, ar 180 Mt), (hW, ar 180 Wt), (hwb, ar 42 Wb2_5)]) rfl ?_
    have hKB := hW2_8
    have hKC := hW3_9
    refine S_iconst X dX12_oddsFrom_34 ?_
    refine S_istore X dX12_oddsFrom_35 (nle rfl) ?_
    refine S_iconst X dX12_oddsFrom_37 ?_
    refine S_istore X dX12_oddsFrom_38 (nle rfl) ?_
    have lp40_1 : ∀ (N : Nat) (q : Int) (sm : Int) (Bv : Int → Int) (Aw : Int → Int) (Mw : Int → Int) (Ww : Int → Int) (Wv : Int → Int) (L : Nat → Option AV), 0 ≤ q ∧ q ≤ 3 → Bv = B → (∀ x, x < 6 * (i + 1) → Wv x = Wb2_5 x) → sm = smI (fun d9 => odN pl n ec mk mt (c5 Q 3) (c5 Q 4) E (c5 Q 2) (c5 Q 1) pp K2 (paF (c5 Q 2) (c5 Q 1) mt (-1) d9 pl B)) q → L 0 = some (rv h0) → L 1 = some (iv i) → L 2 = some (iv k9) → L 3 = some (iv pp) → L 4 = some (iv sm) → L 5 = some (iv q) → 4 - q < (N : Int) → S_ p l e (rmD (d + 1) 0 0) s m args below meth c (MQ below (QcI D G A Po) args s 0 0 A) D G A 6 0 0 40 L [] [(h0, ob 11 f), (hQ, ar 30 Q), (hB, ar 6 Bv), (hE, ar 6 E), (hA, ar 1206 Aw), (hM, ar 180 Mw), (hW, ar 180 Ww), (hwb, ar 42 Wv)] := by
      intro N
      induction N with
      | zero =>
        intro q sm Bv Aw Mw Ww Wv L40 hq hBv hWv hsm hL40_0 hL40_1 hL40_2 hL40_3 hL40_4 hL40_5 hN40
        exfalso; omega
      | succ N ih40 =>
        intro q sm Bv Aw Mw Ww Wv L40 hq hBv hWv hsm hL40_0 hL40_1 hL40_2 hL40_3 hL40_4 hL40_5 hN40
        refine S_iload X dX12_oddsFrom_40 hL40_5 ?_
        refine S_iconst X dX12_oddsFrom_42 ?_
        refine S_icmp_ge (tgt := 78) X dX12_oddsFrom_43 (by decide) (by omega) (by decide) (fun c_10 => ?_) (fun c_10 => ?_)
        ·
          refine S_iload X dX12_oddsFrom_78 hL40_4 ?_
          exact S_iret X (nle rfl) (nle rfl) dX12_oddsFrom_80 (hPo _ _ (⟨_, _, _, _, by rw [hK2, odN, hsm, show q = 3 by omega], by rw [hBv], fun x h => (hWv x (by omega)).trans (hKC x (by omega))⟩))
        ·
          refine S_aload_n X dX12_oddsFrom_46 rfl hL40_0 ?_
          refine S_iconst X dX12_oddsFrom_47 ?_
          refine S_iload X dX12_oddsFrom_48 hL40_5 ?_
          refine S_callv X (kX12_pass l h0 f pl mt hQ hB Q Bv (-1) q hf0 hf4 hf5 hf10 (by omega) hod (by rw [hBv]; exact fun p h0 h1 => (hok.2.2.2.2.2.2 p h0 h1).2.2.1) (by omega) (by omega)) (is := [0, 1, 2]) rfl (run_V X lkX12_300 0 rfl rfl (is := [0, 1, 2]) (avs := [iv (-1), iv q]) (rest := []) rfl rfl (nle rfl) ⟨by simp only [rmD]; omega, by simp only [rmD]; omega⟩ ⟨nle rfl, nle rfl⟩ dX12_oddsFrom_50 (by decide) rfl) (fun u_11 hp_12 => ?_)
          obtain ⟨B2_14, hu_16, hB2_17⟩ := hp_12
          subst hu_16
          refine ⟨rfl, ?_⟩
          refine S_w (ws' := [(h0, ob 11 f), (hQ, ar 30 Q), (hB, ar 6 B2_14), (hE, ar 6 E), (hA, ar 1206 Aw), (hM, ar 180 Mw), (hW, ar 180 Ww), (hwb, ar 42 Wv)]) rfl ?_
          have hB9 := hB2_17
          refine S_iload X dX12_oddsFrom_53 hL40_4 ?_
          refine S_aload_n X dX12_oddsFrom_55 rfl hL40_0 ?_
          refine S_iload_n X dX12_oddsFrom_56 rfl hL40_1 ?_
          refine S_iconst X dX12_oddsFrom_57 ?_
          refine S_iadd X dX12_oddsFrom_58 ?_
          refine S_iload_n X dX12_oddsFrom_59 rfl hL40_2 ?_
          refine S_iload_n X dX12_oddsFrom_60 rfl hL40_3 ?_
          refine S_calli X ((hnx K2 hK2) h0 f pl n ec mk hQ hB hE hA hM hW Q B2_14 E Aw Mw Ww mt hwb Wv (i + 1) k9 pp hf0 hf1 hf2 hf3 hf4 hf5 hf6 hf7 hf8 hf9 hf10 hf11 (by rw [hB9, hBv]; exact hok.pa hod) hod (by omega) (by omega)) (is := [0, 1, 2, 3, 4, 5, 6, 7]) rfl (run_V X lkX12_349 0 rfl rfl (is := [0, 1, 2, 3, 4, 5, 6, 7]) (avs := [iv (i + 1), iv k9, iv pp]) (rest := [iv sm]) rfl rfl (nle rfl) ⟨by simp only [rmD]; omega, by simp only [rmD]; omega⟩ ⟨nle rfl, nle rfl⟩ dX12_oddsFrom_61 (by decide) rfl) (fun z_20 u_18 hp_19 => ?_)
          obtain ⟨A2_21, M2_22, W2_23, Wb2_24, hz_25, hu_26, hWb_27⟩ := hp_19
          subst hz_25
          subst hu_26
          refine ⟨rfl, ?_⟩
          refine S_w (ws' := [(h0, ob 11 f), (hQ, ar 30 Q), (hB, ar 6 B2_14), (hE, ar 6 E), (hA, ar 1206 A2_21), (hM, ar 180 M2_22), (hW, ar 180 W2_23), (hwb, ar 42 Wb2_24)]) rfl ?_
          have hq8 := hWb_27
          refine S_iadd X dX12_oddsFrom_64 ?_
          refine S_istore X dX12_oddsFrom_65 (nle rfl) ?_
          refine S_aload_n X dX12_oddsFrom_67 rfl hL40_0 ?_
          refine S_iload_n X dX12_oddsFrom_68 rfl hL40_1 ?_
          refine S_callv X (kX12_takeBeats l h0 f pl hB B2_14 hwb Wb2_24 i hf0 hf5 hf11 (by omega) (by omega)) (is := [0, 2, 7]) rfl (run_V X lkX12_342 0 rfl rfl (is := [0, 2, 7]) (avs := [iv i]) (rest := []) rfl rfl (nle rfl) ⟨by simp only [rmD]; omega, by simp only [rmD]; omega⟩ ⟨nle rfl, nle rfl⟩ dX12_oddsFrom_69 (by decide) rfl) (fun u_28 hp_29 => ?_)
          obtain ⟨B2_31, hu_33, hB2_34, hB3_35⟩ := hp_29
          subst hu_33
          refine ⟨rfl, ?_⟩
          refine S_w (ws' := [(h0, ob 11 f), (hQ, ar 30 Q), (hB, ar 6 B2_31), (hE, ar 6 E), (hA, ar 1206 A2_21), (hM, ar 180 M2_22), (hW, ar 180 W2_23), (hwb, ar 42 Wb2_24)]) rfl ?_
          have hT1 := hB2_34
          have hT2 := hB3_35
          refine S_iinc X dX12_oddsFrom_72 (nle rfl) hL40_5 ?_
          refine S_goto (tgt := 40) X dX12_oddsFrom_75 (by decide) ?_
          exact ih40 (q + 1) (sm + (odN pl n ec mk mt (c5 Q 3) (c5 Q 4) E (c5 Q 2) (c5 Q 1) pp K2 B2_14)) B2_31 A2_21 M2_22 W2_23 Wb2_24 _ (by omega) (pa_back (pl := pl) (B := B) hT1 (fun x h => by rw [hT2 x h, hB9, hBv]) (fun x h0 h1 => (hq8 _ (by omega)).trans ((hWv _ (by omega)).trans (hKB x h0 h1)))) (fun x h => (hq8 x (by omega)).trans (hWv x h)) (by rw [smI_S (by omega), ← hsm, hB9, hBv]) hL40_0 hL40_1 hL40_2 hL40_3 rfl rfl (by omega)
    exact lp40_1 (Int.toNat (4 - 0) + 1) 0 0 B Ab Mt Wt Wb2_5 _ (by omega) (rfl) (fun x h => rfl) (rfl) rfl rfl rfl rfl rfl rfl (by omega)
  ·
    refine S_aload_n X dX12_oddsFrom_5 rfl rfl ?_
    refine S_callv X (kX12_play l h0 f pl n ec mk hQ hB hE hA hM hW Q B E Ab Mt Wt hf0 hf1 hf2 hf3 hf4 hf5 hf6 hf7 hf8 hf9 hok) (is := [0, 1, 2, 3, 4, 5, 6]) rfl (run_V X lkX12_312 0 rfl rfl (is := [0, 1, 2, 3, 4, 5, 6]) (avs := []) (rest := []) rfl rfl (nle rfl) ⟨by simp only [rmD]; omega, by simp only [rmD]; omega⟩ ⟨nle rfl, nle rfl⟩ dX12_oddsFrom_6 (by decide) rfl) (fun u_36 hp_37 => ?_)
    obtain ⟨A2_39, M2_40, W2_41, hu_43, hA2_44, hM2_45, hW2_46⟩ := hp_37
    subst hu_43
    refine ⟨rfl, ?_⟩
    refine S_w (ws' := [(h0, ob 11 f), (hQ, ar 30 Q), (hB, ar 6 B), (hE, ar 6 E), (hA, ar 1206 A2_39), (hM, ar 180 M2_40), (hW, ar 180 W2_41), (hwb, ar 42 Wb)]) rfl ?_
    have hAL := hA2_44
    have hML := hM2_45
    have hWL := hW2_46
    have hok3 := hok.2.2.1
    have hal9 := amI_lt (g := (tS pl ec mk (c5 Q 3) (c5 Q 4) B E) (n - 1)) (p := pl) (by omega)
    refine S_aload_n X dX12_oddsFrom_9 rfl rfl ?_
    refine S_aload_n X dX12_oddsFrom_10 rfl rfl ?_
    refine S_get X fgX12_56_11 0 rfl hf1 dX12_oddsFrom_11 ?_
    refine S_iconst X dX12_oddsFrom_14 ?_
    refine S_isub X dX12_oddsFrom_15 ?_
    refine S_calli X (kX12_lastAt l h0 f pl n ec mk hM Q B E M2_40 (n - 1) hf0 hf8 (by omega) hML (by omega)) (is := [0, 5]) rfl (run_V X lkX12_324 0 rfl rfl (is := [0, 5]) (avs := [iv (n - 1)]) (rest := []) rfl rfl (nle rfl) ⟨by simp only [rmD]; omega, by simp only [rmD]; omega⟩ ⟨nle rfl, nle rfl⟩ dX12_oddsFrom_16 (by decide) rfl) (fun z_49 u_47 hp_48 => ?_)
    obtain ⟨hz_50, hu_51⟩ := hp_48
    subst hz_50
    subst hu_51
    refine ⟨rfl, ?_⟩
    refine S_w (ws' := [(h0, ob 11 f), (hQ, ar 30 Q), (hB, ar 6 B), (hE, ar 6 E), (hA, ar 1206 A2_39), (hM, ar 180 M2_40), (hW, ar 180 W2_41), (hwb, ar 42 Wb)]) rfl ?_
    refine S_iload_n X dX12_oddsFrom_19 rfl rfl ?_
    refine S_icmp_ne (tgt := 27) X dX12_oddsFrom_20 (by decide) (by omega) (by omega) (fun c_52 => ?_) (fun c_52 => ?_)
    ·
      refine S_iconst X dX12_oddsFrom_27 ?_
      exact S_iret X (nle rfl) (nle rfl) dX12_oddsFrom_28 (hPo _ _ (⟨_, _, _, _, by rw [show K = 0 by omega, odN]; rw [if_neg (by omega)], rfl, fun x h => rfl⟩))
    ·
      refine S_iconst X dX12_oddsFrom_23 ?_
      refine S_goto (tgt := 28) X dX12_oddsFrom_24 (by decide) ?_
      exact S_iret X (nle rfl) (nle rfl) dX12_oddsFrom_28 (hPo _ _ (⟨_, _, _, _, by rw [show K = 0 by omega, odN]; rw [if_pos (by omega)], rfl, fun x h => rfl⟩))
theorem od_all (l : Launch) : ∀ K : Nat, C_X12_oddsFrom l K (6 + K) := by
  intro K
  induction K with
  | zero => exact kX12_oddsFrom l 0 5 (by omega) (fun K2 h => by omega)
  | succ K ih => exact kX12_oddsFrom l (K + 1) (6 + K) (by omega) (fun K2 h => by cases h; exact ih)
end pt_49rweek
/- 50.rmarks.lean.txt -/
section pt_50rmarks

set_option maxHeartbeats 4000000 in
set_option maxRecDepth 100000 in
theorem kX12_odds (l : Launch) (h0 : Nat) (f : Nat → AV) (pl : Int) (n : Int) (ec : Int) (mk : Int) (hQ : Nat) (hB : Nat) (hE : Nat) (hA : Nat) (hM : Nat) (hW : Nat) (Q : Int → Int) (B : Int → Int) (E : Int → Int) (Ab : Int → Int) (Mt : Int → Int) (Wt : Int → Int) (pp : Int) (k9 : Int) (mt : Int) (hwb : Nat) (Wb : Int → Int) (hf0 : f 21 = iv pl) (hf1 : f 28 = iv n) (hf2 : f 29 = iv ec) (hf3 : f 26 = iv mk) (hf4 : f 20 = rv hQ) (hf5 : f 23 = rv hB) (hf6 : f 24 = rv hE) (hf7 : f 33 = rv hA) (hf8 : f 34 = rv hM) (hf9 : f 35 = rv hW) (hf10 : f 22 = iv mt) (hf11 : f 36 = rv hwb) (hz : okZ pl n ec (c5 Q 3) (c5 Q 4) B E) (hx_pp : inR pp) (hx_k9 : inR k9) (hod : okDy pl mt (c5 Q 2) (c5 Q 1)) : AMi l yX12_odds cX12_odds 3 .int 14 0 0 [rv h0, iv pp, iv k9] [(h0, ob 11 f), (hQ, ar 30 Q), (hB, ar 6 B), (hE, ar 6 E), (hA, ar 1206 Ab), (hM, ar 180 Mt), (hW, ar 180 Wt), (hwb, ar 42 Wb)] (fun z u => ∃ A2 : Int → Int, ∃ M2 : Int → Int, ∃ W2 : Int → Int, ∃ Wb2 : Int → Int, z = aOddsR pl n ec mk mt (c5 Q 3) (c5 Q 4) B E (c5 Q 2) (c5 Q 1) pp k9 ∧ u = [(h0, ob 11 f), (hQ, ar 30 Q), (hB, ar 6 B), (hE, ar 6 E), (hA, ar 1206 A2), (hM, ar 180 M2), (hW, ar 180 W2), (hwb, ar 42 Wb2)]) := by
  refine AMi.of2 rfl (nle rfl) ?_
  intro D G A p e s m args below meth c Po hPo X
  have hz6 := hz.2.1
  have hz0 := hz.1
  have hzn := hz.2.2.1
  have hzm := hz.2.2.2.1
  have hze := hz.2.2.2.2
  refine S_aload_n X dX12_odds_0 rfl rfl ?_
  refine S_iload_n X dX12_odds_1 rfl rfl ?_
  refine S_calli X (kX12_isPlayer l h0 f pl pp hf0 (by omega) (by omega)) (is := [0]) rfl (run_V X lkX12_281 0 rfl rfl (is := [0]) (avs := [iv pp]) (rest := []) rfl rfl (nle rfl) ⟨nle rfl, nle rfl⟩ ⟨nle rfl, nle rfl⟩ dX12_odds_2 (by decide) rfl) (fun z_3 u_1 hp_2 => ?_)
  rcases hp_2 with ⟨hz_4, hu_5, hq_6⟩ | ⟨hz_7, hu_8, hq_9⟩
  ·
    subst hz_4
    subst hu_5
    refine ⟨rfl, ?_⟩
    refine S_w (ws' := [(h0, ob 11 f), (hQ, ar 30 Q), (hB, ar 6 B), (hE, ar 6 E), (hA, ar 1206 Ab), (hM, ar 180 Mt), (hW, ar 180 Wt), (hwb, ar 42 Wb)]) rfl ?_
    refine S_if_eq (tgt := 28) X dX12_odds_5 (by decide) (by decide) (fun _ => ?_) (fun h9 => absurd h9 (by decide))
    refine S_iconst X dX12_odds_28 ?_
    exact S_iret X (nle rfl) (nle rfl) dX12_odds_29 (hPo _ _ (⟨_, _, _, _, by unfold aOddsR; rw [if_neg (by omega)], rfl⟩))
  ·
    subst hz_7
    subst hu_8
    refine ⟨rfl, ?_⟩
    refine S_w (ws' := [(h0, ob 11 f), (hQ, ar 30 Q), (hB, ar 6 B), (hE, ar 6 E), (hA, ar 1206 Ab), (hM, ar 180 Mt), (hW, ar 180 Wt), (hwb, ar 42 Wb)]) rfl ?_
    refine S_if_eq (tgt := 28) X dX12_odds_5 (by decide) (by decide) (fun h9 => absurd h9 (by decide)) (fun _ => ?_)
    refine S_iload_n X dX12_odds_8 rfl rfl ?_
    refine S_iconst X dX12_odds_9 ?_
    refine S_bipush X dX12_odds_10 rfl ?_
    refine S_calli X (kX12_in l k9 1 6 (by omega) (by omega) (by omega)) (is := []) rfl (run_S X lkX12_216 (is := []) (avs := [iv k9, iv 1, iv 6]) (rest := []) rfl rfl (nle rfl) ⟨nle rfl, nle rfl⟩ ⟨nle rfl, nle rfl⟩ dX12_odds_12 (by decide) rfl) (fun z_14 u_12 hp_13 => ?_)
    rcases hp_13 with ⟨hz_15, hu_16, hq_17⟩ | ⟨hz_18, hu_19, hq_20⟩
    ·
      subst hz_15
      subst hu_16
      refine ⟨rfl, ?_⟩
      refine S_w (ws' := [(h0, ob 11 f), (hQ, ar 30 Q), (hB, ar 6 B), (hE, ar 6 E), (hA, ar 1206 Ab), (hM, ar 180 Mt), (hW, ar 180 Wt), (hwb, ar 42 Wb)]) rfl ?_
      refine S_if_eq (tgt := 28) X dX12_odds_15 (by decide) (by decide) (fun _ => ?_) (fun h9 => absurd h9 (by decide))
      refine S_iconst X dX12_odds_28 ?_
      exact S_iret X (nle rfl) (nle rfl) dX12_odds_29 (hPo _ _ (⟨_, _, _, _, by unfold aOddsR; rw [if_neg (by omega)], rfl⟩))
    ·
      subst hz_18
      subst hu_19
      refine ⟨rfl, ?_⟩
      refine S_w (ws' := [(h0, ob 11 f), (hQ, ar 30 Q), (hB, ar 6 B), (hE, ar 6 E), (hA, ar 1206 Ab), (hM, ar 180 Mt), (hW, ar 180 Wt), (hwb, ar 42 Wb)]) rfl ?_
      refine S_if_eq (tgt := 28) X dX12_odds_15 (by decide) (by decide) (fun h9 => absurd h9 (by decide)) (fun _ => ?_)
      have hok := hz.s (by omega)
      have hpl := hok.2.1
      have hpl1 := hok.1
      have hn1 := hok.2.2.1
      have hn2 := hok.2.2.2.1
      have hec := hok.2.2.2.2
      refine S_aload_n X dX12_odds_18 rfl rfl ?_
      refine S_iconst X dX12_odds_19 ?_
      refine S_iload_n X dX12_odds_20 rfl rfl ?_
      refine S_iload_n X dX12_odds_21 rfl rfl ?_
      refine S_calli X ((od_all l k9.toNat) h0 f pl n ec mk hQ hB hE hA hM hW Q B E Ab Mt Wt mt hwb Wb 0 k9 pp hf0 hf1 hf2 hf3 hf4 hf5 hf6 hf7 hf8 hf9 hf10 hf11 hok hod (by omega) (by omega)) (is := [0, 1, 2, 3, 4, 5, 6, 7]) rfl (run_V X lkX12_349 0 rfl rfl (is := [0, 1, 2, 3, 4, 5, 6, 7]) (avs := [iv 0, iv k9, iv pp]) (rest := []) rfl rfl (nle rfl) ⟨by simp only [rmD]; omega, by simp only [rmD]; omega⟩ ⟨nle rfl, nle rfl⟩ dX12_odds_22 (by decide) rfl) (fun z_25 u_23 hp_24 => ?_)
      obtain ⟨A2_26, M2_27, W2_28, Wb2_29, hz_30, hu_31, hWb_32⟩ := hp_24
      subst hz_30
      subst hu_31
      refine ⟨rfl, ?_⟩
      refine S_w (ws' := [(h0, ob 11 f), (hQ, ar 30 Q), (hB, ar 6 B), (hE, ar 6 E), (hA, ar 1206 A2_26), (hM, ar 180 M2_27), (hW, ar 180 W2_28), (hwb, ar 42 Wb2_29)]) rfl ?_
      refine S_goto (tgt := 29) X dX12_odds_25 (by decide) ?_
      exact S_iret X (nle rfl) (nle rfl) dX12_odds_29 (hPo _ _ (⟨_, _, _, _, by unfold aOddsR; rw [if_pos (by omega)], rfl⟩))
set_option maxHeartbeats 4000000 in
set_option maxRecDepth 100000 in
theorem kX12_marksFrom (l : Launch) (h0 : Nat) (f : Nat → AV) (pl : Int) (n : Int) (ec : Int) (hE : Nat) (hA : Nat) (Q : Int → Int) (B : Int → Int) (E : Int → Int) (Ab : Int → Int) (lim : Int) (hff : Nat) (hbf : Nat) (hsu : Nat) (Ff : Int → Int) (Bf : Int → Int) (Su : Int → Int) (fr : Int) (hf0 : f 21 = iv pl) (hf1 : f 28 = iv n) (hf2 : f 24 = rv hE) (hf3 : f 33 = rv hA) (hf4 : f 30 = iv lim) (hf5 : f 40 = rv hff) (hf6 : f 41 = rv hbf) (hf7 : f 42 = rv hsu) (hok : okS pl n ec (c5 Q 3) (c5 Q 4) B E) (hr : reg Ab (bF ec (c5 Q 3) (c5 Q 4) B) pl n 0) (hfr : 0 ≤ fr ∧ fr < n) (hlim : 0 ≤ lim ∧ lim ≤ 999) (hFr : ∀ j, fr < j → j < n → -1 ≤ Ff j ∧ Ff j ≤ n - 1 - j) (hBr : ∀ j, inR (Bf j)) : AMv l yX12_marksFrom cX12_marksFrom 7 1 0 0 [rv h0, iv fr] [(h0, ob 11 f), (hA, ar 1206 Ab), (hE, ar 6 E), (hff, ar 31 Ff), (hbf, ar 31 Bf), (hsu, ar 6 Su)] (fun u => ∃ F2 : Int → Int, ∃ B2 : Int → Int, ∃ S2 : Int → Int, u = [(h0, ob 11 f), (hA, ar 1206 Ab), (hE, ar 6 E), (hff, ar 31 F2), (hbf, ar 31 B2), (hsu, ar 6 S2)] ∧ (∀ j, fr ≤ j → j < n → -1 ≤ F2 j ∧ F2 j ≤ n - 1 - j) ∧ (∀ j, inR (B2 j))) := by
  refine AMv.of2 rfl (nle rfl) ?_
  intro D G A p e s m args below meth c Po hPo hnm X
  have hpl := hok.2.1
  have hpl1 := hok.1
  have hn1 := hok.2.2.1
  have hn2 := hok.2.2.2.1
  have hec := hok.2.2.2.2
  refine S_aload_n X dX12_marksFrom_0 rfl rfl ?_
  refine S_get X fgX12_80_11 0 rfl hf5 dX12_marksFrom_1 ?_
  refine S_iload_n X dX12_marksFrom_4 rfl rfl ?_
  refine S_iconst X dX12_marksFrom_5 ?_
  refine S_iast X 3 rfl (by omega) (by omega) (nle rfl) dX12_marksFrom_6 ?_
  refine S_w (ws' := [(h0, ob 11 f), (hA, ar 1206 Ab), (hE, ar 6 E), (hff, ar 31 (uZ Ff fr (-1))), (hbf, ar 31 Bf), (hsu, ar 6 Su)]) rfl ?_
  refine S_iconst X dX12_marksFrom_7 ?_
  refine S_istore_n X dX12_marksFrom_8 rfl (nle rfl) ?_
  have lp9_0 : ∀ (N : Nat) (i : Int) (Sv : Int → Int) (L : Nat → Option AV), 0 ≤ i ∧ i ≤ pl → (∀ x, 0 ≤ x → x < i → Sv x = 0) → L 0 = some (rv h0) → L 1 = some (iv fr) → L 2 = some (iv i) → pl + 1 - i < (N : Int) → S_ p l e (rmD 1 0 0) s m args below meth c (MQ below (QcV D G A Po) args s 0 0 A) D G A 7 0 0 9 L [] [(h0, ob 11 f), (hA, ar 1206 Ab), (hE, ar 6 E), (hff, ar 31 (uZ Ff fr (-1))), (hbf, ar 31 Bf), (hsu, ar 6 Sv)] := by
    intro N
    induction N with
    | zero =>
      intro i Sv L9 hi hz hL9_0 hL9_1 hL9_2 hN9
      exfalso; omega
    | succ N ih9 =>
      intro i Sv L9 hi hz hL9_0 hL9_1 hL9_2 hN9
      refine S_iload_n X dX12_marksFrom_9 rfl hL9_2 ?_
      refine S_aload_n X dX12_marksFrom_10 rfl hL9_0 ?_
      refine S_get X fgX12_253_11 0 rfl hf0 dX12_marksFrom_11 ?_
      refine S_icmp_ge (tgt := 30) X dX12_marksFrom_14 (by decide) (by omega) (by omega) (fun c_1 => ?_) (fun c_1 => ?_)
      ·
        refine S_iload_n X dX12_marksFrom_30 rfl hL9_1 ?_
        refine S_istore_n X dX12_marksFrom_31 rfl (nle rfl) ?_
        have lp32_3 : ∀ (N : Nat) (b : Int) (Fv : Int → Int) (Bv : Int → Int) (Sw : Int → Int) (L : Nat → Option AV), fr ≤ b ∧ b ≤ n → (∀ j, fr ≤ j → j < n → -1 ≤ Fv j ∧ Fv j ≤ n - 1 - j) → (∀ j, inR (Bv j)) → (∀ x, 0 ≤ x → x < pl → 0 ≤ Sw x ∧ Sw x ≤ 249 * (b - fr)) → L 0 = some (rv h0) → L 1 = some (iv fr) → L 2 = some (iv b) → n + 1 - b < (N : Int) → S_ p l e (rmD 1 0 0) s m args below meth c (MQ below (QcV D G A Po) args s 0 0 A) D G A 7 0 0 32 L [] [(h0, ob 11 f), (hA, ar 1206 Ab), (hE, ar 6 E), (hff, ar 31 Fv), (hbf, ar 31 Bv), (hsu, ar 6 Sw)] := by
          intro N
          induction N with
          | zero =>
            intro b Fv Bv Sw L32 hb hFv hBv hSw hL32_0 hL32_1 hL32_2 hN32
            exfalso; omega
          | succ N ih32 =>
            intro b Fv Bv Sw L32 hb hFv hBv hSw hL32_0 hL32_1 hL32_2 hN32
            refine S_iload_n X dX12_marksFrom_32 rfl hL32_2 ?_
            refine S_aload_n X dX12_marksFrom_33 rfl hL32_0 ?_
            refine S_get X fgX12_56_11 0 rfl hf1 dX12_marksFrom_34 ?_
            refine S_icmp_ge (tgt := 287) X dX12_marksFrom_37 (by decide) (by omega) (by omega) (fun c_2 => ?_) (fun c_2 => ?_)
            ·
              exact S_vret X (nle rfl) (nle rfl) dX12_marksFrom_287 (hPo _ (⟨_, _, _, rfl, hFv, hBv⟩))
            ·
              refine S_iconst X dX12_marksFrom_40 ?_
              refine S_istore_n X dX12_marksFrom_41 rfl (nle rfl) ?_
              refine S_iconst X dX12_marksFrom_42 ?_
              refine S_istore X dX12_marksFrom_43 (nle rfl) ?_
              refine S_iconst X dX12_marksFrom_45 ?_
              refine S_istore X dX12_marksFrom_46 (nle rfl) ?_
              have lp48_6 : ∀ (N : Nat) (i : Int) (lo : Int) (hi9 : Int) (Sx : Int → Int) (L : Nat → Option AV), 0 ≤ i ∧ i ≤ pl → 0 ≤ lo ∧ lo ≤ 7470 → 0 ≤ hi9 ∧ hi9 ≤ 7470 → (∀ x, 0 ≤ x → x < i → 0 ≤ Sx x ∧ Sx x ≤ 249 * (b - fr + 1)) → (∀ x, i ≤ x → x < pl → 0 ≤ Sx x ∧ Sx x ≤ 249 * (b - fr)) → L 0 = some (rv h0) → L 1 = some (iv fr) → L 2 = some (iv b) → L 3 = some (iv lo) → L 4 = some (iv hi9) → L 5 = some (iv i) → pl + 1 - i < (N : Int) → S_ p l e (rmD 1 0 0) s m args below meth c (MQ below (QcV D G A Po) args s 0 0 A) D G A 7 0 0 48 L [] [(h0, ob 11 f), (hA, ar 1206 Ab), (hE, ar 6 E), (hff, ar 31 Fv), (hbf, ar 31 Bv), (hsu, ar 6 Sx)] := by
                intro N
                induction N with
                | zero =>
                  intro i lo hi9 Sx L48 hi hlo hhi hS1 hS2 hL48_0 hL48_1 hL48_2 hL48_3 hL48_4 hL48_5 hN48
                  exfalso; omega
                | succ N ih48 =>
                  intro i lo hi9 Sx L48 hi hlo hhi hS1 hS2 hL48_0 hL48_1 hL48_2 hL48_3 hL48_4 hL48_5 hN48
                  refine S_iload X dX12_marksFrom_48 hL48_5 ?_
                  refine S_aload_n X dX12_marksFrom_50 rfl hL48_0 ?_
                  refine S_get X fgX12_253_11 0 rfl hf0 dX12_marksFrom_51 ?_
                  refine S_icmp_ge (tgt := 134) X dX12_marksFrom_54 (by decide) (by omega) (by omega) (fun c_3 => ?_) (fun c_3 => ?_)
                  ·
                    refine S_iload X dX12_marksFrom_134 hL48_4 ?_
                    refine S_iload_n X dX12_marksFrom_136 rfl hL48_3 ?_
                    refine S_isub X dX12_marksFrom_137 ?_
                    refine S_aload_n X dX12_marksFrom_138 rfl hL48_0 ?_
                    refine S_get X fgX12_59_11 0 rfl hf4 dX12_marksFrom_139 ?_
                    refine S_icmp_le (tgt := 146) X dX12_marksFrom_142 (by decide) (by omega) (by omega) (fun c_4 => ?_) (fun c_4 => ?_)
                    ·
                      refine S_iload_n X dX12_marksFrom_146 rfl hL48_2 ?_
                      refine S_aload_n X dX12_marksFrom_147 rfl hL48_0 ?_
                      refine S_get X fgX12_56_11 0 rfl hf1 dX12_marksFrom_148 ?_
                      refine S_iconst X dX12_marksFrom_151 ?_
                      refine S_isub X dX12_marksFrom_152 ?_
                      refine S_icmp_ne (tgt := 160) X dX12_marksFrom_153 (by decide) (by omega) (by omega) (fun c_5 => ?_) (fun c_5 => ?_)
                      ·
                        have hf9 := hFv (b + 1) (by omega) (by omega)
                        refine S_aload_n X dX12_marksFrom_160 rfl hL48_0 ?_
                        refine S_get X fgX12_80_11 0 rfl hf5 dX12_marksFrom_161 ?_
                        refine S_iload_n X dX12_marksFrom_164 rfl hL48_2 ?_
                        refine S_iconst X dX12_marksFrom_165 ?_
                        refine S_iadd X dX12_marksFrom_166 ?_
                        refine S_iald X 3 rfl (by omega) (by omega) (nle rfl) dX12_marksFrom_167 ?_
                        refine S_iconst X dX12_marksFrom_168 ?_
                        refine S_icmp_ne (tgt := 176) X dX12_marksFrom_169 (by decide) (by omega) (by decide) (fun c_6 => ?_) (fun c_6 => ?_)
                        ·
                          refine S_aload_n X dX12_marksFrom_176 rfl hL48_0 ?_
                          refine S_get X fgX12_80_11 0 rfl hf5 dX12_marksFrom_177 ?_
                          refine S_iload_n X dX12_marksFrom_180 rfl hL48_2 ?_
                          refine S_iconst X dX12_marksFrom_181 ?_
                          refine S_iadd X dX12_marksFrom_182 ?_
                          refine S_iald X 3 rfl (by omega) (by omega) (nle rfl) dX12_marksFrom_183 ?_
                          refine S_iconst X dX12_marksFrom_184 ?_
                          refine S_iadd X dX12_marksFrom_185 ?_
                          refine S_istore X dX12_marksFrom_186 (nle rfl) ?_
                          refine S_iload_n X dX12_marksFrom_188 rfl hL48_2 ?_
                          refine S_aload_n X dX12_marksFrom_189 rfl hL48_0 ?_
                          refine S_get X fgX12_56_11 0 rfl hf1 dX12_marksFrom_190 ?_
                          refine S_iconst X dX12_marksFrom_193 ?_
                          refine S_isub X dX12_marksFrom_194 ?_
                          refine S_icmp_ne (tgt := 202) X dX12_marksFrom_195 (by decide) (by omega) (by omega) (fun c_7 => ?_) (fun c_7 => ?_)
                          ·
                            have hb9 := hBv (b + 1)
                            refine S_aload_n X dX12_marksFrom_202 rfl hL48_0 ?_
                            refine S_get X fgX12_83_11 0 rfl hf6 dX12_marksFrom_203 ?_
                            refine S_iload_n X dX12_marksFrom_206 rfl hL48_2 ?_
                            refine S_iconst X dX12_marksFrom_207 ?_
                            refine S_iadd X dX12_marksFrom_208 ?_
                            refine S_iald X 4 rfl (by omega) (by omega) (nle rfl) dX12_marksFrom_209 ?_
                            refine S_iconst X dX12_marksFrom_210 ?_
                            refine S_iload_n X dX12_marksFrom_211 rfl hL48_2 ?_
                            refine S_ishl X dX12_marksFrom_212 ?_
                            refine S_ior X dX12_marksFrom_213 ?_
                            refine S_istore X dX12_marksFrom_214 (nle rfl) ?_
                            refine S_iload X dX12_marksFrom_216 rfl ?_
                            refine S_iconst X dX12_marksFrom_218 ?_
                            refine S_icmp_eq (tgt := 281) X dX12_marksFrom_219 (by decide) (by omega) (by decide) (fun c_8 => ?_) (fun c_8 => ?_)
                            ·
                              refine S_iinc X dX12_marksFrom_281 (nle rfl) hL48_2 ?_
                              refine S_goto (tgt := 32) X dX12_marksFrom_284 (by decide) ?_
                              exact ih32 (b + 1) Fv Bv Sx _ (by omega) (hFv) (hBv) (fun x h0 h1 => by have := hS1 x h0 (by omega); omega) hL48_0 hL48_1 rfl (by omega)
                            ·
                              have hf8 := hFv fr (by omega) (by omega)
                              have hb8 := hBv fr
                              refine S_aload_n X dX12_marksFrom_222 rfl hL48_0 ?_
                              refine S_get X fgX12_80_11 0 rfl hf5 dX12_marksFrom_223 ?_
                              refine S_iload_n X dX12_marksFrom_226 rfl hL48_1 ?_
                              refine S_iald X 3 rfl (by omega) (by omega) (nle rfl) dX12_marksFrom_227 ?_
                              refine S_iconst X dX12_marksFrom_228 ?_
                              refine S_icmp_eq (tgt := 265) X dX12_marksFrom_229 (by decide) (by omega) (by decide) (fun c_9 => ?_) (fun c_9 => ?_)
                              ·
                                refine S_aload_n X dX12_marksFrom_265 rfl hL48_0 ?_
                                refine S_get X fgX12_80_11 0 rfl hf5 dX12_marksFrom_266 ?_
                                refine S_iload_n X dX12_marksFrom_269 rfl hL48_1 ?_
                                refine S_iload X dX12_marksFrom_270 rfl ?_
                                refine S_iast X 3 rfl (by omega) (by omega) (nle rfl) dX12_marksFrom_272 ?_
                                refine S_w (ws' := [(h0, ob 11 f), (hA, ar 1206 Ab), (hE, ar 6 E), (hff, ar 31 (uZ Fv fr ((Fv (b + 1)) + 1))), (hbf, ar 31 Bv), (hsu, ar 6 Sx)]) rfl ?_
                                refine S_aload_n X dX12_marksFrom_273 rfl hL48_0 ?_
                                refine S_get X fgX12_83_11 0 rfl hf6 dX12_marksFrom_274 ?_
                                refine S_iload_n X dX12_marksFrom_277 rfl hL48_1 ?_
                                refine S_iload X dX12_marksFrom_278 rfl ?_
                                refine S_iast X 4 rfl (by omega) (by omega) (nle rfl) dX12_marksFrom_280 ?_
                                refine S_w (ws' := [(h0, ob 11 f), (hA, ar 1206 Ab), (hE, ar 6 E), (hff, ar 31 (uZ Fv fr ((Fv (b + 1)) + 1))), (hbf, ar 31 (uZ Bv fr (zOr (Bv (b + 1)) (zShl 1 b)))), (hsu, ar 6 Sx)]) rfl ?_
                                refine S_iinc X dX12_marksFrom_281 (nle rfl) hL48_2 ?_
                                refine S_goto (tgt := 32) X dX12_marksFrom_284 (by decide) ?_
                                exact ih32 (b + 1) (uZ Fv fr ((Fv (b + 1)) + 1)) (uZ Bv fr (zOr (Bv (b + 1)) (zShl 1 b))) Sx _ (by omega) (fun j j0 j1 => (by omega : j = fr ∨ fr < j).elim (fun q9 => by rw [q9, uZ_at]; omega) (fun q9 => by rw [uZ_ne (by omega)]; exact hFv j j0 j1)) (uZ_all hBv (zOr_r _ _)) (fun x h0 h1 => by have := hS1 x h0 (by omega); omega) hL48_0 hL48_1 rfl (by omega)
                              ·
                                refine S_iload X dX12_marksFrom_232 rfl ?_
                                refine S_aload_n X dX12_marksFrom_234 rfl hL48_0 ?_
                                refine S_get X fgX12_80_11 0 rfl hf5 dX12_marksFrom_235 ?_
                                refine S_iload_n X dX12_marksFrom_238 rfl hL48_1 ?_
                                refine S_iald X 3 rfl (by omega) (by omega) (nle rfl) dX12_marksFrom_239 ?_
                                refine S_icmp_lt (tgt := 265) X dX12_marksFrom_240 (by decide) (by omega) (by omega) (fun c_10 => ?_) (fun c_10 => ?_)
                                ·
                                  refine S_aload_n X dX12_marksFrom_265 rfl hL48_0 ?_
                                  refine S_get X fgX12_80_11 0 rfl hf5 dX12_marksFrom_266 ?_
                                  refine S_iload_n X dX12_marksFrom_269 rfl hL48_1 ?_
                                  refine S_iload X dX12_marksFrom_270 rfl ?_
                                  refine S_iast X 3 rfl (by omega) (by omega) (nle rfl) dX12_marksFrom_272 ?_
                                  refine S_w (ws' := [(h0, ob 11 f), (hA, ar 1206 Ab), (hE, ar 6 E), (hff, ar 31 (uZ Fv fr ((Fv (b + 1)) + 1))), (hbf, ar 31 Bv), (hsu, ar 6 Sx)]) rfl ?_
                                  refine S_aload_n X dX12_marksFrom_273 rfl hL48_0 ?_
                                  refine S_get X fgX12_83_11 0 rfl hf6 dX12_marksFrom_274 ?_
                                  refine S_iload_n X dX12_marksFrom_277 rfl hL48_1 ?_
                                  refine S_iload X dX12_marksFrom_278 rfl ?_
                                  refine S_iast X 4 rfl (by omega) (by omega) (nle rfl) dX12_marksFrom_280 ?_
                                  refine S_w (ws' := [(h0, ob 11 f), (hA, ar 1206 Ab), (hE, ar 6 E), (hff, ar 31 (uZ Fv fr ((Fv (b + 1)) + 1))), (hbf, ar 31 (uZ Bv fr (zOr (Bv (b + 1)) (zShl 1 b)))), (hsu, ar 6 Sx)]) rfl ?_
                                  refine S_iinc X dX12_marksFrom_281 (nle rfl) hL48_2 ?_
                                  refine S_goto (tgt := 32) X dX12_marksFrom_284 (by decide) ?_
                                  exact ih32 (b + 1) (uZ Fv fr ((Fv (b + 1)) + 1)) (uZ Bv fr (zOr (Bv (b + 1)) (zShl 1 b))) Sx _ (by omega) (fun j j0 j1 => (by omega : j = fr ∨ fr < j).elim (fun q9 => by rw [q9, uZ_at]; omega) (fun q9 => by rw [uZ_ne (by omega)]; exact hFv j j0 j1)) (uZ_all hBv (zOr_r _ _)) (fun x h0 h1 => by have := hS1 x h0 (by omega); omega) hL48_0 hL48_1 rfl (by omega)
                                ·
                                  refine S_iload X dX12_marksFrom_243 rfl ?_
                                  refine S_aload_n X dX12_marksFrom_245 rfl hL48_0 ?_
                                  refine S_get X fgX12_80_11 0 rfl hf5 dX12_marksFrom_246 ?_
                                  refine S_iload_n X dX12_marksFrom_249 rfl hL48_1 ?_
                                  refine S_iald X 3 rfl (by omega) (by omega) (nle rfl) dX12_marksFrom_250 ?_
                                  refine S_icmp_ne (tgt := 281) X dX12_marksFrom_251 (by decide) (by omega) (by omega) (fun c_11 => ?_) (fun c_11 => ?_)
                                  ·
                                    refine S_iinc X dX12_marksFrom_281 (nle rfl) hL48_2 ?_
                                    refine S_goto (tgt := 32) X dX12_marksFrom_284 (by decide) ?_
                                    exact ih32 (b + 1) Fv Bv Sx _ (by omega) (hFv) (hBv) (fun x h0 h1 => by have := hS1 x h0 (by omega); omega) hL48_0 hL48_1 rfl (by omega)
                                  ·
                                    refine S_iload X dX12_marksFrom_254 rfl ?_
                                    refine S_aload_n X dX12_marksFrom_256 rfl hL48_0 ?_
                                    refine S_get X fgX12_83_11 0 rfl hf6 dX12_marksFrom_257 ?_
                                    refine S_iload_n X dX12_marksFrom_260 rfl hL48_1 ?_
                                    refine S_iald X 4 rfl (by omega) (by omega) (nle rfl) dX12_marksFrom_261 ?_
                                    have hzr := zOr_r (Bv (b + 1)) (zShl 1 b)
                                    refine S_icmp_ge (tgt := 281) X dX12_marksFrom_262 (by decide) (by omega) (by omega) (fun c_12 => ?_) (fun c_12 => ?_)
                                    ·
                                      refine S_iinc X dX12_marksFrom_281 (nle rfl) hL48_2 ?_
                                      refine S_goto (tgt := 32) X dX12_marksFrom_284 (by decide) ?_
                                      exact ih32 (b + 1) Fv Bv Sx _ (by omega) (hFv) (hBv) (fun x h0 h1 => by have := hS1 x h0 (by omega); omega) hL48_0 hL48_1 rfl (by omega)
                                    ·
                                      refine S_aload_n X dX12_marksFrom_265 rfl hL48_0 ?_
                                      refine S_get X fgX12_80_11 0 rfl hf5 dX12_marksFrom_266 ?_
                                      refine S_iload_n X dX12_marksFrom_269 rfl hL48_1 ?_
                                      refine S_iload X dX12_marksFrom_270 rfl ?_
                                      refine S_iast X 3 rfl (by omega) (by omega) (nle rfl) dX12_marksFrom_272 ?_
                                      refine S_w (ws' := [(h0, ob 11 f), (hA, ar 1206 Ab), (hE, ar 6 E), (hff, ar 31 (uZ Fv fr ((Fv (b + 1)) + 1))), (hbf, ar 31 Bv), (hsu, ar 6 Sx)]) rfl ?_
                                      refine S_aload_n X dX12_marksFrom_273 rfl hL48_0 ?_
                                      refine S_get X fgX12_83_11 0 rfl hf6 dX12_marksFrom_274 ?_
                                      refine S_iload_n X dX12_marksFrom_277 rfl hL48_1 ?_
                                      refine S_iload X dX12_marksFrom_278 rfl ?_
                                      refine S_iast X 4 rfl (by omega) (by omega) (nle rfl) dX12_marksFrom_280 ?_
                                      refine S_w (ws' := [(h0, ob 11 f), (hA, ar 1206 Ab), (hE, ar 6 E), (hff, ar 31 (uZ Fv fr ((Fv (b + 1)) + 1))), (hbf, ar 31 (uZ Bv fr (zOr (Bv (b + 1)) (zShl 1 b)))), (hsu, ar 6 Sx)]) rfl ?_
                                      refine S_iinc X dX12_marksFrom_281 (nle rfl) hL48_2 ?_
                                      refine S_goto (tgt := 32) X dX12_marksFrom_284 (by decide) ?_
                                      exact ih32 (b + 1) (uZ Fv fr ((Fv (b + 1)) + 1)) (uZ Bv fr (zOr (Bv (b + 1)) (zShl 1 b))) Sx _ (by omega) (fun j j0 j1 => (by omega : j = fr ∨ fr < j).elim (fun q9 => by rw [q9, uZ_at]; omega) (fun q9 => by rw [uZ_ne (by omega)]; exact hFv j j0 j1)) (uZ_all hBv (zOr_r _ _)) (fun x h0 h1 => by have := hS1 x h0 (by omega); omega) hL48_0 hL48_1 rfl (by omega)
                          ·
                            refine S_iconst X dX12_marksFrom_198 ?_
                            refine S_goto (tgt := 214) X dX12_marksFrom_199 (by decide) ?_
                            refine S_istore X dX12_marksFrom_214 (nle rfl) ?_
                            refine S_iload X dX12_marksFrom_216 rfl ?_
                            refine S_iconst X dX12_marksFrom_218 ?_
                            refine S_icmp_eq (tgt := 281) X dX12_marksFrom_219 (by decide) (by omega) (by decide) (fun c_13 => ?_) (fun c_13 => ?_)
                            ·
                              refine S_iinc X dX12_marksFrom_281 (nle rfl) hL48_2 ?_
                              refine S_goto (tgt := 32) X dX12_marksFrom_284 (by decide) ?_
                              exact ih32 (b + 1) Fv Bv Sx _ (by omega) (hFv) (hBv) (fun x h0 h1 => by have := hS1 x h0 (by omega); omega) hL48_0 hL48_1 rfl (by omega)
                            ·
                              have hf8 := hFv fr (by omega) (by omega)
                              have hb8 := hBv fr
                              refine S_aload_n X dX12_marksFrom_222 rfl hL48_0 ?_
                              refine S_get X fgX12_80_11 0 rfl hf5 dX12_marksFrom_223 ?_
                              refine S_iload_n X dX12_marksFrom_226 rfl hL48_1 ?_
                              refine S_iald X 3 rfl (by omega) (by omega) (nle rfl) dX12_marksFrom_227 ?_
                              refine S_iconst X dX12_marksFrom_228 ?_
                              refine S_icmp_eq (tgt := 265) X dX12_marksFrom_229 (by decide) (by omega) (by decide) (fun c_14 => ?_) (fun c_14 => ?_)
                              ·
                                refine S_aload_n X dX12_marksFrom_265 rfl hL48_0 ?_
                                refine S_get X fgX12_80_11 0 rfl hf5 dX12_marksFrom_266 ?_
                                refine S_iload_n X dX12_marksFrom_269 rfl hL48_1 ?_
                                refine S_iload X dX12_marksFrom_270 rfl ?_
                                refine S_iast X 3 rfl (by omega) (by omega) (nle rfl) dX12_marksFrom_272 ?_
                                refine S_w (ws' := [(h0, ob 11 f), (hA, ar 1206 Ab), (hE, ar 6 E), (hff, ar 31 (uZ Fv fr ((Fv (b + 1)) + 1))), (hbf, ar 31 Bv), (hsu, ar 6 Sx)]) rfl ?_
                                refine S_aload_n X dX12_marksFrom_273 rfl hL48_0 ?_
                                refine S_get X fgX12_83_11 0 rfl hf6 dX12_marksFrom_274 ?_
                                refine S_iload_n X dX12_marksFrom_277 rfl hL48_1 ?_
                                refine S_iload X dX12_marksFrom_278 rfl ?_
                                refine S_iast X 4 rfl (by omega) (by omega) (nle rfl) dX12_marksFrom_280 ?_
                                refine S_w (ws' := [(h0, ob 11 f), (hA, ar 1206 Ab), (hE, ar 6 E), (hff, ar 31 (uZ Fv fr ((Fv (b + 1)) + 1))), (hbf, ar 31 (uZ Bv fr 0)), (hsu, ar 6 Sx)]) rfl ?_
                                refine S_iinc X dX12_marksFrom_281 (nle rfl) hL48_2 ?_
                                refine S_goto (tgt := 32) X dX12_marksFrom_284 (by decide) ?_
                                exact ih32 (b + 1) (uZ Fv fr ((Fv (b + 1)) + 1)) (uZ Bv fr 0) Sx _ (by omega) (fun j j0 j1 => (by omega : j = fr ∨ fr < j).elim (fun q9 => by rw [q9, uZ_at]; omega) (fun q9 => by rw [uZ_ne (by omega)]; exact hFv j j0 j1)) (uZ_all hBv (by decide)) (fun x h0 h1 => by have := hS1 x h0 (by omega); omega) hL48_0 hL48_1 rfl (by omega)
                              ·
                                refine S_iload X dX12_marksFrom_232 rfl ?_
                                refine S_aload_n X dX12_marksFrom_234 rfl hL48_0 ?_
                                refine S_get X fgX12_80_11 0 rfl hf5 dX12_marksFrom_235 ?_
                                refine S_iload_n X dX12_marksFrom_238 rfl hL48_1 ?_
                                refine S_iald X 3 rfl (by omega) (by omega) (nle rfl) dX12_marksFrom_239 ?_
                                refine S_icmp_lt (tgt := 265) X dX12_marksFrom_240 (by decide) (by omega) (by omega) (fun c_15 => ?_) (fun c_15 => ?_)
                                ·
                                  refine S_aload_n X dX12_marksFrom_265 rfl hL48_0 ?_
                                  refine S_get X fgX12_80_11 0 rfl hf5 dX12_marksFrom_266 ?_
                                  refine S_iload_n X dX12_marksFrom_269 rfl hL48_1 ?_
                                  refine S_iload X dX12_marksFrom_270 rfl ?_
                                  refine S_iast X 3 rfl (by omega) (by omega) (nle rfl) dX12_marksFrom_272 ?_
                                  refine S_w (ws' := [(h0, ob 11 f), (hA, ar 1206 Ab), (hE, ar 6 E), (hff, ar 31 (uZ Fv fr ((Fv (b + 1)) + 1))), (hbf, ar 31 Bv), (hsu, ar 6 Sx)]) rfl ?_
                                  refine S_aload_n X dX12_marksFrom_273 rfl hL48_0 ?_
                                  refine S_get X fgX12_83_11 0 rfl hf6 dX12_marksFrom_274 ?_
                                  refine S_iload_n X dX12_marksFrom_277 rfl hL48_1 ?_
                                  refine S_iload X dX12_marksFrom_278 rfl ?_
                                  refine S_iast X 4 rfl (by omega) (by omega) (nle rfl) dX12_marksFrom_280 ?_
                                  refine S_w (ws' := [(h0, ob 11 f), (hA, ar 1206 Ab), (hE, ar 6 E), (hff, ar 31 (uZ Fv fr ((Fv (b + 1)) + 1))), (hbf, ar 31 (uZ Bv fr 0)), (hsu, ar 6 Sx)]) rfl ?_
                                  refine S_iinc X dX12_marksFrom_281 (nle rfl) hL48_2 ?_
                                  refine S_goto (tgt := 32) X dX12_marksFrom_284 (by decide) ?_
                                  exact ih32 (b + 1) (uZ Fv fr ((Fv (b + 1)) + 1)) (uZ Bv fr 0) Sx _ (by omega) (fun j j0 j1 => (by omega : j = fr ∨ fr < j).elim (fun q9 => by rw [q9, uZ_at]; omega) (fun q9 => by rw [uZ_ne (by omega)]; exact hFv j j0 j1)) (uZ_all hBv (by decide)) (fun x h0 h1 => by have := hS1 x h0 (by omega); omega) hL48_0 hL48_1 rfl (by omega)
                                ·
                                  refine S_iload X dX12_marksFrom_243 rfl ?_
                                  refine S_aload_n X dX12_marksFrom_245 rfl hL48_0 ?_
                                  refine S_get X fgX12_80_11 0 rfl hf5 dX12_marksFrom_246 ?_
                                  refine S_iload_n X dX12_marksFrom_249 rfl hL48_1 ?_
                                  refine S_iald X 3 rfl (by omega) (by omega) (nle rfl) dX12_marksFrom_250 ?_
                                  refine S_icmp_ne (tgt := 281) X dX12_marksFrom_251 (by decide) (by omega) (by omega) (fun c_16 => ?_) (fun c_16 => ?_)
                                  ·
                                    refine S_iinc X dX12_marksFrom_281 (nle rfl) hL48_2 ?_
                                    refine S_goto (tgt := 32) X dX12_marksFrom_284 (by decide) ?_
                                    exact ih32 (b + 1) Fv Bv Sx _ (by omega) (hFv) (hBv) (fun x h0 h1 => by have := hS1 x h0 (by omega); omega) hL48_0 hL48_1 rfl (by omega)
                                  ·
                                    refine S_iload X dX12_marksFrom_254 rfl ?_
                                    refine S_aload_n X dX12_marksFrom_256 rfl hL48_0 ?_
                                    refine S_get X fgX12_83_11 0 rfl hf6 dX12_marksFrom_257 ?_
                                    refine S_iload_n X dX12_marksFrom_260 rfl hL48_1 ?_
                                    refine S_iald X 4 rfl (by omega) (by omega) (nle rfl) dX12_marksFrom_261 ?_
                                    have hzr := zOr_r (Bv (b + 1)) (zShl 1 b)
                                    refine S_icmp_ge (tgt := 281) X dX12_marksFrom_262 (by decide) (by decide) (by omega) (fun c_17 => ?_) (fun c_17 => ?_)
                                    ·
                                      refine S_iinc X dX12_marksFrom_281 (nle rfl) hL48_2 ?_
                                      refine S_goto (tgt := 32) X dX12_marksFrom_284 (by decide) ?_
                                      exact ih32 (b + 1) Fv Bv Sx _ (by omega) (hFv) (hBv) (fun x h0 h1 => by have := hS1 x h0 (by omega); omega) hL48_0 hL48_1 rfl (by omega)
                                    ·
                                      refine S_aload_n X dX12_marksFrom_265 rfl hL48_0 ?_
                                      refine S_get X fgX12_80_11 0 rfl hf5 dX12_marksFrom_266 ?_
                                      refine S_iload_n X dX12_marksFrom_269 rfl hL48_1 ?_
                                      refine S_iload X dX12_marksFrom_270 rfl ?_
                                      refine S_iast X 3 rfl (by omega) (by omega) (nle rfl) dX12_marksFrom_272 ?_
                                      refine S_w (ws' := [(h0, ob 11 f), (hA, ar 1206 Ab), (hE, ar 6 E), (hff, ar 31 (uZ Fv fr ((Fv (b + 1)) + 1))), (hbf, ar 31 Bv), (hsu, ar 6 Sx)]) rfl ?_
                                      refine S_aload_n X dX12_marksFrom_273 rfl hL48_0 ?_
                                      refine S_get X fgX12_83_11 0 rfl hf6 dX12_marksFrom_274 ?_
                                      refine S_iload_n X dX12_marksFrom_277 rfl hL48_1 ?_
                                      refine S_iload X dX12_marksFrom_278 rfl ?_
                                      refine S_iast X 4 rfl (by omega) (by omega) (nle rfl) dX12_marksFrom_280 ?_
                                      refine S_w (ws' := [(h0, ob 11 f), (hA, ar 1206 Ab), (hE, ar 6 E), (hff, ar 31 (uZ Fv fr ((Fv (b + 1)) + 1))), (hbf, ar 31 (uZ Bv fr 0)), (hsu, ar 6 Sx)]) rfl ?_
                                      refine S_iinc X dX12_marksFrom_281 (nle rfl) hL48_2 ?_
                                      refine S_goto (tgt := 32) X dX12_marksFrom_284 (by decide) ?_
                                      exact ih32 (b + 1) (uZ Fv fr ((Fv (b + 1)) + 1)) (uZ Bv fr 0) Sx _ (by omega) (fun j j0 j1 => (by omega : j = fr ∨ fr < j).elim (fun q9 => by rw [q9, uZ_at]; omega) (fun q9 => by rw [uZ_ne (by omega)]; exact hFv j j0 j1)) (uZ_all hBv (by decide)) (fun x h0 h1 => by have := hS1 x h0 (by omega); omega) hL48_0 hL48_1 rfl (by omega)
                        ·
                          refine S_iconst X dX12_marksFrom_172 ?_
                          refine S_goto (tgt := 186) X dX12_marksFrom_173 (by decide) ?_
                          refine S_istore X dX12_marksFrom_186 (nle rfl) ?_
                          refine S_iload_n X dX12_marksFrom_188 rfl hL48_2 ?_
                          refine S_aload_n X dX12_marksFrom_189 rfl hL48_0 ?_
                          refine S_get X fgX12_56_11 0 rfl hf1 dX12_marksFrom_190 ?_
                          refine S_iconst X dX12_marksFrom_193 ?_
                          refine S_isub X dX12_marksFrom_194 ?_
                          refine S_icmp_ne (tgt := 202) X dX12_marksFrom_195 (by decide) (by omega) (by omega) (fun c_18 => ?_) (fun c_18 => ?_)
                          ·
                            have hb9 := hBv (b + 1)
                            refine S_aload_n X dX12_marksFrom_202 rfl hL48_0 ?_
                            refine S_get X fgX12_83_11 0 rfl hf6 dX12_marksFrom_203 ?_
                            refine S_iload_n X dX12_marksFrom_206 rfl hL48_2 ?_
                            refine S_iconst X dX12_marksFrom_207 ?_
                            refine S_iadd X dX12_marksFrom_208 ?_
                            refine S_iald X 4 rfl (by omega) (by omega) (nle rfl) dX12_marksFrom_209 ?_
                            refine S_iconst X dX12_marksFrom_210 ?_
                            refine S_iload_n X dX12_marksFrom_211 rfl hL48_2 ?_
                            refine S_ishl X dX12_marksFrom_212 ?_
                            refine S_ior X dX12_marksFrom_213 ?_
                            refine S_istore X dX12_marksFrom_214 (nle rfl) ?_
                            refine S_iload X dX12_marksFrom_216 rfl ?_
                            refine S_iconst X dX12_marksFrom_218 ?_
                            refine S_icmp_eq (tgt := 281) X dX12_marksFrom_219 (by decide) (by decide) (by decide) (fun _ => ?_) (fun h9 => absurd h9 (by decide))
                            refine S_iinc X dX12_marksFrom_281 (nle rfl) hL48_2 ?_
                            refine S_goto (tgt := 32) X dX12_marksFrom_284 (by decide) ?_
                            exact ih32 (b + 1) Fv Bv Sx _ (by omega) (hFv) (hBv) (fun x h0 h1 => by have := hS1 x h0 (by omega); omega) hL48_0 hL48_1 rfl (by omega)
                          ·
                            refine S_iconst X dX12_marksFrom_198 ?_
                            refine S_goto (tgt := 214) X dX12_marksFrom_199 (by decide) ?_
                            refine S_istore X dX12_marksFrom_214 (nle rfl) ?_
                            refine S_iload X dX12_marksFrom_216 rfl ?_
                            refine S_iconst X dX12_marksFrom_218 ?_
                            refine S_icmp_eq (tgt := 281) X dX12_marksFrom_219 (by decide) (by decide) (by decide) (fun _ => ?_) (fun h9 => absurd h9 (by decide))
                            refine S_iinc X dX12_marksFrom_281 (nle rfl) hL48_2 ?_
                            refine S_goto (tgt := 32) X dX12_marksFrom_284 (by decide) ?_
                            exact ih32 (b + 1) Fv Bv Sx _ (by omega) (hFv) (hBv) (fun x h0 h1 => by have := hS1 x h0 (by omega); omega) hL48_0 hL48_1 rfl (by omega)
                      ·
                        refine S_iconst X dX12_marksFrom_156 ?_
                        refine S_goto (tgt := 186) X dX12_marksFrom_157 (by decide) ?_
                        refine S_istore X dX12_marksFrom_186 (nle rfl) ?_
                        refine S_iload_n X dX12_marksFrom_188 rfl hL48_2 ?_
                        refine S_aload_n X dX12_marksFrom_189 rfl hL48_0 ?_
                        refine S_get X fgX12_56_11 0 rfl hf1 dX12_marksFrom_190 ?_
                        refine S_iconst X dX12_marksFrom_193 ?_
                        refine S_isub X dX12_marksFrom_194 ?_
                        refine S_icmp_ne (tgt := 202) X dX12_marksFrom_195 (by decide) (by omega) (by omega) (fun c_21 => ?_) (fun c_21 => ?_)
                        ·
                          have hb9 := hBv (b + 1)
                          refine S_aload_n X dX12_marksFrom_202 rfl hL48_0 ?_
                          refine S_get X fgX12_83_11 0 rfl hf6 dX12_marksFrom_203 ?_
                          refine S_iload_n X dX12_marksFrom_206 rfl hL48_2 ?_
                          refine S_iconst X dX12_marksFrom_207 ?_
                          refine S_iadd X dX12_marksFrom_208 ?_
                          refine S_iald X 4 rfl (by omega) (by omega) (nle rfl) dX12_marksFrom_209 ?_
                          refine S_iconst X dX12_marksFrom_210 ?_
                          refine S_iload_n X dX12_marksFrom_211 rfl hL48_2 ?_
                          refine S_ishl X dX12_marksFrom_212 ?_
                          refine S_ior X dX12_marksFrom_213 ?_
                          refine S_istore X dX12_marksFrom_214 (nle rfl) ?_
                          refine S_iload X dX12_marksFrom_216 rfl ?_
                          refine S_iconst X dX12_marksFrom_218 ?_
                          refine S_icmp_eq (tgt := 281) X dX12_marksFrom_219 (by decide) (by decide) (by decide) (fun h9 => absurd h9 (by decide)) (fun _ => ?_)
                          have hf8 := hFv fr (by omega) (by omega)
                          have hb8 := hBv fr
                          refine S_aload_n X dX12_marksFrom_222 rfl hL48_0 ?_
                          refine S_get X fgX12_80_11 0 rfl hf5 dX12_marksFrom_223 ?_
                          refine S_iload_n X dX12_marksFrom_226 rfl hL48_1 ?_
                          refine S_iald X 3 rfl (by omega) (by omega) (nle rfl) dX12_marksFrom_227 ?_
                          refine S_iconst X dX12_marksFrom_228 ?_
                          refine S_icmp_eq (tgt := 265) X dX12_marksFrom_229 (by decide) (by omega) (by decide) (fun c_23 => ?_) (fun c_23 => ?_)
                          ·
                            refine S_aload_n X dX12_marksFrom_265 rfl hL48_0 ?_
                            refine S_get X fgX12_80_11 0 rfl hf5 dX12_marksFrom_266 ?_
                            refine S_iload_n X dX12_marksFrom_269 rfl hL48_1 ?_
                            refine S_iload X dX12_marksFrom_270 rfl ?_
                            refine S_iast X 3 rfl (by omega) (by omega) (nle rfl) dX12_marksFrom_272 ?_
                            refine S_w (ws' := [(h0, ob 11 f), (hA, ar 1206 Ab), (hE, ar 6 E), (hff, ar 31 (uZ Fv fr 0)), (hbf, ar 31 Bv), (hsu, ar 6 Sx)]) rfl ?_
                            refine S_aload_n X dX12_marksFrom_273 rfl hL48_0 ?_
                            refine S_get X fgX12_83_11 0 rfl hf6 dX12_marksFrom_274 ?_
                            refine S_iload_n X dX12_marksFrom_277 rfl hL48_1 ?_
                            refine S_iload X dX12_marksFrom_278 rfl ?_
                            refine S_iast X 4 rfl (by omega) (by omega) (nle rfl) dX12_marksFrom_280 ?_
                            refine S_w (ws' := [(h0, ob 11 f), (hA, ar 1206 Ab), (hE, ar 6 E), (hff, ar 31 (uZ Fv fr 0)), (hbf, ar 31 (uZ Bv fr (zOr (Bv (b + 1)) (zShl 1 b)))), (hsu, ar 6 Sx)]) rfl ?_
                            refine S_iinc X dX12_marksFrom_281 (nle rfl) hL48_2 ?_
                            refine S_goto (tgt := 32) X dX12_marksFrom_284 (by decide) ?_
                            exact ih32 (b + 1) (uZ Fv fr 0) (uZ Bv fr (zOr (Bv (b + 1)) (zShl 1 b))) Sx _ (by omega) (fun j j0 j1 => (by omega : j = fr ∨ fr < j).elim (fun q9 => by rw [q9, uZ_at]; omega) (fun q9 => by rw [uZ_ne (by omega)]; exact hFv j j0 j1)) (uZ_all hBv (zOr_r _ _)) (fun x h0 h1 => by have := hS1 x h0 (by omega); omega) hL48_0 hL48_1 rfl (by omega)
                          ·
                            refine S_iload X dX12_marksFrom_232 rfl ?_
                            refine S_aload_n X dX12_marksFrom_234 rfl hL48_0 ?_
                            refine S_get X fgX12_80_11 0 rfl hf5 dX12_marksFrom_235 ?_
                            refine S_iload_n X dX12_marksFrom_238 rfl hL48_1 ?_
                            refine S_iald X 3 rfl (by omega) (by omega) (nle rfl) dX12_marksFrom_239 ?_
                            refine S_icmp_lt (tgt := 265) X dX12_marksFrom_240 (by decide) (by decide) (by omega) (fun c_24 => ?_) (fun c_24 => ?_)
                            ·
                              refine S_aload_n X dX12_marksFrom_265 rfl hL48_0 ?_
                              refine S_get X fgX12_80_11 0 rfl hf5 dX12_marksFrom_266 ?_
                              refine S_iload_n X dX12_marksFrom_269 rfl hL48_1 ?_
                              refine S_iload X dX12_marksFrom_270 rfl ?_
                              refine S_iast X 3 rfl (by omega) (by omega) (nle rfl) dX12_marksFrom_272 ?_
                              refine S_w (ws' := [(h0, ob 11 f), (hA, ar 1206 Ab), (hE, ar 6 E), (hff, ar 31 (uZ Fv fr 0)), (hbf, ar 31 Bv), (hsu, ar 6 Sx)]) rfl ?_
                              refine S_aload_n X dX12_marksFrom_273 rfl hL48_0 ?_
                              refine S_get X fgX12_83_11 0 rfl hf6 dX12_marksFrom_274 ?_
                              refine S_iload_n X dX12_marksFrom_277 rfl hL48_1 ?_
                              refine S_iload X dX12_marksFrom_278 rfl ?_
                              refine S_iast X 4 rfl (by omega) (by omega) (nle rfl) dX12_marksFrom_280 ?_
                              refine S_w (ws' := [(h0, ob 11 f), (hA, ar 1206 Ab), (hE, ar 6 E), (hff, ar 31 (uZ Fv fr 0)), (hbf, ar 31 (uZ Bv fr (zOr (Bv (b + 1)) (zShl 1 b)))), (hsu, ar 6 Sx)]) rfl ?_
                              refine S_iinc X dX12_marksFrom_281 (nle rfl) hL48_2 ?_
                              refine S_goto (tgt := 32) X dX12_marksFrom_284 (by decide) ?_
                              exact ih32 (b + 1) (uZ Fv fr 0) (uZ Bv fr (zOr (Bv (b + 1)) (zShl 1 b))) Sx _ (by omega) (fun j j0 j1 => (by omega : j = fr ∨ fr < j).elim (fun q9 => by rw [q9, uZ_at]; omega) (fun q9 => by rw [uZ_ne (by omega)]; exact hFv j j0 j1)) (uZ_all hBv (zOr_r _ _)) (fun x h0 h1 => by have := hS1 x h0 (by omega); omega) hL48_0 hL48_1 rfl (by omega)
                            ·
                              refine S_iload X dX12_marksFrom_243 rfl ?_
                              refine S_aload_n X dX12_marksFrom_245 rfl hL48_0 ?_
                              refine S_get X fgX12_80_11 0 rfl hf5 dX12_marksFrom_246 ?_
                              refine S_iload_n X dX12_marksFrom_249 rfl hL48_1 ?_
                              refine S_iald X 3 rfl (by omega) (by omega) (nle rfl) dX12_marksFrom_250 ?_
                              refine S_icmp_ne (tgt := 281) X dX12_marksFrom_251 (by decide) (by decide) (by omega) (fun c_25 => ?_) (fun c_25 => ?_)
                              ·
                                refine S_iinc X dX12_marksFrom_281 (nle rfl) hL48_2 ?_
                                refine S_goto (tgt := 32) X dX12_marksFrom_284 (by decide) ?_
                                exact ih32 (b + 1) Fv Bv Sx _ (by omega) (hFv) (hBv) (fun x h0 h1 => by have := hS1 x h0 (by omega); omega) hL48_0 hL48_1 rfl (by omega)
                              ·
                                refine S_iload X dX12_marksFrom_254 rfl ?_
                                refine S_aload_n X dX12_marksFrom_256 rfl hL48_0 ?_
                                refine S_get X fgX12_83_11 0 rfl hf6 dX12_marksFrom_257 ?_
                                refine S_iload_n X dX12_marksFrom_260 rfl hL48_1 ?_
                                refine S_iald X 4 rfl (by omega) (by omega) (nle rfl) dX12_marksFrom_261 ?_
                                have hzr := zOr_r (Bv (b + 1)) (zShl 1 b)
                                refine S_icmp_ge (tgt := 281) X dX12_marksFrom_262 (by decide) (by omega) (by omega) (fun c_26 => ?_) (fun c_26 => ?_)
                                ·
                                  refine S_iinc X dX12_marksFrom_281 (nle rfl) hL48_2 ?_
                                  refine S_goto (tgt := 32) X dX12_marksFrom_284 (by decide) ?_
                                  exact ih32 (b + 1) Fv Bv Sx _ (by omega) (hFv) (hBv) (fun x h0 h1 => by have := hS1 x h0 (by omega); omega) hL48_0 hL48_1 rfl (by omega)
                                ·
                                  refine S_aload_n X dX12_marksFrom_265 rfl hL48_0 ?_
                                  refine S_get X fgX12_80_11 0 rfl hf5 dX12_marksFrom_266 ?_
                                  refine S_iload_n X dX12_marksFrom_269 rfl hL48_1 ?_
                                  refine S_iload X dX12_marksFrom_270 rfl ?_
                                  refine S_iast X 3 rfl (by omega) (by omega) (nle rfl) dX12_marksFrom_272 ?_
                                  refine S_w (ws' := [(h0, ob 11 f), (hA, ar 1206 Ab), (hE, ar 6 E), (hff, ar 31 (uZ Fv fr 0)), (hbf, ar 31 Bv), (hsu, ar 6 Sx)]) rfl ?_
                                  refine S_aload_n X dX12_marksFrom_273 rfl hL48_0 ?_
                                  refine S_get X fgX12_83_11 0 rfl hf6 dX12_marksFrom_274 ?_
                                  refine S_iload_n X dX12_marksFrom_277 rfl hL48_1 ?_
                                  refine S_iload X dX12_marksFrom_278 rfl ?_
                                  refine S_iast X 4 rfl (by omega) (by omega) (nle rfl) dX12_marksFrom_280 ?_
                                  refine S_w (ws' := [(h0, ob 11 f), (hA, ar 1206 Ab), (hE, ar 6 E), (hff, ar 31 (uZ Fv fr 0)), (hbf, ar 31 (uZ Bv fr (zOr (Bv (b + 1)) (zShl 1 b)))), (hsu, ar 6 Sx)]) rfl ?_
                                  refine S_iinc X dX12_marksFrom_281 (nle rfl) hL48_2 ?_
                                  refine S_goto (tgt := 32) X dX12_marksFrom_284 (by decide) ?_
                                  exact ih32 (b + 1) (uZ Fv fr 0) (uZ Bv fr (zOr (Bv (b + 1)) (zShl 1 b))) Sx _ (by omega) (fun j j0 j1 => (by omega : j = fr ∨ fr < j).elim (fun q9 => by rw [q9, uZ_at]; omega) (fun q9 => by rw [uZ_ne (by omega)]; exact hFv j j0 j1)) (uZ_all hBv (zOr_r _ _)) (fun x h0 h1 => by have := hS1 x h0 (by omega); omega) hL48_0 hL48_1 rfl (by omega)
                        ·
                          refine S_iconst X dX12_marksFrom_198 ?_
                          refine S_goto (tgt := 214) X dX12_marksFrom_199 (by decide) ?_
                          refine S_istore X dX12_marksFrom_214 (nle rfl) ?_
                          refine S_iload X dX12_marksFrom_216 rfl ?_
                          refine S_iconst X dX12_marksFrom_218 ?_
                          refine S_icmp_eq (tgt := 281) X dX12_marksFrom_219 (by decide) (by decide) (by decide) (fun h9 => absurd h9 (by decide)) (fun _ => ?_)
                          have hf8 := hFv fr (by omega) (by omega)
                          have hb8 := hBv fr
                          refine S_aload_n X dX12_marksFrom_222 rfl hL48_0 ?_
                          refine S_get X fgX12_80_11 0 rfl hf5 dX12_marksFrom_223 ?_
                          refine S_iload_n X dX12_marksFrom_226 rfl hL48_1 ?_
                          refine S_iald X 3 rfl (by omega) (by omega) (nle rfl) dX12_marksFrom_227 ?_
                          refine S_iconst X dX12_marksFrom_228 ?_
                          refine S_icmp_eq (tgt := 265) X dX12_marksFrom_229 (by decide) (by omega) (by decide) (fun c_28 => ?_) (fun c_28 => ?_)
                          ·
                            refine S_aload_n X dX12_marksFrom_265 rfl hL48_0 ?_
                            refine S_get X fgX12_80_11 0 rfl hf5 dX12_marksFrom_266 ?_
                            refine S_iload_n X dX12_marksFrom_269 rfl hL48_1 ?_
                            refine S_iload X dX12_marksFrom_270 rfl ?_
                            refine S_iast X 3 rfl (by omega) (by omega) (nle rfl) dX12_marksFrom_272 ?_
                            refine S_w (ws' := [(h0, ob 11 f), (hA, ar 1206 Ab), (hE, ar 6 E), (hff, ar 31 (uZ Fv fr 0)), (hbf, ar 31 Bv), (hsu, ar 6 Sx)]) rfl ?_
                            refine S_aload_n X dX12_marksFrom_273 rfl hL48_0 ?_
                            refine S_get X fgX12_83_11 0 rfl hf6 dX12_marksFrom_274 ?_
                            refine S_iload_n X dX12_marksFrom_277 rfl hL48_1 ?_
                            refine S_iload X dX12_marksFrom_278 rfl ?_
                            refine S_iast X 4 rfl (by omega) (by omega) (nle rfl) dX12_marksFrom_280 ?_
                            refine S_w (ws' := [(h0, ob 11 f), (hA, ar 1206 Ab), (hE, ar 6 E), (hff, ar 31 (uZ Fv fr 0)), (hbf, ar 31 (uZ Bv fr 0)), (hsu, ar 6 Sx)]) rfl ?_
                            refine S_iinc X dX12_marksFrom_281 (nle rfl) hL48_2 ?_
                            refine S_goto (tgt := 32) X dX12_marksFrom_284 (by decide) ?_
                            exact ih32 (b + 1) (uZ Fv fr 0) (uZ Bv fr 0) Sx _ (by omega) (fun j j0 j1 => (by omega : j = fr ∨ fr < j).elim (fun q9 => by rw [q9, uZ_at]; omega) (fun q9 => by rw [uZ_ne (by omega)]; exact hFv j j0 j1)) (uZ_all hBv (by decide)) (fun x h0 h1 => by have := hS1 x h0 (by omega); omega) hL48_0 hL48_1 rfl (by omega)
                          ·
                            refine S_iload X dX12_marksFrom_232 rfl ?_
                            refine S_aload_n X dX12_marksFrom_234 rfl hL48_0 ?_
                            refine S_get X fgX12_80_11 0 rfl hf5 dX12_marksFrom_235 ?_
                            refine S_iload_n X dX12_marksFrom_238 rfl hL48_1 ?_
                            refine S_iald X 3 rfl (by omega) (by omega) (nle rfl) dX12_marksFrom_239 ?_
                            refine S_icmp_lt (tgt := 265) X dX12_marksFrom_240 (by decide) (by decide) (by omega) (fun c_29 => ?_) (fun c_29 => ?_)
                            ·
                              refine S_aload_n X dX12_marksFrom_265 rfl hL48_0 ?_
                              refine S_get X fgX12_80_11 0 rfl hf5 dX12_marksFrom_266 ?_
                              refine S_iload_n X dX12_marksFrom_269 rfl hL48_1 ?_
                              refine S_iload X dX12_marksFrom_270 rfl ?_
                              refine S_iast X 3 rfl (by omega) (by omega) (nle rfl) dX12_marksFrom_272 ?_
                              refine S_w (ws' := [(h0, ob 11 f), (hA, ar 1206 Ab), (hE, ar 6 E), (hff, ar 31 (uZ Fv fr 0)), (hbf, ar 31 Bv), (hsu, ar 6 Sx)]) rfl ?_
                              refine S_aload_n X dX12_marksFrom_273 rfl hL48_0 ?_
                              refine S_get X fgX12_83_11 0 rfl hf6 dX12_marksFrom_274 ?_
                              refine S_iload_n X dX12_marksFrom_277 rfl hL48_1 ?_
                              refine S_iload X dX12_marksFrom_278 rfl ?_
                              refine S_iast X 4 rfl (by omega) (by omega) (nle rfl) dX12_marksFrom_280 ?_
                              refine S_w (ws' := [(h0, ob 11 f), (hA, ar 1206 Ab), (hE, ar 6 E), (hff, ar 31 (uZ Fv fr 0)), (hbf, ar 31 (uZ Bv fr 0)), (hsu, ar 6 Sx)]) rfl ?_
                              refine S_iinc X dX12_marksFrom_281 (nle rfl) hL48_2 ?_
                              refine S_goto (tgt := 32) X dX12_marksFrom_284 (by decide) ?_
                              exact ih32 (b + 1) (uZ Fv fr 0) (uZ Bv fr 0) Sx _ (by omega) (fun j j0 j1 => (by omega : j = fr ∨ fr < j).elim (fun q9 => by rw [q9, uZ_at]; omega) (fun q9 => by rw [uZ_ne (by omega)]; exact hFv j j0 j1)) (uZ_all hBv (by decide)) (fun x h0 h1 => by have := hS1 x h0 (by omega); omega) hL48_0 hL48_1 rfl (by omega)
                            ·
                              refine S_iload X dX12_marksFrom_243 rfl ?_
                              refine S_aload_n X dX12_marksFrom_245 rfl hL48_0 ?_
                              refine S_get X fgX12_80_11 0 rfl hf5 dX12_marksFrom_246 ?_
                              refine S_iload_n X dX12_marksFrom_249 rfl hL48_1 ?_
                              refine S_iald X 3 rfl (by omega) (by omega) (nle rfl) dX12_marksFrom_250 ?_
                              refine S_icmp_ne (tgt := 281) X dX12_marksFrom_251 (by decide) (by decide) (by omega) (fun c_30 => ?_) (fun c_30 => ?_)
                              ·
                                refine S_iinc X dX12_marksFrom_281 (nle rfl) hL48_2 ?_
                                refine S_goto (tgt := 32) X dX12_marksFrom_284 (by decide) ?_
                                exact ih32 (b + 1) Fv Bv Sx _ (by omega) (hFv) (hBv) (fun x h0 h1 => by have := hS1 x h0 (by omega); omega) hL48_0 hL48_1 rfl (by omega)
                              ·
                                refine S_iload X dX12_marksFrom_254 rfl ?_
                                refine S_aload_n X dX12_marksFrom_256 rfl hL48_0 ?_
                                refine S_get X fgX12_83_11 0 rfl hf6 dX12_marksFrom_257 ?_
                                refine S_iload_n X dX12_marksFrom_260 rfl hL48_1 ?_
                                refine S_iald X 4 rfl (by omega) (by omega) (nle rfl) dX12_marksFrom_261 ?_
                                have hzr := zOr_r (Bv (b + 1)) (zShl 1 b)
                                refine S_icmp_ge (tgt := 281) X dX12_marksFrom_262 (by decide) (by decide) (by omega) (fun c_31 => ?_) (fun c_31 => ?_)
                                ·
                                  refine S_iinc X dX12_marksFrom_281 (nle rfl) hL48_2 ?_
                                  refine S_goto (tgt := 32) X dX12_marksFrom_284 (by decide) ?_
                                  exact ih32 (b + 1) Fv Bv Sx _ (by omega) (hFv) (hBv) (fun x h0 h1 => by have := hS1 x h0 (by omega); omega) hL48_0 hL48_1 rfl (by omega)
                                ·
                                  refine S_aload_n X dX12_marksFrom_265 rfl hL48_0 ?_
                                  refine S_get X fgX12_80_11 0 rfl hf5 dX12_marksFrom_266 ?_
                                  refine S_iload_n X dX12_marksFrom_269 rfl hL48_1 ?_
                                  refine S_iload X dX12_marksFrom_270 rfl ?_
                                  refine S_iast X 3 rfl (by omega) (by omega) (nle rfl) dX12_marksFrom_272 ?_
                                  refine S_w (ws' := [(h0, ob 11 f), (hA, ar 1206 Ab), (hE, ar 6 E), (hff, ar 31 (uZ Fv fr 0)), (hbf, ar 31 Bv), (hsu, ar 6 Sx)]) rfl ?_
                                  refine S_aload_n X dX12_marksFrom_273 rfl hL48_0 ?_
                                  refine S_get X fgX12_83_11 0 rfl hf6 dX12_marksFrom_274 ?_
                                  refine S_iload_n X dX12_marksFrom_277 rfl hL48_1 ?_
                                  refine S_iload X dX12_marksFrom_278 rfl ?_
                                  refine S_iast X 4 rfl (by omega) (by omega) (nle rfl) dX12_marksFrom_280 ?_
                                  refine S_w (ws' := [(h0, ob 11 f), (hA, ar 1206 Ab), (hE, ar 6 E), (hff, ar 31 (uZ Fv fr 0)), (hbf, ar 31 (uZ Bv fr 0)), (hsu, ar 6 Sx)]) rfl ?_
                                  refine S_iinc X dX12_marksFrom_281 (nle rfl) hL48_2 ?_
                                  refine S_goto (tgt := 32) X dX12_marksFrom_284 (by decide) ?_
                                  exact ih32 (b + 1) (uZ Fv fr 0) (uZ Bv fr 0) Sx _ (by omega) (fun j j0 j1 => (by omega : j = fr ∨ fr < j).elim (fun q9 => by rw [q9, uZ_at]; omega) (fun q9 => by rw [uZ_ne (by omega)]; exact hFv j j0 j1)) (uZ_all hBv (by decide)) (fun x h0 h1 => by have := hS1 x h0 (by omega); omega) hL48_0 hL48_1 rfl (by omega)
                    ·
                      exact S_vret X (nle rfl) (nle rfl) dX12_marksFrom_145 (hPo _ (⟨_, _, _, rfl, hFv, hBv⟩))
                  ·
                    have hsi := hS2 i (by omega) (by omega)
                    have hA1 := hr.at (z := 6 * b + i) (x := b) (y := i) rfl (by omega) (by omega) (by omega) (by omega)
                    have hA2 := hok.beat b i (by omega) (by omega) (by omega)
                    have hE1 := (hok.2.2.2.2.2.2 i (by omega) (by omega)).2.2.2
                    refine S_aload_n X dX12_marksFrom_57 rfl hL48_0 ?_
                    refine S_get X fgX12_86_11 0 rfl hf7 dX12_marksFrom_58 ?_
                    refine S_iload X dX12_marksFrom_61 hL48_5 ?_
                    refine S_dup2 X dX12_marksFrom_63 ?_
                    refine S_iald X 5 rfl (by omega) (by omega) (nle rfl) dX12_marksFrom_64 ?_
                    refine S_aload_n X dX12_marksFrom_65 rfl hL48_0 ?_
                    refine S_get X fgX12_65_11 0 rfl hf3 dX12_marksFrom_66 ?_
                    refine S_bipush X dX12_marksFrom_69 rfl ?_
                    refine S_iload_n X dX12_marksFrom_71 rfl hL48_2 ?_
                    refine S_imul X dX12_marksFrom_72 ?_
                    refine S_iload X dX12_marksFrom_73 hL48_5 ?_
                    refine S_iadd X dX12_marksFrom_75 ?_
                    refine S_iald X 1 rfl (by omega) (by omega) (nle rfl) dX12_marksFrom_76 ?_
                    refine S_aload_n X dX12_marksFrom_77 rfl hL48_0 ?_
                    refine S_get X fgX12_49_11 0 rfl hf2 dX12_marksFrom_78 ?_
                    refine S_iload X dX12_marksFrom_81 hL48_5 ?_
                    refine S_iald X 2 rfl (by omega) (by omega) (nle rfl) dX12_marksFrom_83 ?_
                    refine S_iadd X dX12_marksFrom_84 ?_
                    refine S_iadd X dX12_marksFrom_85 ?_
                    refine S_iast X 5 rfl (by omega) (by omega) (nle rfl) dX12_marksFrom_86 ?_
                    refine S_w (ws' := [(h0, ob 11 f), (hA, ar 1206 Ab), (hE, ar 6 E), (hff, ar 31 Fv), (hbf, ar 31 Bv), (hsu, ar 6 (uZ Sx i ((Sx i) + ((Ab ((6 * b) + i)) + (E i)))))]) rfl ?_
                    have hu9 : (uZ Sx i ((Sx i) + ((Ab ((6 * b) + i)) + (E i)))) i = Sx i + (Ab (6 * b + i) + E i) := uZ_at
                    refine S_iload X dX12_marksFrom_87 hL48_5 ?_
                    refine S_if_ne (tgt := 102) X dX12_marksFrom_89 (by decide) (by omega) (fun c_32 => ?_) (fun c_32 => ?_)
                    ·
                      refine S_iload_n X dX12_marksFrom_102 rfl hL48_3 ?_
                      refine S_aload_n X dX12_marksFrom_103 rfl hL48_0 ?_
                      refine S_get X fgX12_86_11 0 rfl hf7 dX12_marksFrom_104 ?_
                      refine S_iload X dX12_marksFrom_107 hL48_5 ?_
                      refine S_iald X 5 rfl (by omega) (by omega) (nle rfl) dX12_marksFrom_109 ?_
                      refine S_mmin X lkX12_293 rfl rfl (by omega) (by omega) (nle rfl) (nle rfl) (nle rfl) (nle rfl) dX12_marksFrom_110 ?_
                      refine S_istore_n X dX12_marksFrom_113 rfl (nle rfl) ?_
                      refine S_iload X dX12_marksFrom_114 hL48_4 ?_
                      refine S_aload_n X dX12_marksFrom_116 rfl hL48_0 ?_
                      refine S_get X fgX12_86_11 0 rfl hf7 dX12_marksFrom_117 ?_
                      refine S_iload X dX12_marksFrom_120 hL48_5 ?_
                      refine S_iald X 5 rfl (by omega) (by omega) (nle rfl) dX12_marksFrom_122 ?_
                      refine S_mmax X lkX12_295 rfl rfl (by omega) (by omega) (nle rfl) (nle rfl) (nle rfl) (nle rfl) dX12_marksFrom_123 ?_
                      refine S_istore X dX12_marksFrom_126 (nle rfl) ?_
                      refine S_iinc X dX12_marksFrom_128 (nle rfl) hL48_5 ?_
                      refine S_goto (tgt := 48) X dX12_marksFrom_131 (by decide) ?_
                      exact ih48 (i + 1) (min lo ((uZ Sx i ((Sx i) + ((Ab ((6 * b) + i)) + (E i)))) i)) (max hi9 ((uZ Sx i ((Sx i) + ((Ab ((6 * b) + i)) + (E i)))) i)) (uZ Sx i ((Sx i) + ((Ab ((6 * b) + i)) + (E i)))) _ (by omega) (by omega) (by omega) (fun x h0 h1 => (by omega : x < i ∨ x = i).elim (fun q9 => by rw [uZ_ne (by omega)]; exact hS1 x h0 q9) (fun q9 => by rw [q9, uZ_at]; omega)) (fun x h0 h1 => by rw [uZ_ne (by omega)]; exact hS2 x (by omega) h1) hL48_0 hL48_1 hL48_2 rfl rfl rfl (by omega)
                    ·
                      refine S_aload_n X dX12_marksFrom_92 rfl hL48_0 ?_
                      refine S_get X fgX12_86_11 0 rfl hf7 dX12_marksFrom_93 ?_
                      refine S_iload X dX12_marksFrom_96 hL48_5 ?_
                      refine S_iald X 5 rfl (by omega) (by omega) (nle rfl) dX12_marksFrom_98 ?_
                      refine S_goto (tgt := 113) X dX12_marksFrom_99 (by decide) ?_
                      refine S_istore_n X dX12_marksFrom_113 rfl (nle rfl) ?_
                      refine S_iload X dX12_marksFrom_114 hL48_4 ?_
                      refine S_aload_n X dX12_marksFrom_116 rfl hL48_0 ?_
                      refine S_get X fgX12_86_11 0 rfl hf7 dX12_marksFrom_117 ?_
                      refine S_iload X dX12_marksFrom_120 hL48_5 ?_
                      refine S_iald X 5 rfl (by omega) (by omega) (nle rfl) dX12_marksFrom_122 ?_
                      refine S_mmax X lkX12_295 rfl rfl (by omega) (by omega) (nle rfl) (nle rfl) (nle rfl) (nle rfl) dX12_marksFrom_123 ?_
                      refine S_istore X dX12_marksFrom_126 (nle rfl) ?_
                      refine S_iinc X dX12_marksFrom_128 (nle rfl) hL48_5 ?_
                      refine S_goto (tgt := 48) X dX12_marksFrom_131 (by decide) ?_
                      exact ih48 (i + 1) ((uZ Sx i ((Sx i) + ((Ab ((6 * b) + i)) + (E i)))) i) (max hi9 ((uZ Sx i ((Sx i) + ((Ab ((6 * b) + i)) + (E i)))) i)) (uZ Sx i ((Sx i) + ((Ab ((6 * b) + i)) + (E i)))) _ (by omega) (by omega) (by omega) (fun x h0 h1 => (by omega : x < i ∨ x = i).elim (fun q9 => by rw [uZ_ne (by omega)]; exact hS1 x h0 q9) (fun q9 => by rw [q9, uZ_at]; omega)) (fun x h0 h1 => by rw [uZ_ne (by omega)]; exact hS2 x (by omega) h1) hL48_0 hL48_1 hL48_2 rfl rfl rfl (by omega)
              exact lp48_6 (Int.toNat (pl + 1 - 0) + 1) 0 0 0 Sw _ (by omega) (by omega) (by omega) (fun x h0 h1 => by omega) (fun x h0 h1 => hSw x h0 h1) hL32_0 hL32_1 hL32_2 rfl rfl rfl (by omega)
        exact lp32_3 (Int.toNat (n + 1 - fr) + 1) fr (uZ Ff fr (-1)) Bf Sv _ (by omega) (fun j j0 j1 => (by omega : j = fr ∨ fr < j).elim (fun q9 => by rw [q9, uZ_at]; omega) (fun q9 => by rw [uZ_ne (by omega)]; exact hFr j q9 j1)) (hBr) (fun x h0 h1 => by rw [hz x h0 (by omega)]; omega) hL9_0 hL9_1 rfl (by omega)
      ·
        refine S_aload_n X dX12_marksFrom_17 rfl hL9_0 ?_
        refine S_get X fgX12_86_11 0 rfl hf7 dX12_marksFrom_18 ?_
        refine S_iload_n X dX12_marksFrom_21 rfl hL9_2 ?_
        refine S_iconst X dX12_marksFrom_22 ?_
        refine S_iast X 5 rfl (by omega) (by omega) (nle rfl) dX12_marksFrom_23 ?_
        refine S_w (ws' := [(h0, ob 11 f), (hA, ar 1206 Ab), (hE, ar 6 E), (hff, ar 31 (uZ Ff fr (-1))), (hbf, ar 31 Bf), (hsu, ar 6 (uZ Sv i 0))]) rfl ?_
        refine S_iinc X dX12_marksFrom_24 (nle rfl) hL9_2 ?_
        refine S_goto (tgt := 9) X dX12_marksFrom_27 (by decide) ?_
        exact ih9 (i + 1) (uZ Sv i 0) _ (by omega) (fun x h0 h1 => (by omega : x < i ∨ x = i).elim (fun q9 => by rw [uZ_ne (by omega)]; exact hz x h0 q9) (fun q9 => by rw [q9]; exact uZ_at)) hL9_0 hL9_1 rfl (by omega)
  exact lp9_0 (Int.toNat (pl + 1 - 0) + 1) 0 Su _ (by omega) (fun x h0 h1 => by omega) rfl rfl rfl (by omega)
set_option maxHeartbeats 4000000 in
set_option maxRecDepth 100000 in
theorem kX12_marks (l : Launch) (h0 : Nat) (f : Nat → AV) (pl : Int) (n : Int) (ec : Int) (mk : Int) (hQ : Nat) (hB : Nat) (hE : Nat) (hA : Nat) (hM : Nat) (hW : Nat) (Q : Int → Int) (B : Int → Int) (E : Int → Int) (Ab : Int → Int) (lim : Int) (hff : Nat) (hbf : Nat) (hsu : Nat) (Ff : Int → Int) (Bf : Int → Int) (Su : Int → Int) (v : Int) (hf0 : f 21 = iv pl) (hf1 : f 28 = iv n) (hf2 : f 29 = iv ec) (hf3 : f 26 = iv mk) (hf4 : f 20 = rv hQ) (hf5 : f 23 = rv hB) (hf6 : f 24 = rv hE) (hf7 : f 33 = rv hA) (hf8 : f 34 = rv hM) (hf9 : f 35 = rv hW) (hf10 : f 30 = iv lim) (hf11 : f 40 = rv hff) (hf12 : f 41 = rv hbf) (hf13 : f 42 = rv hsu) (hz : okZ pl n ec (c5 Q 3) (c5 Q 4) B E) (hlim : 0 ≤ lim ∧ lim ≤ 999) (hx_v : inR v) : AMi l yX12_marks cX12_marks 3 .int 3 0 0 [rv h0, iv v] [(h0, ob 11 f), (hQ, ar 30 Q), (hB, ar 6 B), (hE, ar 6 E), (hA, ar 1206 Ab), (hff, ar 31 Ff), (hbf, ar 31 Bf), (hsu, ar 6 Su)] (fun z u => ∃ z9 : Int, ∃ A2 : Int → Int, ∃ F2 : Int → Int, ∃ B2 : Int → Int, ∃ S2 : Int → Int, z = z9 ∧ u = [(h0, ob 11 f), (hQ, ar 30 Q), (hB, ar 6 B), (hE, ar 6 E), (hA, ar 1206 A2), (hff, ar 31 F2), (hbf, ar 31 B2), (hsu, ar 6 S2)]) := by
  refine AMi.of2 rfl (nle rfl) ?_
  intro D G A p e s m args below meth c Po hPo X
  have hz6 := hz.2.1
  have hz0 := hz.1
  refine S_aload_n X dX12_marks_0 rfl rfl ?_
  refine S_get X fgX12_253_11 0 rfl hf0 dX12_marks_1 ?_
  refine S_if_eq (tgt := 16) X dX12_marks_4 (by decide) (by omega) (fun c_1 => ?_) (fun c_1 => ?_)
  ·
    refine S_iconst X dX12_marks_16 ?_
    exact S_iret X (nle rfl) (nle rfl) dX12_marks_17 (hPo _ _ (⟨_, _, _, _, _, rfl, rfl⟩))
  ·
    refine S_iload_n X dX12_marks_7 rfl rfl ?_
    refine S_iconst X dX12_marks_8 ?_
    refine S_iconst X dX12_marks_9 ?_
    refine S_calli X (kX12_in l v 0 1 (by omega) (by omega) (by omega)) (is := []) rfl (run_S X lkX12_216 (is := []) (avs := [iv v, iv 0, iv 1]) (rest := []) rfl rfl (nle rfl) ⟨nle rfl, nle rfl⟩ ⟨nle rfl, nle rfl⟩ dX12_marks_10 (by decide) rfl) (fun z_4 u_2 hp_3 => ?_)
    rcases hp_3 with ⟨hz_5, hu_6, hq_7⟩ | ⟨hz_8, hu_9, hq_10⟩
    ·
      subst hz_5
      subst hu_6
      refine ⟨rfl, ?_⟩
      refine S_w (ws' := [(h0, ob 11 f), (hQ, ar 30 Q), (hB, ar 6 B), (hE, ar 6 E), (hA, ar 1206 Ab), (hff, ar 31 Ff), (hbf, ar 31 Bf), (hsu, ar 6 Su)]) rfl ?_
      refine S_if_ne (tgt := 18) X dX12_marks_13 (by decide) (by decide) (fun h9 => absurd h9 (by decide)) (fun _ => ?_)
      refine S_iconst X dX12_marks_16 ?_
      exact S_iret X (nle rfl) (nle rfl) dX12_marks_17 (hPo _ _ (⟨_, _, _, _, _, rfl, rfl⟩))
    ·
      subst hz_8
      subst hu_9
      refine ⟨rfl, ?_⟩
      refine S_w (ws' := [(h0, ob 11 f), (hQ, ar 30 Q), (hB, ar 6 B), (hE, ar 6 E), (hA, ar 1206 Ab), (hff, ar 31 Ff), (hbf, ar 31 Bf), (hsu, ar 6 Su)]) rfl ?_
      refine S_if_ne (tgt := 18) X dX12_marks_13 (by decide) (by decide) (fun _ => ?_) (fun h9 => absurd h9 (by decide))
      have hok := hz.s (by omega)
      have hpl := hok.2.1
      have hpl1 := hok.1
      have hn1 := hok.2.2.1
      have hn2 := hok.2.2.2.1
      have hec := hok.2.2.2.2
      refine S_aload_n X dX12_marks_18 rfl rfl ?_
      refine S_aload_n X dX12_marks_19 rfl rfl ?_
      refine S_get X fgX12_56_11 0 rfl hf1 dX12_marks_20 ?_
      refine S_callv X (kX12_layBeats l h0 f pl n ec hQ hB hA Q B E Ab n hf0 hf2 hf4 hf5 hf7 (by omega) (by omega)) (is := [0, 1, 2, 4]) rfl (run_V X lkX12_306 0 rfl rfl (is := [0, 1, 2, 4]) (avs := [iv n]) (rest := []) rfl rfl (nle rfl) ⟨nle rfl, nle rfl⟩ ⟨nle rfl, nle rfl⟩ dX12_marks_23 (by decide) rfl) (fun u_13 hp_14 => ?_)
      obtain ⟨A2_16, hu_18, hreg_19⟩ := hp_14
      subst hu_18
      refine ⟨rfl, ?_⟩
      refine S_w (ws' := [(h0, ob 11 f), (hQ, ar 30 Q), (hB, ar 6 B), (hE, ar 6 E), (hA, ar 1206 A2_16), (hff, ar 31 Ff), (hbf, ar 31 Bf), (hsu, ar 6 Su)]) rfl ?_
      have hAL := hreg_19
      refine S_nrm (q := 6) rfl (fun B9 hB9 _ => ?_)
      refine S_w (ws' := [(h0, ob 11 f), (hQ, ar 30 Q), (hB, ar 6 B), (hE, ar 6 E), (hA, ar 1206 A2_16), (hff, ar 31 Ff), (hbf, ar 31 B9), (hsu, ar 6 Su)]) rfl ?_
      refine S_aload_n X dX12_marks_26 rfl rfl ?_
      refine S_get X fgX12_56_11 0 rfl hf1 dX12_marks_27 ?_
      refine S_iconst X dX12_marks_30 ?_
      refine S_isub X dX12_marks_31 ?_
      refine S_istore_n X dX12_marks_32 rfl (nle rfl) ?_
      have lp33_2 : ∀ (N : Nat) (fr : Int) (Fv : Int → Int) (Bv : Int → Int) (Sv : Int → Int) (L : Nat → Option AV), -1 ≤ fr ∧ fr < n → (∀ j, fr < j → j < n → -1 ≤ Fv j ∧ Fv j ≤ n - 1 - j) → (∀ j, inR (Bv j)) → L 0 = some (rv h0) → L 1 = some (iv v) → L 2 = some (iv fr) → fr + 2 < (N : Int) → S_ p l e (rmD 3 0 0) s m args below meth c (MQ below (QcI D G A Po) args s 0 0 A) D G A 3 0 0 33 L [] [(h0, ob 11 f), (hQ, ar 30 Q), (hB, ar 6 B), (hE, ar 6 E), (hA, ar 1206 A2_16), (hff, ar 31 Fv), (hbf, ar 31 Bv), (hsu, ar 6 Sv)] := by
        intro N
        induction N with
        | zero =>
          intro fr Fv Bv Sv L33 hfr hFv hBv hL33_0 hL33_1 hL33_2 hN33
          exfalso; omega
        | succ N ih33 =>
          intro fr Fv Bv Sv L33 hfr hFv hBv hL33_0 hL33_1 hL33_2 hN33
          refine S_iload_n X dX12_marks_33 rfl hL33_2 ?_
          refine S_if_lt (tgt := 48) X dX12_marks_34 (by decide) (by omega) (fun c_20 => ?_) (fun c_20 => ?_)
          ·
            have hf0 := hFv 0 (by omega) (by omega)
            refine S_aload_n X dX12_marks_48 rfl hL33_0 ?_
            refine S_get X fgX12_80_11 0 rfl hf11 dX12_marks_49 ?_
            refine S_iconst X dX12_marks_52 ?_
            refine S_iald X 5 rfl (by omega) (by omega) (nle rfl) dX12_marks_53 ?_
            refine S_iconst X dX12_marks_54 ?_
            refine S_icmp_ne (tgt := 62) X dX12_marks_55 (by decide) (by omega) (by decide) (fun c_21 => ?_) (fun c_21 => ?_)
            ·
              refine S_iload_n X dX12_marks_62 rfl hL33_1 ?_
              refine S_if_ne (tgt := 75) X dX12_marks_63 (by decide) (by omega) (fun c_22 => ?_) (fun c_22 => ?_)
              ·
                refine S_aload_n X dX12_marks_75 rfl hL33_0 ?_
                refine S_get X fgX12_83_11 0 rfl hf12 dX12_marks_76 ?_
                refine S_iconst X dX12_marks_79 ?_
                refine S_iald X 6 rfl (by omega) (by omega) (nle rfl) dX12_marks_80 ?_
                exact S_iret X (nle rfl) (nle rfl) dX12_marks_81 (hPo _ _ (⟨_, _, _, _, _, rfl, rfl⟩))
              ·
                refine S_aload_n X dX12_marks_66 rfl hL33_0 ?_
                refine S_get X fgX12_80_11 0 rfl hf11 dX12_marks_67 ?_
                refine S_iconst X dX12_marks_70 ?_
                refine S_iald X 5 rfl (by omega) (by omega) (nle rfl) dX12_marks_71 ?_
                refine S_goto (tgt := 81) X dX12_marks_72 (by decide) ?_
                exact S_iret X (nle rfl) (nle rfl) dX12_marks_81 (hPo _ _ (⟨_, _, _, _, _, rfl, rfl⟩))
            ·
              refine S_iconst X dX12_marks_58 ?_
              refine S_goto (tgt := 81) X dX12_marks_59 (by decide) ?_
              exact S_iret X (nle rfl) (nle rfl) dX12_marks_81 (hPo _ _ (⟨_, _, _, _, _, rfl, rfl⟩))
          ·
            refine S_aload_n X dX12_marks_37 rfl hL33_0 ?_
            refine S_iload_n X dX12_marks_38 rfl hL33_2 ?_
            refine S_callv X (kX12_marksFrom l h0 f pl n ec hE hA Q B E A2_16 lim hff hbf hsu Fv Bv Sv fr hf0 hf1 hf6 hf7 hf10 hf11 hf12 hf13 (by omega) hAL (by omega) (by omega) hFv hBv) (is := [0, 4, 3, 5, 6, 7]) rfl (run_V X lkX12_346 0 rfl rfl (is := [0, 4, 3, 5, 6, 7]) (avs := [iv fr]) (rest := []) rfl rfl (nle rfl) ⟨nle rfl, nle rfl⟩ ⟨nle rfl, nle rfl⟩ dX12_marks_39 (by decide) rfl) (fun u_23 hp_24 => ?_)
            obtain ⟨F2_26, B2_27, S2_28, hu_30, hF2_31, hB2_32⟩ := hp_24
            subst hu_30
            refine ⟨rfl, ?_⟩
            refine S_w (ws' := [(h0, ob 11 f), (hQ, ar 30 Q), (hB, ar 6 B), (hE, ar 6 E), (hA, ar 1206 A2_16), (hff, ar 31 F2_26), (hbf, ar 31 B2_27), (hsu, ar 6 S2_28)]) rfl ?_
            refine S_iinc X dX12_marks_42 (nle rfl) hL33_2 ?_
            refine S_goto (tgt := 33) X dX12_marks_45 (by decide) ?_
            exact ih33 (fr + (-1)) F2_26 B2_27 S2_28 _ (by omega) (fun j j0 j1 => hF2_31 j (by omega) j1) (hB2_32) hL33_0 hL33_1 rfl (by omega)
      exact lp33_2 (Int.toNat ((n - 1) + 2) + 1) (n - 1) Ff B9 Su _ (by omega) (fun j j0 j1 => by omega) (hB9) rfl rfl rfl (by omega)
end pt_50rmarks
/- 51.rtext.lean.txt -/
section pt_51rtext

set_option maxHeartbeats 4000000 in
set_option maxRecDepth 100000 in
theorem kX12_text (l : Launch) (h0 : Nat) (hT : Nat) (f : Nat → AV) (T : Int → Int) (n : Int) (hC : Nat) (hV : Nat) (hN : Nat) (C : Int → Int) (V : Int → Int) (Nk : Int → Int) (hL : Nat) (hTf : Nat) (hSf : Nat) (hEf : Nat) (Lk : Int → Int) (Tf : Int → Int) (Sf : Int → Int) (Ef : Int → Int) (t0 : Int) (a : Int) (w : Int) (dp : Int) (lw : Int) (pl : Int) (mt : Int) (dy : Int) (ac : Int) (mk : Int) (rl : Int) (hi9 : Int) (m0 : Int) (p0 : Int) (hR : Nat) (R1 : Int → Int) (hQ : Nat) (hB : Nat) (hE : Nat) (Q : Int → Int) (B : Int → Int) (E : Int → Int) (R0 : Int → Int → Int) (so : Int) (hf0 : f 1 = rv hT) (hf1 : f 6 = rv hC) (hf2 : f 7 = rv hV) (hf3 : f 8 = rv hN) (hf4 : f 9 = rv hL) (hf5 : f 10 = rv hTf) (hf6 : f 11 = rv hSf) (hf7 : f 12 = rv hEf) (hf8 : f 17 = rv hR) (hf9 : f 20 = rv hQ) (hf10 : f 23 = rv hB) (hf11 : f 24 = rv hE) (okT : okT T n) (hso : inR so) (hlw : 0 ≤ lw ∧ lw ≤ 4) : AMi l yX12_text cX12_text 2 .int 41 0 0 [rv h0, iv so] [(h0, ob 11 (uF (uF (uF (uF (uF (uF (uF (uF (uF (uF (uF (uF (uF (uF (uF f 2 (iv n)) 13 (iv lw)) 21 (iv pl)) 22 (iv mt)) 25 (iv dy)) 32 (iv ac)) 26 (iv mk)) 46 (iv rl)) 49 (iv hi9)) 19 (iv m0)) 18 (iv p0)) 14 (iv t0)) 3 (iv a)) 4 (iv w)) 5 (iv dp))), (hT, ar 160 T), (hR, ar 30 R1), (hC, ar 1700 C), (hV, ar 1700 V), (hN, ar 5 Nk), (hL, ar 5 Lk), (hTf, ar 450 Tf), (hSf, ar 450 Sf), (hEf, ar 450 Ef), (hQ, ar 30 Q), (hB, ar 6 B), (hE, ar 6 E)] (fun z u => (∃ a2 : Int, ∃ fl : Int, ∃ p2 : Int, ∃ m2 : Int, ∃ R2 : Int → Int, z = -1 ∧ u = [(h0, ob 11 (uF (uF (uF (uF (uF (uF (uF (uF (uF (uF (uF (uF (uF (uF (uF f 2 (iv n)) 13 (iv lw)) 21 (iv pl)) 22 (iv mt)) 25 (iv dy)) 32 (iv ac)) 26 (iv mk)) 46 (iv rl)) 49 (iv hi9)) 19 (iv m2)) 18 (iv p2)) 14 (iv t0)) 3 (iv a2)) 4 (iv fl)) 5 (iv dp))), (hT, ar 160 T), (hR, ar 30 R2), (hC, ar 1700 C), (hV, ar 1700 V), (hN, ar 5 Nk), (hL, ar 5 Lk), (hTf, ar 450 Tf), (hSf, ar 450 Sf), (hEf, ar 450 Ef), (hQ, ar 30 Q), (hB, ar 6 B), (hE, ar 6 E)] ∧ so = 0 ∧ tnRes T n R0 = .inl fl ∧ (0 ≤ fl ∧ fl ≤ n)) ∨ (∃ a2 : Int, ∃ p2 : Int, ∃ m2 : Int, ∃ x2 : Int, ∃ R2 : Int → Int, ∃ Rc : Int → Int → Int, ∃ Q2 : Int → Int, ∃ B2 : Int → Int, ∃ E2 : Int → Int, z = p2 ∧ u = [(h0, ob 11 (uF (uF (uF (uF (uF (uF (uF (uF (uF (uF (uF (uF (uF (uF (uF f 2 (iv 0)) 13 (iv lw)) 21 (iv p2)) 22 (iv m2)) 25 (iv 0)) 32 (iv 0)) 26 (iv 0)) 46 (iv 0)) 49 (iv 0)) 19 (iv m2)) 18 (iv p2)) 14 (iv t0)) 3 (iv a2)) 4 (iv (-1))) 5 (iv dp))), (hT, ar 160 T), (hR, ar 30 R2), (hC, ar 1700 C), (hV, ar 1700 V), (hN, ar 5 Nk), (hL, ar 5 Lk), (hTf, ar 450 Tf), (hSf, ar 450 Sf), (hEf, ar 450 Ef), (hQ, ar 30 Q2), (hB, ar 6 B2), (hE, ar 6 E2)] ∧ so = 0 ∧ tnRes T n R0 = .inr (p2, m2, x2, Rc) ∧ flat p2 R2 Rc ∧ okTS (p2, m2, x2, Rc) ∧ (∀ x, 0 ≤ x → x < 30 → Q2 x = R2 x) ∧ (∀ x, 0 ≤ x → x < 6 → B2 x = R2 (5 * x)) ∧ (∀ x, 0 ≤ x → x < 6 → E2 x = 0)) ∨ (∃ a2 : Int, ∃ fl : Int, ∃ k2 : Int, ∃ dp2 : Int, ∃ j2 : Int, ∃ w2 : Int, ∃ t2 : Int, ∃ C2 : Int → Int, ∃ V2 : Int → Int, ∃ Tf2 : Int → Int, ∃ Sf2 : Int → Int, ∃ Ef2 : Int → Int, z = -1 ∧ u = [(h0, ob 11 (uF (uF (uF (uF (uF (uF (uF (uF (uF (uF (uF (uF (uF (uF (uF f 2 (iv n)) 13 (iv lw)) 21 (iv pl)) 22 (iv mt)) 25 (iv dy)) 32 (iv ac)) 26 (iv mk)) 46 (iv rl)) 49 (iv hi9)) 19 (iv m0)) 18 (iv p0)) 14 (iv t2)) 3 (iv a2)) 4 (iv w2)) 5 (iv dp2))), (hT, ar 160 T), (hR, ar 30 R1), (hC, ar 1700 C2), (hV, ar 1700 V2), (hN, ar 5 (uZ Nk lw k2)), (hL, ar 5 (uZ Lk lw j2)), (hTf, ar 450 Tf2), (hSf, ar 450 Sf2), (hEf, ar 450 Ef2), (hQ, ar 30 Q), (hB, ar 6 B), (hE, ar 6 E)] ∧ (so = 1 ∧ lw < 4) ∧ pLawLS T n 161 0 [] = .inl fl ∧ (0 ≤ fl ∧ fl ≤ n) ∧ frm lw C C2 ∧ frm lw V V2 ∧ frp lw Tf Tf2 ∧ frp lw Sf Sf2 ∧ frp lw Ef Ef2) ∨ (∃ a2 : Int, ∃ cs : List (List Int × List Int), z = lw ∧ u = [(h0, ob 11 (uF (uF (uF (uF (uF (uF (uF (uF (uF (uF (uF (uF (uF (uF (uF f 2 (iv 0)) 13 (iv (lw + 1))) 21 (iv pl)) 22 (iv mt)) 25 (iv dy)) 32 (iv ac)) 26 (iv mk)) 46 (iv rl)) 49 (iv hi9)) 19 (iv m0)) 18 (iv p0)) 14 (iv lw)) 3 (iv a2)) 4 (iv (-1))) 5 (iv 0))), (hT, ar 160 T), (hR, ar 30 R1), (hC, ar 1700 (wrL C (340 * lw + 0) (List.map kC (codesOf cs)))), (hV, ar 1700 (wrL V (340 * lw + 0) (List.map kV (codesOf cs)))), (hN, ar 5 (uZ Nk lw (0 + ((codesOf cs).length : Int)))), (hL, ar 5 (uZ Lk lw (0 + ((cs).length : Int)))), (hTf, ar 450 (wrL Tf (90 * lw + 0) (tfOf 0 cs))), (hSf, ar 450 (wrL Sf (90 * lw + 0) (sfOf 0 cs))), (hEf, ar 450 (wrL Ef (90 * lw + 0) (stOf 0 cs))), (hQ, ar 30 Q), (hB, ar 6 B), (hE, ar 6 E)] ∧ (so = 1 ∧ lw < 4) ∧ pLawLS T n 161 0 [] = .inr cs ∧ (((codesOf cs).length : Int) ≤ 160 ∧ 2 * (cs.length : Int) ≤ 160)) ∨ (z = -1 ∧ u = [(h0, ob 11 (uF (uF (uF (uF (uF (uF (uF (uF (uF (uF (uF (uF (uF (uF (uF f 2 (iv n)) 13 (iv lw)) 21 (iv pl)) 22 (iv mt)) 25 (iv dy)) 32 (iv ac)) 26 (iv mk)) 46 (iv rl)) 49 (iv hi9)) 19 (iv m0)) 18 (iv p0)) 14 (iv t0)) 3 (iv a)) 4 (iv w)) 5 (iv dp))), (hT, ar 160 T), (hR, ar 30 R1), (hC, ar 1700 C), (hV, ar 1700 V), (hN, ar 5 Nk), (hL, ar 5 Lk), (hTf, ar 450 Tf), (hSf, ar 450 Sf), (hEf, ar 450 Ef), (hQ, ar 30 Q), (hB, ar 6 B), (hE, ar 6 E)] ∧ ((¬ so = 0 ∧ ¬ so = 1) ∨ (so = 1 ∧ lw = 4)))) := by
  refine AMi.of2 rfl (nle rfl) ?_
  intro D G A p e s m args below meth c Po hPo X
  refine S_iload_n X dX12_text_0 rfl rfl ?_
  refine S_if_ne (tgt := 22) X dX12_text_1 (by decide) (by omega) (fun c_1 => ?_) (fun c_1 => ?_)
  ·
    refine S_iload_n X dX12_text_22 rfl rfl ?_
    refine S_iconst X dX12_text_23 ?_
    refine S_icmp_ne (tgt := 69) X dX12_text_24 (by decide) (by omega) (by decide) (fun c_2 => ?_) (fun c_2 => ?_)
    ·
      refine S_iconst X dX12_text_69 ?_
      exact S_iret X (nle rfl) (nle rfl) dX12_text_70 (hPo _ _ (Or.inr (Or.inr (Or.inr (Or.inr ⟨rfl, rfl, by omega⟩)))))
    ·
      refine S_aload_n X dX12_text_27 rfl rfl ?_
      refine S_get (v := iv lw) X fgX12_278_11 0 rfl rfl dX12_text_28 ?_
      refine S_iconst X dX12_text_31 ?_
      refine S_icmp_ge (tgt := 69) X dX12_text_32 (by decide) (by omega) (by decide) (fun c_3 => ?_) (fun c_3 => ?_)
      ·
        refine S_iconst X dX12_text_69 ?_
        exact S_iret X (nle rfl) (nle rfl) dX12_text_70 (hPo _ _ (Or.inr (Or.inr (Or.inr (Or.inr ⟨rfl, rfl, by omega⟩)))))
      ·
        refine S_aload_n X dX12_text_35 rfl rfl ?_
        refine S_aload_n X dX12_text_36 rfl rfl ?_
        refine S_get (v := iv lw) X fgX12_278_11 0 rfl rfl dX12_text_37 ?_
        refine S_calli X (kX12_readLaw l h0 hT (uF (uF (uF (uF (uF (uF (uF (uF (uF (uF (uF f 2 (iv n)) 13 (iv lw)) 21 (iv pl)) 22 (iv mt)) 25 (iv dy)) 32 (iv ac)) 26 (iv mk)) 46 (iv rl)) 49 (iv hi9)) 19 (iv m0)) 18 (iv p0)) T n hC hV hN C V Nk lw hL hTf hSf hEf Lk Tf Sf Ef t0 a w dp hf0 rfl hf1 hf2 hf3 hf4 hf5 hf6 hf7 (by omega) (by omega)) (is := [0, 1, 3, 4, 5, 6, 7, 8, 9]) rfl (run_V X lkX12_250 0 rfl rfl (is := [0, 1, 3, 4, 5, 6, 7, 8, 9]) (avs := [iv lw]) (rest := []) rfl rfl (nle rfl) ⟨nle rfl, nle rfl⟩ ⟨nle rfl, nle rfl⟩ dX12_text_40 (by decide) rfl) (fun z_6 u_4 hp_5 => ?_)
        rcases hp_5 with ⟨a2_7, fl_8, k2_9, dp2_10, j2_11, w2_12, C2_13, V2_14, Tf2_15, Sf2_16, Ef2_17, hz_18, hu_19, hq_20, hfl_21, hfC_22, hfV_23, hfT_24, hfS_25, hfE_26⟩ | ⟨a2_27, cs_28, hz_29, hu_30, hq_31, hl_32⟩
        ·
          subst hz_18
          subst hu_19
          refine ⟨rfl, ?_⟩
          refine S_w (ws' := [(h0, ob 11 (uF (uF (uF (uF (uF (uF (uF (uF (uF (uF (uF (uF (uF (uF (uF f 2 (iv n)) 13 (iv lw)) 21 (iv pl)) 22 (iv mt)) 25 (iv dy)) 32 (iv ac)) 26 (iv mk)) 46 (iv rl)) 49 (iv hi9)) 19 (iv m0)) 18 (iv p0)) 14 (iv lw)) 3 (iv a2_7)) 4 (iv w2_12)) 5 (iv dp2_10))), (hT, ar 160 T), (hR, ar 30 R1), (hC, ar 1700 C2_13), (hV, ar 1700 V2_14), (hN, ar 5 (uZ Nk lw k2_9)), (hL, ar 5 (uZ Lk lw j2_11)), (hTf, ar 450 Tf2_15), (hSf, ar 450 Sf2_16), (hEf, ar 450 Ef2_17), (hQ, ar 30 Q), (hB, ar 6 B), (hE, ar 6 E)]) rfl ?_
          refine S_iconst X dX12_text_43 ?_
          refine S_icmp_ne (tgt := 69) X dX12_text_44 (by decide) (by omega) (by decide) (fun c_33 => ?_) (fun c_33 => by exfalso; omega)
          refine S_iconst X dX12_text_69 ?_
          exact S_iret X (nle rfl) (nle rfl) dX12_text_70 (hPo _ _ (Or.inr (Or.inr (Or.inl ⟨_, _, _, _, _, _, _, _, _, _, _, _, rfl, rfl, by omega, hq_20, hfl_21, hfC_22, hfV_23, hfT_24, hfS_25, hfE_26⟩))))
        ·
          subst hz_29
          subst hu_30
          refine ⟨rfl, ?_⟩
          refine S_w (ws' := [(h0, ob 11 (uF (uF (uF (uF (uF (uF (uF (uF (uF (uF (uF (uF (uF (uF (uF f 2 (iv n)) 13 (iv lw)) 21 (iv pl)) 22 (iv mt)) 25 (iv dy)) 32 (iv ac)) 26 (iv mk)) 46 (iv rl)) 49 (iv hi9)) 19 (iv m0)) 18 (iv p0)) 14 (iv lw)) 3 (iv a2_27)) 4 (iv (-1))) 5 (iv 0))), (hT, ar 160 T), (hR, ar 30 R1), (hC, ar 1700 (wrL C (340 * lw + 0) (List.map kC (codesOf cs_28)))), (hV, ar 1700 (wrL V (340 * lw + 0) (List.map kV (codesOf cs_28)))), (hN, ar 5 (uZ Nk lw (0 + ((codesOf cs_28).length : Int)))), (hL, ar 5 (uZ Lk lw (0 + ((cs_28).length : Int)))), (hTf, ar 450 (wrL Tf (90 * lw + 0) (tfOf 0 cs_28))), (hSf, ar 450 (wrL Sf (90 * lw + 0) (sfOf 0 cs_28))), (hEf, ar 450 (wrL Ef (90 * lw + 0) (stOf 0 cs_28))), (hQ, ar 30 Q), (hB, ar 6 B), (hE, ar 6 E)]) rfl ?_
          refine S_iconst X dX12_text_43 ?_
          refine S_icmp_ne (tgt := 69) X dX12_text_44 (by decide) (by decide) (by decide) (fun h9 => absurd h9 (by decide)) (fun _ => ?_)
          refine S_aload_n X dX12_text_47 rfl rfl ?_
          refine S_iconst X dX12_text_48 ?_
          refine S_put X fpX12_108_11 0 rfl FT_i dX12_text_49 ?_
          refine S_w (ws' := [(h0, ob 11 (uF (uF (uF (uF (uF (uF (uF (uF (uF (uF (uF (uF (uF (uF (uF f 2 (iv 0)) 13 (iv lw)) 21 (iv pl)) 22 (iv mt)) 25 (iv dy)) 32 (iv ac)) 26 (iv mk)) 46 (iv rl)) 49 (iv hi9)) 19 (iv m0)) 18 (iv p0)) 14 (iv lw)) 3 (iv a2_27)) 4 (iv (-1))) 5 (iv 0))), (hT, ar 160 T), (hR, ar 30 R1), (hC, ar 1700 (wrL C (340 * lw + 0) (List.map kC (codesOf cs_28)))), (hV, ar 1700 (wrL V (340 * lw + 0) (List.map kV (codesOf cs_28)))), (hN, ar 5 (uZ Nk lw (0 + ((codesOf cs_28).length : Int)))), (hL, ar 5 (uZ Lk lw (0 + ((cs_28).length : Int)))), (hTf, ar 450 (wrL Tf (90 * lw + 0) (tfOf 0 cs_28))), (hSf, ar 450 (wrL Sf (90 * lw + 0) (sfOf 0 cs_28))), (hEf, ar 450 (wrL Ef (90 * lw + 0) (stOf 0 cs_28))), (hQ, ar 30 Q), (hB, ar 6 B), (hE, ar 6 E)]) (by simp only [List.set]; rw [uF_mv (j := 5) (k := 2) (by decide), uF_mv (j := 4) (k := 2) (by decide), uF_mv (j := 3) (k := 2) (by decide), uF_mv (j := 14) (k := 2) (by decide), uF_mv (j := 18) (k := 2) (by decide), uF_mv (j := 19) (k := 2) (by decide), uF_mv (j := 49) (k := 2) (by decide), uF_mv (j := 46) (k := 2) (by decide), uF_mv (j := 26) (k := 2) (by decide), uF_mv (j := 32) (k := 2) (by decide), uF_mv (j := 25) (k := 2) (by decide), uF_mv (j := 22) (k := 2) (by decide), uF_mv (j := 21) (k := 2) (by decide), uF_mv (j := 13) (k := 2) (by decide), uF_same (k := 2)]) ?_
          refine S_aload_n X dX12_text_52 rfl rfl ?_
          refine S_dup X dX12_text_53 ?_
          refine S_get (v := iv lw) X fgX12_278_11 0 rfl rfl dX12_text_54 ?_
          refine S_iconst X dX12_text_57 ?_
          refine S_iadd X dX12_text_58 ?_
          refine S_put X fpX12_278_11 0 rfl FT_i dX12_text_59 ?_
          refine S_w (ws' := [(h0, ob 11 (uF (uF (uF (uF (uF (uF (uF (uF (uF (uF (uF (uF (uF (uF (uF f 2 (iv 0)) 13 (iv (lw + 1))) 21 (iv pl)) 22 (iv mt)) 25 (iv dy)) 32 (iv ac)) 26 (iv mk)) 46 (iv rl)) 49 (iv hi9)) 19 (iv m0)) 18 (iv p0)) 14 (iv lw)) 3 (iv a2_27)) 4 (iv (-1))) 5 (iv 0))), (hT, ar 160 T), (hR, ar 30 R1), (hC, ar 1700 (wrL C (340 * lw + 0) (List.map kC (codesOf cs_28)))), (hV, ar 1700 (wrL V (340 * lw + 0) (List.map kV (codesOf cs_28)))), (hN, ar 5 (uZ Nk lw (0 + ((codesOf cs_28).length : Int)))), (hL, ar 5 (uZ Lk lw (0 + ((cs_28).length : Int)))), (hTf, ar 450 (wrL Tf (90 * lw + 0) (tfOf 0 cs_28))), (hSf, ar 450 (wrL Sf (90 * lw + 0) (sfOf 0 cs_28))), (hEf, ar 450 (wrL Ef (90 * lw + 0) (stOf 0 cs_28))), (hQ, ar 30 Q), (hB, ar 6 B), (hE, ar 6 E)]) (by simp only [List.set]; rw [uF_mv (j := 5) (k := 13) (by decide), uF_mv (j := 4) (k := 13) (by decide), uF_mv (j := 3) (k := 13) (by decide), uF_mv (j := 14) (k := 13) (by decide), uF_mv (j := 18) (k := 13) (by decide), uF_mv (j := 19) (k := 13) (by decide), uF_mv (j := 49) (k := 13) (by decide), uF_mv (j := 46) (k := 13) (by decide), uF_mv (j := 26) (k := 13) (by decide), uF_mv (j := 32) (k := 13) (by decide), uF_mv (j := 25) (k := 13) (by decide), uF_mv (j := 22) (k := 13) (by decide), uF_mv (j := 21) (k := 13) (by decide), uF_same (k := 13)]) ?_
          refine S_aload_n X dX12_text_62 rfl rfl ?_
          refine S_get (v := iv (lw + 1)) X fgX12_278_11 0 rfl rfl dX12_text_63 ?_
          refine S_iconst X dX12_text_66 ?_
          refine S_isub X dX12_text_67 ?_
          exact S_iret X (nle rfl) (nle rfl) dX12_text_68 (hPo _ _ (Or.inr (Or.inr (Or.inr (Or.inl ⟨_, _, by omega, rfl, by omega, hq_31, hl_32⟩)))))
  ·
    refine S_aload_n X dX12_text_4 rfl rfl ?_
    refine S_calli X (kX12_readTown l h0 hT (uF (uF (uF (uF (uF (uF (uF (uF (uF f 2 (iv n)) 13 (iv lw)) 21 (iv pl)) 22 (iv mt)) 25 (iv dy)) 32 (iv ac)) 26 (iv mk)) 46 (iv rl)) 49 (iv hi9)) T n a w dp t0 m0 p0 hR R1 R0 hf0 rfl hf8 (by omega)) (is := [0, 1, 2]) rfl (run_V X lkX12_247 0 rfl rfl (is := [0, 1, 2]) (avs := []) (rest := []) rfl rfl (nle rfl) ⟨nle rfl, nle rfl⟩ ⟨nle rfl, nle rfl⟩ dX12_text_5 (by decide) rfl) (fun z_37 u_35 hp_36 => ?_)
    rcases hp_36 with ⟨a2_38, fl_39, p2_40, m2_41, R2_42, hz_43, hu_44, hq_45, hr_46⟩ | ⟨a2_47, p2_48, m2_49, x2_50, R2_51, Rc_52, hz_53, hu_54, hq_55, hfl_56, hs_57⟩
    ·
      subst hz_43
      subst hu_44
      refine ⟨rfl, ?_⟩
      refine S_w (ws' := [(h0, ob 11 (uF (uF (uF (uF (uF (uF (uF (uF (uF (uF (uF (uF (uF (uF (uF f 2 (iv n)) 13 (iv lw)) 21 (iv pl)) 22 (iv mt)) 25 (iv dy)) 32 (iv ac)) 26 (iv mk)) 46 (iv rl)) 49 (iv hi9)) 19 (iv m2_41)) 18 (iv p2_40)) 14 (iv t0)) 3 (iv a2_38)) 4 (iv z_37)) 5 (iv dp))), (hT, ar 160 T), (hR, ar 30 R2_42), (hC, ar 1700 C), (hV, ar 1700 V), (hN, ar 5 Nk), (hL, ar 5 Lk), (hTf, ar 450 Tf), (hSf, ar 450 Sf), (hEf, ar 450 Ef), (hQ, ar 30 Q), (hB, ar 6 B), (hE, ar 6 E)]) rfl ?_
      refine S_iconst X dX12_text_8 ?_
      refine S_icmp_ne (tgt := 22) X dX12_text_9 (by decide) (by omega) (by decide) (fun c_58 => ?_) (fun c_58 => by exfalso; omega)
      refine S_iload_n X dX12_text_22 rfl rfl ?_
      refine S_iconst X dX12_text_23 ?_
      refine S_icmp_ne (tgt := 69) X dX12_text_24 (by decide) (by omega) (by decide) (fun c_59 => ?_) (fun c_59 => by exfalso; omega)
      refine S_iconst X dX12_text_69 ?_
      exact S_iret X (nle rfl) (nle rfl) dX12_text_70 (hPo _ _ (Or.inl ⟨_, _, _, _, _, rfl, rfl, by omega, hq_45, hr_46⟩))
    ·
      subst hz_53
      subst hu_54
      refine ⟨rfl, ?_⟩
      refine S_w (ws' := [(h0, ob 11 (uF (uF (uF (uF (uF (uF (uF (uF (uF (uF (uF (uF (uF (uF (uF f 2 (iv n)) 13 (iv lw)) 21 (iv pl)) 22 (iv mt)) 25 (iv dy)) 32 (iv ac)) 26 (iv mk)) 46 (iv rl)) 49 (iv hi9)) 19 (iv m2_49)) 18 (iv p2_48)) 14 (iv t0)) 3 (iv a2_47)) 4 (iv (-1))) 5 (iv dp))), (hT, ar 160 T), (hR, ar 30 R2_51), (hC, ar 1700 C), (hV, ar 1700 V), (hN, ar 5 Nk), (hL, ar 5 Lk), (hTf, ar 450 Tf), (hSf, ar 450 Sf), (hEf, ar 450 Ef), (hQ, ar 30 Q), (hB, ar 6 B), (hE, ar 6 E)]) rfl ?_
      refine S_iconst X dX12_text_8 ?_
      refine S_icmp_ne (tgt := 22) X dX12_text_9 (by decide) (by decide) (by decide) (fun h9 => absurd h9 (by decide)) (fun _ => ?_)
      refine S_aload_n X dX12_text_12 rfl rfl ?_
      refine S_iconst X dX12_text_13 ?_
      refine S_put X fpX12_108_11 0 rfl FT_i dX12_text_14 ?_
      refine S_w (ws' := [(h0, ob 11 (uF (uF (uF (uF (uF (uF (uF (uF (uF (uF (uF (uF (uF (uF (uF f 2 (iv 0)) 13 (iv lw)) 21 (iv pl)) 22 (iv mt)) 25 (iv dy)) 32 (iv ac)) 26 (iv mk)) 46 (iv rl)) 49 (iv hi9)) 19 (iv m2_49)) 18 (iv p2_48)) 14 (iv t0)) 3 (iv a2_47)) 4 (iv (-1))) 5 (iv dp))), (hT, ar 160 T), (hR, ar 30 R2_51), (hC, ar 1700 C), (hV, ar 1700 V), (hN, ar 5 Nk), (hL, ar 5 Lk), (hTf, ar 450 Tf), (hSf, ar 450 Sf), (hEf, ar 450 Ef), (hQ, ar 30 Q), (hB, ar 6 B), (hE, ar 6 E)]) (by simp only [List.set]; rw [uF_mv (j := 5) (k := 2) (by decide), uF_mv (j := 4) (k := 2) (by decide), uF_mv (j := 3) (k := 2) (by decide), uF_mv (j := 14) (k := 2) (by decide), uF_mv (j := 18) (k := 2) (by decide), uF_mv (j := 19) (k := 2) (by decide), uF_mv (j := 49) (k := 2) (by decide), uF_mv (j := 46) (k := 2) (by decide), uF_mv (j := 26) (k := 2) (by decide), uF_mv (j := 32) (k := 2) (by decide), uF_mv (j := 25) (k := 2) (by decide), uF_mv (j := 22) (k := 2) (by decide), uF_mv (j := 21) (k := 2) (by decide), uF_mv (j := 13) (k := 2) (by decide), uF_same (k := 2)]) ?_
      refine S_aload_n X dX12_text_17 rfl rfl ?_
      have hre_61 : (uF (uF (uF (uF (uF (uF (uF (uF (uF (uF (uF (uF (uF (uF (uF f 2 (iv 0)) 13 (iv lw)) 21 (iv pl)) 22 (iv mt)) 25 (iv dy)) 32 (iv ac)) 26 (iv mk)) 46 (iv rl)) 49 (iv hi9)) 19 (iv m2_49)) 18 (iv p2_48)) 14 (iv t0)) 3 (iv a2_47)) 4 (iv (-1))) 5 (iv dp)) = (uF (uF (uF (uF (uF (uF (uF (uF (uF (uF (uF (uF (uF (uF (uF f 2 (iv 0)) 13 (iv lw)) 14 (iv t0)) 3 (iv a2_47)) 4 (iv (-1))) 5 (iv dp)) 21 (iv pl)) 22 (iv mt)) 25 (iv dy)) 32 (iv ac)) 26 (iv mk)) 46 (iv rl)) 49 (iv hi9)) 19 (iv m2_49)) 18 (iv p2_48)) := (show ∀ g9 : Nat → AV, (uF (uF (uF (uF (uF (uF (uF (uF (uF (uF (uF (uF (uF (uF (uF f 2 (iv 0)) 13 (iv lw)) 14 (iv t0)) 3 (iv a2_47)) 4 (iv (-1))) 5 (iv dp)) 21 (iv pl)) 22 (iv mt)) 25 (iv dy)) 32 (iv ac)) 26 (iv mk)) 46 (iv rl)) 49 (iv hi9)) 19 (iv m2_49)) 18 (iv p2_48)) = g9 → (uF (uF (uF (uF (uF (uF (uF (uF (uF (uF (uF (uF (uF (uF (uF f 2 (iv 0)) 13 (iv lw)) 21 (iv pl)) 22 (iv mt)) 25 (iv dy)) 32 (iv ac)) 26 (iv mk)) 46 (iv rl)) 49 (iv hi9)) 19 (iv m2_49)) 18 (iv p2_48)) 14 (iv t0)) 3 (iv a2_47)) 4 (iv (-1))) 5 (iv dp)) = g9 from fun g9 hg => by rw [uF_mv (j := 18) (k := 14) (by decide), uF_mv (j := 18) (k := 3) (by decide), uF_mv (j := 18) (k := 4) (by decide), uF_mv (j := 18) (k := 5) (by decide), uF_mv (j := 19) (k := 14) (by decide), uF_mv (j := 19) (k := 3) (by decide), uF_mv (j := 19) (k := 4) (by decide), uF_mv (j := 19) (k := 5) (by decide), uF_mv (j := 49) (k := 14) (by decide), uF_mv (j := 49) (k := 3) (by decide), uF_mv (j := 49) (k := 4) (by decide), uF_mv (j := 49) (k := 5) (by decide), uF_mv (j := 46) (k := 14) (by decide), uF_mv (j := 46) (k := 3) (by decide), uF_mv (j := 46) (k := 4) (by decide), uF_mv (j := 46) (k := 5) (by decide), uF_mv (j := 26) (k := 14) (by decide), uF_mv (j := 26) (k := 3) (by decide), uF_mv (j := 26) (k := 4) (by decide), uF_mv (j := 26) (k := 5) (by decide), uF_mv (j := 32) (k := 14) (by decide), uF_mv (j := 32) (k := 3) (by decide), uF_mv (j := 32) (k := 4) (by decide), uF_mv (j := 32) (k := 5) (by decide), uF_mv (j := 25) (k := 14) (by decide), uF_mv (j := 25) (k := 3) (by decide), uF_mv (j := 25) (k := 4) (by decide), uF_mv (j := 25) (k := 5) (by decide), uF_mv (j := 22) (k := 14) (by decide), uF_mv (j := 22) (k := 3) (by decide), uF_mv (j := 22) (k := 4) (by decide), uF_mv (j := 22) (k := 5) (by decide), uF_mv (j := 21) (k := 14) (by decide), uF_mv (j := 21) (k := 3) (by decide), uF_mv (j := 21) (k := 4) (by decide), uF_mv (j := 21) (k := 5) (by decide)]; exact hg) _ rfl
      refine S_w (ws' := [(h0, ob 11 (uF (uF (uF (uF (uF (uF (uF (uF (uF (uF (uF (uF (uF (uF (uF f 2 (iv 0)) 13 (iv lw)) 14 (iv t0)) 3 (iv a2_47)) 4 (iv (-1))) 5 (iv dp)) 21 (iv pl)) 22 (iv mt)) 25 (iv dy)) 32 (iv ac)) 26 (iv mk)) 46 (iv rl)) 49 (iv hi9)) 19 (iv m2_49)) 18 (iv p2_48))), (hT, ar 160 T), (hR, ar 30 R2_51), (hC, ar 1700 C), (hV, ar 1700 V), (hN, ar 5 Nk), (hL, ar 5 Lk), (hTf, ar 450 Tf), (hSf, ar 450 Sf), (hEf, ar 450 Ef), (hQ, ar 30 Q), (hB, ar 6 B), (hE, ar 6 E)]) (by rw [hre_61]) ?_
      refine S_calli X (kX12_takeTown l h0 (uF (uF (uF (uF (uF (uF f 2 (iv 0)) 13 (iv lw)) 14 (iv t0)) 3 (iv a2_47)) 4 (iv (-1))) 5 (iv dp)) p2_48 m2_49 pl mt dy ac mk rl hi9 hQ hR hB hE Q R2_51 B E hf9 hf8 hf10 hf11) (is := [0, 10, 2, 11, 12]) rfl (run_V X lkX12_275 0 rfl rfl (is := [0, 10, 2, 11, 12]) (avs := []) (rest := []) rfl rfl (nle rfl) ⟨nle rfl, nle rfl⟩ ⟨nle rfl, nle rfl⟩ dX12_text_18 (by decide) rfl) (fun z_64 u_62 hp_63 => ?_)
      obtain ⟨Q2_65, B2_66, E2_67, hz_68, hu_69, hQ2_70, hB2_71, hE2_72⟩ := hp_63
      replace hz_68 := Eq.symm hz_68
      subst hz_68
      subst hu_69
      refine ⟨rfl, ?_⟩
      refine S_w (ws' := [(h0, ob 11 (uF (uF (uF (uF (uF (uF (uF (uF (uF (uF (uF (uF (uF (uF (uF f 2 (iv 0)) 13 (iv lw)) 14 (iv t0)) 3 (iv a2_47)) 4 (iv (-1))) 5 (iv dp)) 21 (iv p2_48)) 22 (iv m2_49)) 25 (iv 0)) 32 (iv 0)) 26 (iv 0)) 46 (iv 0)) 49 (iv 0)) 19 (iv m2_49)) 18 (iv p2_48))), (hT, ar 160 T), (hR, ar 30 R2_51), (hC, ar 1700 C), (hV, ar 1700 V), (hN, ar 5 Nk), (hL, ar 5 Lk), (hTf, ar 450 Tf), (hSf, ar 450 Sf), (hEf, ar 450 Ef), (hQ, ar 30 Q2_65), (hB, ar 6 B2_66), (hE, ar 6 E2_67)]) rfl ?_
      have hre_73 : (uF (uF (uF (uF (uF (uF (uF (uF (uF (uF (uF (uF (uF (uF (uF f 2 (iv 0)) 13 (iv lw)) 14 (iv t0)) 3 (iv a2_47)) 4 (iv (-1))) 5 (iv dp)) 21 (iv p2_48)) 22 (iv m2_49)) 25 (iv 0)) 32 (iv 0)) 26 (iv 0)) 46 (iv 0)) 49 (iv 0)) 19 (iv m2_49)) 18 (iv p2_48)) = (uF (uF (uF (uF (uF (uF (uF (uF (uF (uF (uF (uF (uF (uF (uF f 2 (iv 0)) 13 (iv lw)) 21 (iv p2_48)) 22 (iv m2_49)) 25 (iv 0)) 32 (iv 0)) 26 (iv 0)) 46 (iv 0)) 49 (iv 0)) 19 (iv m2_49)) 18 (iv p2_48)) 14 (iv t0)) 3 (iv a2_47)) 4 (iv (-1))) 5 (iv dp)) := (show ∀ g9 : Nat → AV, (uF (uF (uF (uF (uF (uF (uF (uF (uF (uF (uF (uF (uF (uF (uF f 2 (iv 0)) 13 (iv lw)) 21 (iv p2_48)) 22 (iv m2_49)) 25 (iv 0)) 32 (iv 0)) 26 (iv 0)) 46 (iv 0)) 49 (iv 0)) 19 (iv m2_49)) 18 (iv p2_48)) 14 (iv t0)) 3 (iv a2_47)) 4 (iv (-1))) 5 (iv dp)) = g9 → (uF (uF (uF (uF (uF (uF (uF (uF (uF (uF (uF (uF (uF (uF (uF f 2 (iv 0)) 13 (iv lw)) 14 (iv t0)) 3 (iv a2_47)) 4 (iv (-1))) 5 (iv dp)) 21 (iv p2_48)) 22 (iv m2_49)) 25 (iv 0)) 32 (iv 0)) 26 (iv 0)) 46 (iv 0)) 49 (iv 0)) 19 (iv m2_49)) 18 (iv p2_48)) = g9 from fun g9 hg => by rw [uF_mv (j := 5) (k := 21) (by decide), uF_mv (j := 5) (k := 22) (by decide), uF_mv (j := 5) (k := 25) (by decide), uF_mv (j := 5) (k := 32) (by decide), uF_mv (j := 5) (k := 26) (by decide), uF_mv (j := 5) (k := 46) (by decide), uF_mv (j := 5) (k := 49) (by decide), uF_mv (j := 5) (k := 19) (by decide), uF_mv (j := 5) (k := 18) (by decide), uF_mv (j := 4) (k := 21) (by decide), uF_mv (j := 4) (k := 22) (by decide), uF_mv (j := 4) (k := 25) (by decide), uF_mv (j := 4) (k := 32) (by decide), uF_mv (j := 4) (k := 26) (by decide), uF_mv (j := 4) (k := 46) (by decide), uF_mv (j := 4) (k := 49) (by decide), uF_mv (j := 4) (k := 19) (by decide), uF_mv (j := 4) (k := 18) (by decide), uF_mv (j := 3) (k := 21) (by decide), uF_mv (j := 3) (k := 22) (by decide), uF_mv (j := 3) (k := 25) (by decide), uF_mv (j := 3) (k := 32) (by decide), uF_mv (j := 3) (k := 26) (by decide), uF_mv (j := 3) (k := 46) (by decide), uF_mv (j := 3) (k := 49) (by decide), uF_mv (j := 3) (k := 19) (by decide), uF_mv (j := 3) (k := 18) (by decide), uF_mv (j := 14) (k := 21) (by decide), uF_mv (j := 14) (k := 22) (by decide), uF_mv (j := 14) (k := 25) (by decide), uF_mv (j := 14) (k := 32) (by decide), uF_mv (j := 14) (k := 26) (by decide), uF_mv (j := 14) (k := 46) (by decide), uF_mv (j := 14) (k := 49) (by decide), uF_mv (j := 14) (k := 19) (by decide), uF_mv (j := 14) (k := 18) (by decide)]; exact hg) _ rfl
      refine S_w (ws' := [(h0, ob 11 (uF (uF (uF (uF (uF (uF (uF (uF (uF (uF (uF (uF (uF (uF (uF f 2 (iv 0)) 13 (iv lw)) 21 (iv p2_48)) 22 (iv m2_49)) 25 (iv 0)) 32 (iv 0)) 26 (iv 0)) 46 (iv 0)) 49 (iv 0)) 19 (iv m2_49)) 18 (iv p2_48)) 14 (iv t0)) 3 (iv a2_47)) 4 (iv (-1))) 5 (iv dp))), (hT, ar 160 T), (hR, ar 30 R2_51), (hC, ar 1700 C), (hV, ar 1700 V), (hN, ar 5 Nk), (hL, ar 5 Lk), (hTf, ar 450 Tf), (hSf, ar 450 Sf), (hEf, ar 450 Ef), (hQ, ar 30 Q2_65), (hB, ar 6 B2_66), (hE, ar 6 E2_67)]) (by rw [hre_73]) ?_
      exact S_iret X (nle rfl) (nle rfl) dX12_text_21 (hPo _ _ (Or.inr (Or.inl ⟨_, _, _, _, _, _, _, _, _, rfl, rfl, by omega, hq_55, hfl_56, hs_57, hQ2_70, hB2_71, hE2_72⟩)))
end pt_51rtext
