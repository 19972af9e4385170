def nb (s : Int) : Int := [0, 1, 1, 2, 1, 2, 2, 3, 1, 2, 2, 3, 2, 3, 3, 4, 1, 2, 2, 3, 2, 3, 3, 4, 2, 3, 3, 4, 3, 4, 4, 5].getD s.toNat 9
theorem sb_all : ∀ s : Fin 32, ∀ k : Fin 5, zAnd (zShr (s.val : Int) (k.val : Int)) 1 = 0 → 0 ≤ zOr (s.val : Int) (zShl 1 (k.val : Int)) ∧ zOr (s.val : Int) (zShl 1 (k.val : Int)) < 32 ∧ nb (zOr (s.val : Int) (zShl 1 (k.val : Int))) = nb (s.val : Int) + 1 ∧ nb (zOr (s.val : Int) (zShl 1 (k.val : Int))) ≤ 5 ∧ 0 ≤ nb (s.val : Int) := by decide +kernel
theorem sb {s k : Int} (hs : 0 ≤ s ∧ s < 32) (hk : 0 ≤ k ∧ k ≤ 4) (h : zAnd (zShr s k) 1 = 0) : 0 ≤ zOr s (zShl 1 k) ∧ zOr s (zShl 1 k) < 32 ∧ nb (zOr s (zShl 1 k)) = nb s + 1 ∧ nb (zOr s (zShl 1 k)) ≤ 5 ∧ 0 ≤ nb s := by
  have e1 : ((s.toNat : Nat) : Int) = s := by omega
  have e2 : ((k.toNat : Nat) : Int) = k := by omega
  have := sb_all ⟨s.toNat, by omega⟩ ⟨k.toNat, by omega⟩
  simp only [e1, e2] at this
  exact this h
theorem topOf_in (k : Int) : 3 ≤ topOf k ∧ topOf k ≤ 99 := by
  unfold topOf
  repeat' split
  all_goals omega
theorem gTL_n {k : Int} (h : 0 ≤ k ∧ k ≤ 4) (h0 : ¬ k = 0) : gTL k = 0 := by
  rcases (by omega : k = 1 ∨ k = 2 ∨ k = 3 ∨ k = 4) with rfl | rfl | rfl | rfl <;> rfl
theorem gTM_t {k : Int} (h : 0 ≤ k ∧ k ≤ 4) : gTM k = topOf k := by
  rcases (by omega : k = 0 ∨ k = 1 ∨ k = 2 ∨ k = 3 ∨ k = 4) with rfl | rfl | rfl | rfl | rfl <;> rfl
/-- five numbers of a flat row -/
def rowW (R : Int → Int) (p : Int) (r : Int → Int) : Int → Int := fun x => if 5 * p ≤ x ∧ x < 5 * p + 5 then r (x - 5 * p) else R x
theorem rowW_put {R : Int → Int} {p k v : Int} {r : Int → Int} (h : 0 ≤ k ∧ k ≤ 4) : uZ (rowW R p r) (5 * p + k) v = rowW R p (uZ r k v) := by
  funext x
  unfold uZ rowW
  by_cases e : x = 5 * p + k
  · rw [if_pos e, if_pos (by omega)]; show v = if x - 5 * p = k then v else r (x - 5 * p); rw [if_pos (by omega)]
  · rw [if_neg e]
    by_cases e2 : 5 * p ≤ x ∧ x < 5 * p + 5
    · rw [if_pos e2, if_pos e2]; show r (x - 5 * p) = if x - 5 * p = k then v else r (x - 5 * p); rw [if_neg (by omega)]
    · rw [if_neg e2, if_neg e2]
theorem rowW_0 {R : Int → Int} {p : Int} : uZ (uZ (uZ (uZ (uZ R (5 * p + 0) 60) (5 * p + 1) 0) (5 * p + 2) 0) (5 * p + 3) (-1)) (5 * p + 4) 5 = rowW R p row0 := by
  funext x
  unfold uZ rowW row0
  repeat' split
  all_goals omega
theorem it_go {T : Int → Int} {n a b k v lo hi : Int} {f : Nat} {seen : Int} {r : Int → Int} (hk : k = itemOf (ch T n (sk T n a))) (h0 : 0 ≤ k) (hs : zAnd (zShr seen k) 1 = 0) (hl : gTL k = lo) (hh : gTM k = hi) (h2 : pNum T n 2 lo hi (sk T n a + 1) = .inr (b, v)) : pIt T n true (f + 1) seen a r = pIt T n true f (zOr seen (zShl 1 k)) b (uZ r k v) := by
  subst hk hl hh
  rw [pIt, if_neg (by omega), if_neg (by simp [hs]), h2]
theorem it_nf {T : Int → Int} {n a e k lo hi : Int} {f : Nat} {seen : Int} {r : Int → Int} (hk : k = itemOf (ch T n (sk T n a))) (h0 : 0 ≤ k) (hs : zAnd (zShr seen k) 1 = 0) (hl : gTL k = lo) (hh : gTM k = hi) (h2 : pNum T n 2 lo hi (sk T n a + 1) = .inl e) : pIt T n true (f + 1) seen a r = .inl e := by
  subst hk hl hh
  rw [pIt, if_neg (by omega), if_neg (by simp [hs]), h2]
theorem it_du {T : Int → Int} {n a k : Int} {f : Nat} {seen : Int} {r : Int → Int} (hf : 1 ≤ f) (hk : k = itemOf (ch T n (sk T n a))) (h0 : ¬ k = -1) (hs : ¬ zAnd (zShr seen k) 1 = 0) : pIt T n true f seen a r = .inl (sk T n a) := by
  obtain ⟨g, rfl⟩ : ∃ g, f = g + 1 := ⟨f - 1, by omega⟩
  subst hk
  rw [pIt, if_neg h0, if_pos (Or.inr hs)]
theorem it_st {T : Int → Int} {n a k : Int} {f : Nat} {seen : Int} {r : Int → Int} (hf : 1 ≤ f) (hk : k = itemOf (ch T n (sk T n a))) (h0 : k = -1) : pIt T n true f seen a r = .inr (sk T n a, r) := by
  obtain ⟨g, rfl⟩ : ∃ g, f = g + 1 := ⟨f - 1, by omega⟩
  subst hk
  rw [pIt, if_pos h0]
theorem item_m {T : Int → Int} {n a : Int} (h : (chM T n a = ch T n a ∧ 1 ≤ ch T n a ∧ ch T n a ≤ 255 ∧ a < n) ∨ (chM T n a = -1 ∧ ch T n a = 0 ∧ a = n)) : itemOf (chM T n a) = itemOf (ch T n a) := by
  rcases h with q | q
  · rw [q.1]
  · rw [q.1, q.2.1]; rfl
theorem item_lt {T : Int → Int} {n a : Int} (h : (chM T n a = ch T n a ∧ 1 ≤ ch T n a ∧ ch T n a ≤ 255 ∧ a < n) ∨ (chM T n a = -1 ∧ ch T n a = 0 ∧ a = n)) (h2 : ¬ itemOf (chM T n a) = -1) : a < n := by
  rcases h with q | q
  · exact q.2.2.2
  · exact absurd (by rw [q.1]; rfl) h2
set_option maxHeartbeats 4000000 in
set_option maxRecDepth 100000 in
theorem kX12_playerText (l : Launch) (h0 : Nat) (hT : Nat) (f : Nat → AV) (T : Int → Int) (n : Int) (a : Int) (dp : Int) (tx : Int) (pl : Int) (hR : Nat) (R1 : Int → Int) (hf0 : f 1 = rv hT) (hf1 : f 2 = iv n) (hf2 : f 17 = rv hR) (okT : okT T n) (ha : 0 ≤ a ∧ a < n) (hpl : 0 ≤ pl ∧ pl ≤ 6) : AMv l yX12_playerText cX12_playerText 4 3 0 0 [rv h0] [(h0, ob 11 (uF (uF (uF (uF (uF f 18 (iv pl)) 14 (iv tx)) 3 (iv a)) 4 (iv (-1))) 5 (iv dp))), (hT, ar 160 T), (hR, ar 30 R1)] (fun u => (u = [(h0, ob 11 (uF (uF (uF (uF (uF f 18 (iv pl)) 14 (iv tx)) 3 (iv a)) 4 (iv a)) 5 (iv dp))), (hT, ar 160 T), (hR, ar 30 R1)] ∧ pl = 6) ∨ (∃ a2 : Int, ∃ fl : Int, ∃ r : Int → Int, u = [(h0, ob 11 (uF (uF (uF (uF (uF f 18 (iv (pl + 1))) 14 (iv tx)) 3 (iv a2)) 4 (iv fl)) 5 (iv dp))), (hT, ar 160 T), (hR, ar 30 (rowW R1 pl r))] ∧ ¬ pl = 6 ∧ pIt T n true 6 0 (a + 1) row0 = .inl fl ∧ (0 ≤ fl ∧ fl ≤ n ∧ 0 ≤ a2 ∧ a2 ≤ n)) ∨ (∃ a2 : Int, ∃ r : Int → Int, u = [(h0, ob 11 (uF (uF (uF (uF (uF f 18 (iv (pl + 1))) 14 (iv tx)) 3 (iv (sk T n a2))) 4 (iv (-1))) 5 (iv dp))), (hT, ar 160 T), (hR, ar 30 (rowW R1 pl r))] ∧ ¬ pl = 6 ∧ pIt T n true 6 0 (a + 1) row0 = .inl (sk T n a2) ∧ (a < a2 ∧ a2 ≤ n) ∧ ¬ itemOf (ch T n (sk T n a2)) = -1 ∧ sk T n (sk T n a2) = sk T n a2) ∨ (∃ a2 : Int, ∃ r : Int → Int, u = [(h0, ob 11 (uF (uF (uF (uF (uF f 18 (iv (pl + 1))) 14 (iv tx)) 3 (iv (sk T n a2))) 4 (iv (-1))) 5 (iv dp))), (hT, ar 160 T), (hR, ar 30 (rowW R1 pl r))] ∧ ¬ pl = 6 ∧ pIt T n true 6 0 (a + 1) row0 = .inr (sk T n a2, r) ∧ (a < a2 ∧ a2 ≤ n))) := by
  refine AMv.of2 rfl (nle rfl) ?_
  intro D G A p e s m args below meth c Po hPo hnm X
  obtain ⟨hn0, hn1, hT2⟩ := id okT
  refine S_aload_n X dX12_playerText_0 rfl rfl ?_
  refine S_get (v := iv pl) X fgX12_220_11 0 rfl rfl dX12_playerText_1 ?_
  refine S_bipush X dX12_playerText_4 rfl ?_
  refine S_icmp_ne (tgt := 14) X dX12_playerText_6 (by decide) (by omega) (by decide) (fun c_1 => ?_) (fun c_1 => ?_)
  ·
    refine S_aload_n X dX12_playerText_14 rfl rfl ?_
    refine S_dup X dX12_playerText_15 ?_
    refine S_get (v := iv a) X fgX12_111_11 0 rfl rfl dX12_playerText_16 ?_
    refine S_iconst X dX12_playerText_19 ?_
    refine S_iadd X dX12_playerText_20 ?_
    refine S_put X fpX12_111_11 0 rfl FT_i dX12_playerText_21 ?_
    refine S_w (ws' := [(h0, ob 11 (uF (uF (uF (uF (uF f 18 (iv pl)) 14 (iv tx)) 3 (iv (a + 1))) 4 (iv (-1))) 5 (iv dp))), (hT, ar 160 T), (hR, ar 30 R1)]) (by simp only [List.set]; rw [uF_mv (j := 5) (k := 3) (by decide), uF_mv (j := 4) (k := 3) (by decide), uF_same (k := 3)]) ?_
    refine S_iconst X dX12_playerText_24 ?_
    refine S_aload_n X dX12_playerText_25 rfl rfl ?_
    refine S_get (v := iv pl) X fgX12_220_11 0 rfl rfl dX12_playerText_26 ?_
    refine S_imul X dX12_playerText_29 ?_
    refine S_istore_n X dX12_playerText_30 rfl (nle rfl) ?_
    refine S_iconst X dX12_playerText_31 ?_
    refine S_istore_n X dX12_playerText_32 rfl (nle rfl) ?_
    refine S_iload_n X dX12_playerText_33 rfl rfl ?_
    refine S_iconst X dX12_playerText_34 ?_
    refine S_icmp_ge (tgt := 80) X dX12_playerText_35 (by decide) (by decide) (by decide) (fun h9 => absurd h9 (by decide)) (fun _ => ?_)
    refine S_aload_n X dX12_playerText_38 rfl rfl ?_
    refine S_get X fgX12_40_11 0 rfl hf2 dX12_playerText_39 ?_
    refine S_iload_n X dX12_playerText_42 rfl rfl ?_
    refine S_iload_n X dX12_playerText_43 rfl rfl ?_
    refine S_iadd X dX12_playerText_44 ?_
    refine S_iload_n X dX12_playerText_45 rfl rfl ?_
    refine S_if_ne (tgt := 54) X dX12_playerText_46 (by decide) (by decide) (fun h9 => absurd h9 (by decide)) (fun _ => ?_)
    refine S_bipush X dX12_playerText_49 rfl ?_
    refine S_goto (tgt := 73) X dX12_playerText_51 (by decide) ?_
    refine S_iast X 2 rfl (by omega) (by omega) (nle rfl) dX12_playerText_73 ?_
    refine S_w (ws' := [(h0, ob 11 (uF (uF (uF (uF (uF f 18 (iv pl)) 14 (iv tx)) 3 (iv (a + 1))) 4 (iv (-1))) 5 (iv dp))), (hT, ar 160 T), (hR, ar 30 (uZ R1 ((5 * pl) + 0) 60))]) rfl ?_
    refine S_iincK (w := 1) X dX12_playerText_74 (nle rfl) rfl (by decide) ?_
    refine S_goto (tgt := 33) X dX12_playerText_77 (by decide) ?_
    refine S_iload_n X dX12_playerText_33 rfl rfl ?_
    refine S_iconst X dX12_playerText_34 ?_
    refine S_icmp_ge (tgt := 80) X dX12_playerText_35 (by decide) (by decide) (by decide) (fun h9 => absurd h9 (by decide)) (fun _ => ?_)
    refine S_aload_n X dX12_playerText_38 rfl rfl ?_
    refine S_get X fgX12_40_11 0 rfl hf2 dX12_playerText_39 ?_
    refine S_iload_n X dX12_playerText_42 rfl rfl ?_
    refine S_iload_n X dX12_playerText_43 rfl rfl ?_
    refine S_iadd X dX12_playerText_44 ?_
    refine S_iload_n X dX12_playerText_45 rfl rfl ?_
    refine S_if_ne (tgt := 54) X dX12_playerText_46 (by decide) (by decide) (fun _ => ?_) (fun h9 => absurd h9 (by decide))
    refine S_iload_n X dX12_playerText_54 rfl rfl ?_
    refine S_iconst X dX12_playerText_55 ?_
    refine S_icmp_ne (tgt := 63) X dX12_playerText_56 (by decide) (by decide) (by decide) (fun _ => ?_) (fun h9 => absurd h9 (by decide))
    refine S_iload_n X dX12_playerText_63 rfl rfl ?_
    refine S_iconst X dX12_playerText_64 ?_
    refine S_icmp_ne (tgt := 72) X dX12_playerText_65 (by decide) (by decide) (by decide) (fun _ => ?_) (fun h9 => absurd h9 (by decide))
    refine S_iconst X dX12_playerText_72 ?_
    refine S_iast X 2 rfl (by omega) (by omega) (nle rfl) dX12_playerText_73 ?_
    refine S_w (ws' := [(h0, ob 11 (uF (uF (uF (uF (uF f 18 (iv pl)) 14 (iv tx)) 3 (iv (a + 1))) 4 (iv (-1))) 5 (iv dp))), (hT, ar 160 T), (hR, ar 30 (uZ (uZ R1 ((5 * pl) + 0) 60) ((5 * pl) + 1) 0))]) rfl ?_
    refine S_iincK (w := 2) X dX12_playerText_74 (nle rfl) rfl (by decide) ?_
    refine S_goto (tgt := 33) X dX12_playerText_77 (by decide) ?_
    refine S_iload_n X dX12_playerText_33 rfl rfl ?_
    refine S_iconst X dX12_playerText_34 ?_
    refine S_icmp_ge (tgt := 80) X dX12_playerText_35 (by decide) (by decide) (by decide) (fun h9 => absurd h9 (by decide)) (fun _ => ?_)
    refine S_aload_n X dX12_playerText_38 rfl rfl ?_
    refine S_get X fgX12_40_11 0 rfl hf2 dX12_playerText_39 ?_
    refine S_iload_n X dX12_playerText_42 rfl rfl ?_
    refine S_iload_n X dX12_playerText_43 rfl rfl ?_
    refine S_iadd X dX12_playerText_44 ?_
    refine S_iload_n X dX12_playerText_45 rfl rfl ?_
    refine S_if_ne (tgt := 54) X dX12_playerText_46 (by decide) (by decide) (fun _ => ?_) (fun h9 => absurd h9 (by decide))
    refine S_iload_n X dX12_playerText_54 rfl rfl ?_
    refine S_iconst X dX12_playerText_55 ?_
    refine S_icmp_ne (tgt := 63) X dX12_playerText_56 (by decide) (by decide) (by decide) (fun _ => ?_) (fun h9 => absurd h9 (by decide))
    refine S_iload_n X dX12_playerText_63 rfl rfl ?_
    refine S_iconst X dX12_playerText_64 ?_
    refine S_icmp_ne (tgt := 72) X dX12_playerText_65 (by decide) (by decide) (by decide) (fun _ => ?_) (fun h9 => absurd h9 (by decide))
    refine S_iconst X dX12_playerText_72 ?_
    refine S_iast X 2 rfl (by omega) (by omega) (nle rfl) dX12_playerText_73 ?_
    refine S_w (ws' := [(h0, ob 11 (uF (uF (uF (uF (uF f 18 (iv pl)) 14 (iv tx)) 3 (iv (a + 1))) 4 (iv (-1))) 5 (iv dp))), (hT, ar 160 T), (hR, ar 30 (uZ (uZ (uZ R1 ((5 * pl) + 0) 60) ((5 * pl) + 1) 0) ((5 * pl) + 2) 0))]) rfl ?_
    refine S_iincK (w := 3) X dX12_playerText_74 (nle rfl) rfl (by decide) ?_
    refine S_goto (tgt := 33) X dX12_playerText_77 (by decide) ?_
    refine S_iload_n X dX12_playerText_33 rfl rfl ?_
    refine S_iconst X dX12_playerText_34 ?_
    refine S_icmp_ge (tgt := 80) X dX12_playerText_35 (by decide) (by decide) (by decide) (fun h9 => absurd h9 (by decide)) (fun _ => ?_)
    refine S_aload_n X dX12_playerText_38 rfl rfl ?_
    refine S_get X fgX12_40_11 0 rfl hf2 dX12_playerText_39 ?_
    refine S_iload_n X dX12_playerText_42 rfl rfl ?_
    refine S_iload_n X dX12_playerText_43 rfl rfl ?_
    refine S_iadd X dX12_playerText_44 ?_
    refine S_iload_n X dX12_playerText_45 rfl rfl ?_
    refine S_if_ne (tgt := 54) X dX12_playerText_46 (by decide) (by decide) (fun _ => ?_) (fun h9 => absurd h9 (by decide))
    refine S_iload_n X dX12_playerText_54 rfl rfl ?_
    refine S_iconst X dX12_playerText_55 ?_
    refine S_icmp_ne (tgt := 63) X dX12_playerText_56 (by decide) (by decide) (by decide) (fun h9 => absurd h9 (by decide)) (fun _ => ?_)
    refine S_iconst X dX12_playerText_59 ?_
    refine S_goto (tgt := 73) X dX12_playerText_60 (by decide) ?_
    refine S_iast X 2 rfl (by omega) (by omega) (nle rfl) dX12_playerText_73 ?_
    refine S_w (ws' := [(h0, ob 11 (uF (uF (uF (uF (uF f 18 (iv pl)) 14 (iv tx)) 3 (iv (a + 1))) 4 (iv (-1))) 5 (iv dp))), (hT, ar 160 T), (hR, ar 30 (uZ (uZ (uZ (uZ R1 ((5 * pl) + 0) 60) ((5 * pl) + 1) 0) ((5 * pl) + 2) 0) ((5 * pl) + 3) (-1)))]) rfl ?_
    refine S_iincK (w := 4) X dX12_playerText_74 (nle rfl) rfl (by decide) ?_
    refine S_goto (tgt := 33) X dX12_playerText_77 (by decide) ?_
    refine S_iload_n X dX12_playerText_33 rfl rfl ?_
    refine S_iconst X dX12_playerText_34 ?_
    refine S_icmp_ge (tgt := 80) X dX12_playerText_35 (by decide) (by decide) (by decide) (fun h9 => absurd h9 (by decide)) (fun _ => ?_)
    refine S_aload_n X dX12_playerText_38 rfl rfl ?_
    refine S_get X fgX12_40_11 0 rfl hf2 dX12_playerText_39 ?_
    refine S_iload_n X dX12_playerText_42 rfl rfl ?_
    refine S_iload_n X dX12_playerText_43 rfl rfl ?_
    refine S_iadd X dX12_playerText_44 ?_
    refine S_iload_n X dX12_playerText_45 rfl rfl ?_
    refine S_if_ne (tgt := 54) X dX12_playerText_46 (by decide) (by decide) (fun _ => ?_) (fun h9 => absurd h9 (by decide))
    refine S_iload_n X dX12_playerText_54 rfl rfl ?_
    refine S_iconst X dX12_playerText_55 ?_
    refine S_icmp_ne (tgt := 63) X dX12_playerText_56 (by decide) (by decide) (by decide) (fun _ => ?_) (fun h9 => absurd h9 (by decide))
    refine S_iload_n X dX12_playerText_63 rfl rfl ?_
    refine S_iconst X dX12_playerText_64 ?_
    refine S_icmp_ne (tgt := 72) X dX12_playerText_65 (by decide) (by decide) (by decide) (fun h9 => absurd h9 (by decide)) (fun _ => ?_)
    refine S_iconst X dX12_playerText_68 ?_
    refine S_goto (tgt := 73) X dX12_playerText_69 (by decide) ?_
    refine S_iast X 2 rfl (by omega) (by omega) (nle rfl) dX12_playerText_73 ?_
    refine S_w (ws' := [(h0, ob 11 (uF (uF (uF (uF (uF f 18 (iv pl)) 14 (iv tx)) 3 (iv (a + 1))) 4 (iv (-1))) 5 (iv dp))), (hT, ar 160 T), (hR, ar 30 (uZ (uZ (uZ (uZ (uZ R1 ((5 * pl) + 0) 60) ((5 * pl) + 1) 0) ((5 * pl) + 2) 0) ((5 * pl) + 3) (-1)) ((5 * pl) + 4) 5))]) rfl ?_
    refine S_iincK (w := 5) X dX12_playerText_74 (nle rfl) rfl (by decide) ?_
    refine S_goto (tgt := 33) X dX12_playerText_77 (by decide) ?_
    refine S_iload_n X dX12_playerText_33 rfl rfl ?_
    refine S_iconst X dX12_playerText_34 ?_
    refine S_icmp_ge (tgt := 80) X dX12_playerText_35 (by decide) (by decide) (by decide) (fun _ => ?_) (fun h9 => absurd h9 (by decide))
    refine S_w (ws' := [(h0, ob 11 (uF (uF (uF (uF (uF f 18 (iv pl)) 14 (iv tx)) 3 (iv (a + 1))) 4 (iv (-1))) 5 (iv dp))), (hT, ar 160 T), (hR, ar 30 (rowW R1 pl row0))]) (by rw [← rowW_0]) ?_
    refine S_iconst X dX12_playerText_80 ?_
    refine S_istore_n X dX12_playerText_81 rfl (nle rfl) ?_
    refine S_aload_n X dX12_playerText_82 rfl rfl ?_
    refine S_calli X (kX12_look l h0 hT (uF (uF f 18 (iv pl)) 14 (iv tx)) T n (a + 1) (-1) dp hf0 hf1 (by omega) (by omega)) (is := [0, 1]) rfl (run_V X lkX12_130 0 rfl rfl (is := [0, 1]) (avs := []) (rest := []) rfl rfl (nle rfl) ⟨nle rfl, nle rfl⟩ ⟨nle rfl, nle rfl⟩ dX12_playerText_83 (by decide) rfl) (fun z_22 u_20 hp_21 => ?_)
    obtain ⟨hz_23, hu_24⟩ := hp_21
    subst hz_23
    subst hu_24
    refine ⟨rfl, ?_⟩
    refine S_w (ws' := [(h0, ob 11 (uF (uF (uF (uF (uF f 18 (iv pl)) 14 (iv tx)) 3 (iv (sk T n (a + 1)))) 4 (iv (-1))) 5 (iv dp))), (hT, ar 160 T), (hR, ar 30 (rowW R1 pl row0))]) rfl ?_
    have hsk_25 := sk_in (T := T) (n := n) (a := a + 1) (by omega)
    have hcm_25 := chM_or okT (a := sk T n (a + 1)) (by omega) (by omega)
    have him_25 := item_m hcm_25
    have hit_25 := itemOf_in (ch T n (sk T n (a + 1)))
    refine S_calli X (kX12_itemOf l (chM T n (sk T n (a + 1))) (by omega)) (is := []) rfl (run_S X lkX12_223 (is := []) (avs := [iv (chM T n (sk T n (a + 1)))]) (rest := []) rfl rfl (nle rfl) ⟨nle rfl, nle rfl⟩ ⟨nle rfl, nle rfl⟩ dX12_playerText_86 (by decide) rfl) (fun z_28 u_26 hp_27 => ?_)
    obtain ⟨hz_29, hu_30⟩ := hp_27
    subst hz_29
    subst hu_30
    refine ⟨rfl, ?_⟩
    refine S_w (ws' := [(h0, ob 11 (uF (uF (uF (uF (uF f 18 (iv pl)) 14 (iv tx)) 3 (iv (sk T n (a + 1)))) 4 (iv (-1))) 5 (iv dp))), (hT, ar 160 T), (hR, ar 30 (rowW R1 pl row0))]) rfl ?_
    refine S_istore_n X dX12_playerText_89 rfl (nle rfl) ?_
    refine S_aload_n X dX12_playerText_90 rfl rfl ?_
    refine S_get (v := iv (-1)) X fgX12_118_11 0 rfl rfl dX12_playerText_91 ?_
    refine S_iconst X dX12_playerText_94 ?_
    refine S_icmp_ne (tgt := 175) X dX12_playerText_95 (by decide) (by decide) (by decide) (fun h9 => absurd h9 (by decide)) (fun _ => ?_)
    refine S_iload_n X dX12_playerText_98 rfl rfl ?_
    refine S_iconst X dX12_playerText_99 ?_
    refine S_icmp_eq (tgt := 175) X dX12_playerText_100 (by decide) (by omega) (by decide) (fun c_32 => ?_) (fun c_32 => ?_)
    ·
      refine S_aload_n X dX12_playerText_175 rfl rfl ?_
      refine S_dup X dX12_playerText_176 ?_
      refine S_get (v := iv pl) X fgX12_220_11 0 rfl rfl dX12_playerText_177 ?_
      refine S_iconst X dX12_playerText_180 ?_
      refine S_iadd X dX12_playerText_181 ?_
      refine S_put X fpX12_220_11 0 rfl FT_i dX12_playerText_182 ?_
      refine S_w (ws' := [(h0, ob 11 (uF (uF (uF (uF (uF f 18 (iv (pl + 1))) 14 (iv tx)) 3 (iv (sk T n (a + 1)))) 4 (iv (-1))) 5 (iv dp))), (hT, ar 160 T), (hR, ar 30 (rowW R1 pl row0))]) (by simp only [List.set]; rw [uF_mv (j := 5) (k := 18) (by decide), uF_mv (j := 4) (k := 18) (by decide), uF_mv (j := 3) (k := 18) (by decide), uF_mv (j := 14) (k := 18) (by decide), uF_same (k := 18)]) ?_
      exact S_vret X (nle rfl) (nle rfl) dX12_playerText_185 (hPo _ (Or.inr (Or.inr (Or.inr ⟨_, _, rfl, by omega, Eq.trans (rfl : pIt T n true 6 0 (a + 1) row0 = pIt T n true 6 0 (a + 1) row0) (it_st (by omega) him_25 (by omega)), by omega⟩))))
    ·
      refine S_iload_n X dX12_playerText_103 rfl rfl ?_
      refine S_iload_n X dX12_playerText_104 rfl rfl ?_
      refine S_calli X (kX12_has l 0 (itemOf (chM T n (sk T n (a + 1)))) ) (is := []) rfl (run_S X lkX12_226 (is := []) (avs := [iv 0, iv (itemOf (chM T n (sk T n (a + 1))))]) (rest := []) rfl rfl (nle rfl) ⟨nle rfl, nle rfl⟩ ⟨nle rfl, nle rfl⟩ dX12_playerText_105 (by decide) rfl) (fun z_35 u_33 hp_34 => ?_)
      rcases hp_34 with ⟨hz_36, hu_37, hq_38⟩ | ⟨hz_39, hu_40, hq_41⟩
      ·
        subst hz_36
        subst hu_37
        refine ⟨rfl, ?_⟩
        refine S_w (ws' := [(h0, ob 11 (uF (uF (uF (uF (uF f 18 (iv pl)) 14 (iv tx)) 3 (iv (sk T n (a + 1)))) 4 (iv (-1))) 5 (iv dp))), (hT, ar 160 T), (hR, ar 30 (rowW R1 pl row0))]) rfl ?_
        refine S_if_ne (tgt := 175) X dX12_playerText_108 (by decide) (by decide) (fun h9 => absurd h9 (by decide)) (fun _ => ?_)
        have lp111_3 : ∀ (N : Nat) (a1 : Int) (k1 : Int) (seen : Int) (r : Int → Int) (L : Nat → Option AV), a < a1 ∧ a1 ≤ n → sk T n a1 < n → k1 = itemOf (ch T n (sk T n a1)) → 0 ≤ k1 ∧ k1 ≤ 4 → 0 ≤ seen ∧ seen < 32 ∧ 0 ≤ nb seen ∧ nb seen ≤ 5 → zAnd (zShr seen k1) 1 = 0 → (∃ f : Nat, 6 - nb seen ≤ f ∧ pIt T n true f seen a1 r = pIt T n true 6 0 (a + 1) row0) → L 0 = some (rv h0) → L 1 = some (iv (5 * pl)) → L 2 = some (iv seen) → L 3 = some (iv k1) → 161 - a1 < (N : Int) → S_ p l e (rmD 3 0 0) s m args below meth c (MQ below (QcV D G A Po) args s 0 0 A) D G A 4 0 0 111 L [] [(h0, ob 11 (uF (uF (uF (uF (uF f 18 (iv pl)) 14 (iv tx)) 3 (iv (sk T n a1))) 4 (iv (-1))) 5 (iv dp))), (hT, ar 160 T), (hR, ar 30 (rowW R1 pl r))] := by
          intro N
          induction N with
          | zero =>
            intro a1 k1 seen r L111 hi hlt hk1 hk2 hsn hse hkl hL111_0 hL111_1 hL111_2 hL111_3 hN111
            exfalso; omega
          | succ N ih111 =>
            intro a1 k1 seen r L111 hi hlt hk1 hk2 hsn hse hkl hL111_0 hL111_1 hL111_2 hL111_3 hN111
            obtain ⟨f9, hf9, hk9⟩ := hkl
            obtain ⟨g9, rfl⟩ : ∃ g, f9 = g + 1 := ⟨f9 - 1, by omega⟩
            have hsk1 := sk_in (T := T) (n := n) (a := a1) (by omega)
            have htp := topOf_in k1
            have hsb := sb ⟨hsn.1, hsn.2.1⟩ hk2 hse
            refine S_iload_n X dX12_playerText_111 rfl hL111_2 ?_
            refine S_iconst X dX12_playerText_112 ?_
            refine S_iload_n X dX12_playerText_113 rfl hL111_3 ?_
            refine S_ishl X dX12_playerText_114 ?_
            refine S_ior X dX12_playerText_115 ?_
            refine S_istore_n X dX12_playerText_116 rfl (nle rfl) ?_
            refine S_aload_n X dX12_playerText_117 rfl hL111_0 ?_
            refine S_dup X dX12_playerText_118 ?_
            refine S_get (v := iv (sk T n a1)) X fgX12_111_11 0 rfl rfl dX12_playerText_119 ?_
            refine S_iconst X dX12_playerText_122 ?_
            refine S_iadd X dX12_playerText_123 ?_
            refine S_put X fpX12_111_11 0 rfl FT_i dX12_playerText_124 ?_
            refine S_w (ws' := [(h0, ob 11 (uF (uF (uF (uF (uF f 18 (iv pl)) 14 (iv tx)) 3 (iv ((sk T n a1) + 1))) 4 (iv (-1))) 5 (iv dp))), (hT, ar 160 T), (hR, ar 30 (rowW R1 pl r))]) (by simp only [List.set]; rw [uF_mv (j := 5) (k := 3) (by decide), uF_mv (j := 4) (k := 3) (by decide), uF_same (k := 3)]) ?_
            refine S_aload_n X dX12_playerText_127 rfl hL111_0 ?_
            refine S_get X fgX12_40_11 0 rfl hf2 dX12_playerText_128 ?_
            refine S_iload_n X dX12_playerText_131 rfl hL111_1 ?_
            refine S_iload_n X dX12_playerText_132 rfl hL111_3 ?_
            refine S_iadd X dX12_playerText_133 ?_
            refine S_aload_n X dX12_playerText_134 rfl hL111_0 ?_
            refine S_iload_n X dX12_playerText_135 rfl hL111_3 ?_
            refine S_if_ne (tgt := 143) X dX12_playerText_136 (by decide) (by omega) (fun c_43 => ?_) (fun c_43 => ?_)
            ·
              refine S_iconst X dX12_playerText_143 ?_
              refine S_iload_n X dX12_playerText_144 rfl hL111_3 ?_
              refine S_calli X (kX12_highest l k1 (by omega)) (is := []) rfl (run_S X lkX12_230 (is := []) (avs := [iv k1]) (rest := [iv 0, rv h0, iv ((5 * pl) + k1), rv hR]) rfl rfl (nle rfl) ⟨nle rfl, nle rfl⟩ ⟨nle rfl, nle rfl⟩ dX12_playerText_145 (by decide) rfl) (fun z_46 u_44 hp_45 => ?_)
              obtain ⟨hz_47, hu_48⟩ := hp_45
              subst hz_47
              subst hu_48
              refine ⟨rfl, ?_⟩
              refine S_w (ws' := [(h0, ob 11 (uF (uF (uF (uF (uF f 18 (iv pl)) 14 (iv tx)) 3 (iv ((sk T n a1) + 1))) 4 (iv (-1))) 5 (iv dp))), (hT, ar 160 T), (hR, ar 30 (rowW R1 pl r))]) rfl ?_
              refine S_calli X (kX12_number l h0 hT (uF (uF f 18 (iv pl)) 14 (iv tx)) T n ((sk T n a1) + 1) (-1) dp 0 (topOf k1) hf0 hf1 (by omega) (by omega) (by omega) (by omega)) (is := [0, 1]) rfl (run_V X lkX12_233 0 rfl rfl (is := [0, 1]) (avs := [iv 0, iv (topOf k1)]) (rest := [iv ((5 * pl) + k1), rv hR]) rfl rfl (nle rfl) ⟨nle rfl, nle rfl⟩ ⟨nle rfl, nle rfl⟩ dX12_playerText_148 (by decide) rfl) (fun z_51 u_49 hp_50 => ?_)
              rcases hp_50 with ⟨a2_52, fl_53, v_54, hz_55, hu_56, hq_57, hr_58⟩ | ⟨a2_59, v_60, hz_61, hu_62, hq_63⟩
              ·
                subst hz_55
                subst hu_56
                refine ⟨rfl, ?_⟩
                refine S_w (ws' := [(h0, ob 11 (uF (uF (uF (uF (uF f 18 (iv pl)) 14 (iv tx)) 3 (iv a2_52)) 4 (iv fl_53)) 5 (iv dp))), (hT, ar 160 T), (hR, ar 30 (rowW R1 pl r))]) rfl ?_
                refine S_iast X 2 rfl (by omega) (by omega) (nle rfl) dX12_playerText_151 ?_
                refine S_w (ws' := [(h0, ob 11 (uF (uF (uF (uF (uF f 18 (iv pl)) 14 (iv tx)) 3 (iv a2_52)) 4 (iv fl_53)) 5 (iv dp))), (hT, ar 160 T), (hR, ar 30 (uZ (rowW R1 pl r) ((5 * pl) + k1) z_51))]) rfl ?_
                refine S_w (ws' := [(h0, ob 11 (uF (uF (uF (uF (uF f 18 (iv pl)) 14 (iv tx)) 3 (iv a2_52)) 4 (iv fl_53)) 5 (iv dp))), (hT, ar 160 T), (hR, ar 30 (rowW R1 pl (uZ r k1 z_51)))]) (by rw [← rowW_put (by omega)]) ?_
                refine S_aload_n X dX12_playerText_152 rfl hL111_0 ?_
                refine S_get (v := iv fl_53) X fgX12_118_11 0 rfl rfl dX12_playerText_153 ?_
                refine S_iconst X dX12_playerText_156 ?_
                refine S_icmp_ne (tgt := 170) X dX12_playerText_157 (by decide) (by omega) (by decide) (fun c_65 => ?_) (fun c_65 => ?_)
                ·
                  refine S_iconst X dX12_playerText_170 ?_
                  refine S_istore_n X dX12_playerText_171 rfl (nle rfl) ?_
                  refine S_goto (tgt := 90) X dX12_playerText_172 (by decide) ?_
                  refine S_aload_n X dX12_playerText_90 rfl hL111_0 ?_
                  refine S_get (v := iv fl_53) X fgX12_118_11 0 rfl rfl dX12_playerText_91 ?_
                  refine S_iconst X dX12_playerText_94 ?_
                  refine S_icmp_ne (tgt := 175) X dX12_playerText_95 (by decide) (by omega) (by decide) (fun c_66 => ?_) (fun c_66 => by exfalso; omega)
                  refine S_aload_n X dX12_playerText_175 rfl hL111_0 ?_
                  refine S_dup X dX12_playerText_176 ?_
                  refine S_get (v := iv pl) X fgX12_220_11 0 rfl rfl dX12_playerText_177 ?_
                  refine S_iconst X dX12_playerText_180 ?_
                  refine S_iadd X dX12_playerText_181 ?_
                  refine S_put X fpX12_220_11 0 rfl FT_i dX12_playerText_182 ?_
                  refine S_w (ws' := [(h0, ob 11 (uF (uF (uF (uF (uF f 18 (iv (pl + 1))) 14 (iv tx)) 3 (iv a2_52)) 4 (iv fl_53)) 5 (iv dp))), (hT, ar 160 T), (hR, ar 30 (rowW R1 pl (uZ r k1 z_51)))]) (by simp only [List.set]; rw [uF_mv (j := 5) (k := 18) (by decide), uF_mv (j := 4) (k := 18) (by decide), uF_mv (j := 3) (k := 18) (by decide), uF_mv (j := 14) (k := 18) (by decide), uF_same (k := 18)]) ?_
                  exact S_vret X (nle rfl) (nle rfl) dX12_playerText_185 (hPo _ (Or.inr (Or.inl ⟨_, _, _, rfl, by omega, hk9.symm.trans (it_nf hk1 (by omega) hse (gTL_n (by omega) c_43) (gTM_t (by omega)) hq_57), by omega⟩)))
                ·
                  refine S_aload_n X dX12_playerText_160 rfl hL111_0 ?_
                  refine S_calli X (kX12_look l h0 hT (uF (uF f 18 (iv pl)) 14 (iv tx)) T n a2_52 fl_53 dp hf0 hf1 (by omega) (by omega)) (is := [0, 1]) rfl (run_V X lkX12_130 0 rfl rfl (is := [0, 1]) (avs := []) (rest := []) rfl rfl (nle rfl) ⟨nle rfl, nle rfl⟩ ⟨nle rfl, nle rfl⟩ dX12_playerText_161 (by decide) rfl) (fun z_69 u_67 hp_68 => ?_)
                  obtain ⟨hz_70, hu_71⟩ := hp_68
                  subst hz_70
                  subst hu_71
                  refine ⟨rfl, ?_⟩
                  refine S_w (ws' := [(h0, ob 11 (uF (uF (uF (uF (uF f 18 (iv pl)) 14 (iv tx)) 3 (iv (sk T n a2_52))) 4 (iv fl_53)) 5 (iv dp))), (hT, ar 160 T), (hR, ar 30 (rowW R1 pl (uZ r k1 z_51)))]) rfl ?_
                  have hsk_72 := sk_in (T := T) (n := n) (a := a + 1) (by omega)
                  have hcm_72 := chM_or okT (a := sk T n (a + 1)) (by omega) (by omega)
                  have him_72 := item_m hcm_72
                  have hit_72 := itemOf_in (ch T n (sk T n (a + 1)))
                  refine S_calli X (kX12_itemOf l (chM T n (sk T n a2_52)) (by omega)) (is := []) rfl (run_S X lkX12_223 (is := []) (avs := [iv (chM T n (sk T n a2_52))]) (rest := []) rfl rfl (nle rfl) ⟨nle rfl, nle rfl⟩ ⟨nle rfl, nle rfl⟩ dX12_playerText_164 (by decide) rfl) (fun z_75 u_73 hp_74 => ?_)
                  obtain ⟨hz_76, hu_77⟩ := hp_74
                  subst hz_76
                  subst hu_77
                  refine ⟨rfl, ?_⟩
                  refine S_w (ws' := [(h0, ob 11 (uF (uF (uF (uF (uF f 18 (iv pl)) 14 (iv tx)) 3 (iv (sk T n a2_52))) 4 (iv fl_53)) 5 (iv dp))), (hT, ar 160 T), (hR, ar 30 (rowW R1 pl (uZ r k1 z_51)))]) rfl ?_
                  refine S_goto (tgt := 171) X dX12_playerText_167 (by decide) ?_
                  refine S_istore_n X dX12_playerText_171 rfl (nle rfl) ?_
                  refine S_goto (tgt := 90) X dX12_playerText_172 (by decide) ?_
                  refine S_aload_n X dX12_playerText_90 rfl hL111_0 ?_
                  refine S_get (v := iv fl_53) X fgX12_118_11 0 rfl rfl dX12_playerText_91 ?_
                  refine S_iconst X dX12_playerText_94 ?_
                  refine S_icmp_ne (tgt := 175) X dX12_playerText_95 (by decide) (by omega) (by decide) (fun c_78 => ?_) (fun c_78 => by exfalso; omega)
                  refine S_aload_n X dX12_playerText_175 rfl hL111_0 ?_
                  refine S_dup X dX12_playerText_176 ?_
                  refine S_get (v := iv pl) X fgX12_220_11 0 rfl rfl dX12_playerText_177 ?_
                  refine S_iconst X dX12_playerText_180 ?_
                  refine S_iadd X dX12_playerText_181 ?_
                  refine S_put X fpX12_220_11 0 rfl FT_i dX12_playerText_182 ?_
                  refine S_w (ws' := [(h0, ob 11 (uF (uF (uF (uF (uF f 18 (iv (pl + 1))) 14 (iv tx)) 3 (iv (sk T n a2_52))) 4 (iv fl_53)) 5 (iv dp))), (hT, ar 160 T), (hR, ar 30 (rowW R1 pl (uZ r k1 z_51)))]) (by simp only [List.set]; rw [uF_mv (j := 5) (k := 18) (by decide), uF_mv (j := 4) (k := 18) (by decide), uF_mv (j := 3) (k := 18) (by decide), uF_mv (j := 14) (k := 18) (by decide), uF_same (k := 18)]) ?_
                  exact S_vret X (nle rfl) (nle rfl) dX12_playerText_185 (hPo _ (Or.inr (Or.inl ⟨_, _, _, rfl, by omega, hk9.symm.trans (it_nf hk1 (by omega) hse (gTL_n (by omega) c_43) (gTM_t (by omega)) hq_57), by omega⟩)))
              ·
                subst hz_61
                subst hu_62
                refine ⟨rfl, ?_⟩
                refine S_w (ws' := [(h0, ob 11 (uF (uF (uF (uF (uF f 18 (iv pl)) 14 (iv tx)) 3 (iv a2_59)) 4 (iv (-1))) 5 (iv dp))), (hT, ar 160 T), (hR, ar 30 (rowW R1 pl r))]) rfl ?_
                have hno_79 := (pNum_in (T := T) (n := n) (dg := 2) (a := sk T n a1 + 1) (by omega) (by decide) hn1 (by omega)).2 _ hq_63
                dsimp only at hno_79
                refine S_iast X 2 rfl (by omega) (by omega) (nle rfl) dX12_playerText_151 ?_
                refine S_w (ws' := [(h0, ob 11 (uF (uF (uF (uF (uF f 18 (iv pl)) 14 (iv tx)) 3 (iv a2_59)) 4 (iv (-1))) 5 (iv dp))), (hT, ar 160 T), (hR, ar 30 (uZ (rowW R1 pl r) ((5 * pl) + k1) z_51))]) rfl ?_
                refine S_w (ws' := [(h0, ob 11 (uF (uF (uF (uF (uF f 18 (iv pl)) 14 (iv tx)) 3 (iv a2_59)) 4 (iv (-1))) 5 (iv dp))), (hT, ar 160 T), (hR, ar 30 (rowW R1 pl (uZ r k1 z_51)))]) (by rw [← rowW_put (by omega)]) ?_
                have hkk_80 := (it_go (f := g9) (seen := seen) (r := r) hk1 (by omega) hse (gTL_n (by omega) c_43) (gTM_t (by omega)) hq_63).symm.trans hk9
                refine S_aload_n X dX12_playerText_152 rfl hL111_0 ?_
                refine S_get (v := iv (-1)) X fgX12_118_11 0 rfl rfl dX12_playerText_153 ?_
                refine S_iconst X dX12_playerText_156 ?_
                refine S_icmp_ne (tgt := 170) X dX12_playerText_157 (by decide) (by decide) (by decide) (fun h9 => absurd h9 (by decide)) (fun _ => ?_)
                refine S_aload_n X dX12_playerText_160 rfl hL111_0 ?_
                refine S_calli X (kX12_look l h0 hT (uF (uF f 18 (iv pl)) 14 (iv tx)) T n a2_59 (-1) dp hf0 hf1 (by omega) (by omega)) (is := [0, 1]) rfl (run_V X lkX12_130 0 rfl rfl (is := [0, 1]) (avs := []) (rest := []) rfl rfl (nle rfl) ⟨nle rfl, nle rfl⟩ ⟨nle rfl, nle rfl⟩ dX12_playerText_161 (by decide) rfl) (fun z_84 u_82 hp_83 => ?_)
                obtain ⟨hz_85, hu_86⟩ := hp_83
                subst hz_85
                subst hu_86
                refine ⟨rfl, ?_⟩
                refine S_w (ws' := [(h0, ob 11 (uF (uF (uF (uF (uF f 18 (iv pl)) 14 (iv tx)) 3 (iv (sk T n a2_59))) 4 (iv (-1))) 5 (iv dp))), (hT, ar 160 T), (hR, ar 30 (rowW R1 pl (uZ r k1 z_51)))]) rfl ?_
                have hsk_87 := sk_in (T := T) (n := n) (a := a2_59) (by omega)
                have hcm_87 := chM_or okT (a := sk T n a2_59) (by omega) (by omega)
                have him_87 := item_m hcm_87
                have hit_87 := itemOf_in (ch T n (sk T n a2_59))
                refine S_calli X (kX12_itemOf l (chM T n (sk T n a2_59)) (by omega)) (is := []) rfl (run_S X lkX12_223 (is := []) (avs := [iv (chM T n (sk T n a2_59))]) (rest := []) rfl rfl (nle rfl) ⟨nle rfl, nle rfl⟩ ⟨nle rfl, nle rfl⟩ dX12_playerText_164 (by decide) rfl) (fun z_90 u_88 hp_89 => ?_)
                obtain ⟨hz_91, hu_92⟩ := hp_89
                subst hz_91
                subst hu_92
                refine ⟨rfl, ?_⟩
                refine S_w (ws' := [(h0, ob 11 (uF (uF (uF (uF (uF f 18 (iv pl)) 14 (iv tx)) 3 (iv (sk T n a2_59))) 4 (iv (-1))) 5 (iv dp))), (hT, ar 160 T), (hR, ar 30 (rowW R1 pl (uZ r k1 z_51)))]) rfl ?_
                refine S_goto (tgt := 171) X dX12_playerText_167 (by decide) ?_
                refine S_istore_n X dX12_playerText_171 rfl (nle rfl) ?_
                refine S_goto (tgt := 90) X dX12_playerText_172 (by decide) ?_
                refine S_aload_n X dX12_playerText_90 rfl hL111_0 ?_
                refine S_get (v := iv (-1)) X fgX12_118_11 0 rfl rfl dX12_playerText_91 ?_
                refine S_iconst X dX12_playerText_94 ?_
                refine S_icmp_ne (tgt := 175) X dX12_playerText_95 (by decide) (by decide) (by decide) (fun h9 => absurd h9 (by decide)) (fun _ => ?_)
                refine S_iload_n X dX12_playerText_98 rfl rfl ?_
                refine S_iconst X dX12_playerText_99 ?_
                refine S_icmp_eq (tgt := 175) X dX12_playerText_100 (by decide) (by omega) (by decide) (fun c_94 => ?_) (fun c_94 => ?_)
                ·
                  refine S_aload_n X dX12_playerText_175 rfl hL111_0 ?_
                  refine S_dup X dX12_playerText_176 ?_
                  refine S_get (v := iv pl) X fgX12_220_11 0 rfl rfl dX12_playerText_177 ?_
                  refine S_iconst X dX12_playerText_180 ?_
                  refine S_iadd X dX12_playerText_181 ?_
                  refine S_put X fpX12_220_11 0 rfl FT_i dX12_playerText_182 ?_
                  refine S_w (ws' := [(h0, ob 11 (uF (uF (uF (uF (uF f 18 (iv (pl + 1))) 14 (iv tx)) 3 (iv (sk T n a2_59))) 4 (iv (-1))) 5 (iv dp))), (hT, ar 160 T), (hR, ar 30 (rowW R1 pl (uZ r k1 z_51)))]) (by simp only [List.set]; rw [uF_mv (j := 5) (k := 18) (by decide), uF_mv (j := 4) (k := 18) (by decide), uF_mv (j := 3) (k := 18) (by decide), uF_mv (j := 14) (k := 18) (by decide), uF_same (k := 18)]) ?_
                  exact S_vret X (nle rfl) (nle rfl) dX12_playerText_185 (hPo _ (Or.inr (Or.inr (Or.inr ⟨_, _, rfl, by omega, hkk_80.symm.trans (it_st (by omega) him_87 (by omega)), by omega⟩))))
                ·
                  refine S_iload_n X dX12_playerText_103 rfl rfl ?_
                  refine S_iload_n X dX12_playerText_104 rfl rfl ?_
                  refine S_calli X (kX12_has l (zOr seen (zShl 1 k1)) (itemOf (chM T n (sk T n a2_59))) ) (is := []) rfl (run_S X lkX12_226 (is := []) (avs := [iv (zOr seen (zShl 1 k1)), iv (itemOf (chM T n (sk T n a2_59)))]) (rest := []) rfl rfl (nle rfl) ⟨nle rfl, nle rfl⟩ ⟨nle rfl, nle rfl⟩ dX12_playerText_105 (by decide) rfl) (fun z_97 u_95 hp_96 => ?_)
                  rcases hp_96 with ⟨hz_98, hu_99, hq_100⟩ | ⟨hz_101, hu_102, hq_103⟩
                  ·
                    subst hz_98
                    subst hu_99
                    refine ⟨rfl, ?_⟩
                    refine S_w (ws' := [(h0, ob 11 (uF (uF (uF (uF (uF f 18 (iv pl)) 14 (iv tx)) 3 (iv (sk T n a2_59))) 4 (iv (-1))) 5 (iv dp))), (hT, ar 160 T), (hR, ar 30 (rowW R1 pl (uZ r k1 z_51)))]) rfl ?_
                    refine S_if_ne (tgt := 175) X dX12_playerText_108 (by decide) (by decide) (fun h9 => absurd h9 (by decide)) (fun _ => ?_)
                    exact ih111 a2_59 (itemOf (chM T n (sk T n a2_59))) (zOr seen (zShl 1 k1)) (uZ r k1 z_51) _ (by omega) (item_lt hcm_87 (by omega)) (by omega) (by omega) (by omega) (hq_100) (⟨g9, by omega, hkk_80⟩) hL111_0 hL111_1 rfl rfl (by omega)
                  ·
                    subst hz_101
                    subst hu_102
                    refine ⟨rfl, ?_⟩
                    refine S_w (ws' := [(h0, ob 11 (uF (uF (uF (uF (uF f 18 (iv pl)) 14 (iv tx)) 3 (iv (sk T n a2_59))) 4 (iv (-1))) 5 (iv dp))), (hT, ar 160 T), (hR, ar 30 (rowW R1 pl (uZ r k1 z_51)))]) rfl ?_
                    refine S_if_ne (tgt := 175) X dX12_playerText_108 (by decide) (by decide) (fun _ => ?_) (fun h9 => absurd h9 (by decide))
                    refine S_aload_n X dX12_playerText_175 rfl hL111_0 ?_
                    refine S_dup X dX12_playerText_176 ?_
                    refine S_get (v := iv pl) X fgX12_220_11 0 rfl rfl dX12_playerText_177 ?_
                    refine S_iconst X dX12_playerText_180 ?_
                    refine S_iadd X dX12_playerText_181 ?_
                    refine S_put X fpX12_220_11 0 rfl FT_i dX12_playerText_182 ?_
                    refine S_w (ws' := [(h0, ob 11 (uF (uF (uF (uF (uF f 18 (iv (pl + 1))) 14 (iv tx)) 3 (iv (sk T n a2_59))) 4 (iv (-1))) 5 (iv dp))), (hT, ar 160 T), (hR, ar 30 (rowW R1 pl (uZ r k1 z_51)))]) (by simp only [List.set]; rw [uF_mv (j := 5) (k := 18) (by decide), uF_mv (j := 4) (k := 18) (by decide), uF_mv (j := 3) (k := 18) (by decide), uF_mv (j := 14) (k := 18) (by decide), uF_same (k := 18)]) ?_
                    exact S_vret X (nle rfl) (nle rfl) dX12_playerText_185 (hPo _ (Or.inr (Or.inr (Or.inl ⟨_, _, rfl, by omega, hkk_80.symm.trans (it_du (by omega) him_87 (by omega) hq_103), by omega, by omega, sk_idem⟩))))
            ·
              refine S_iconst X dX12_playerText_139 ?_
              refine S_goto (tgt := 144) X dX12_playerText_140 (by decide) ?_
              refine S_iload_n X dX12_playerText_144 rfl hL111_3 ?_
              refine S_calli X (kX12_highest l k1 (by omega)) (is := []) rfl (run_S X lkX12_230 (is := []) (avs := [iv k1]) (rest := [iv 1, rv h0, iv ((5 * pl) + k1), rv hR]) rfl rfl (nle rfl) ⟨nle rfl, nle rfl⟩ ⟨nle rfl, nle rfl⟩ dX12_playerText_145 (by decide) rfl) (fun z_108 u_106 hp_107 => ?_)
              obtain ⟨hz_109, hu_110⟩ := hp_107
              subst hz_109
              subst hu_110
              refine ⟨rfl, ?_⟩
              refine S_w (ws' := [(h0, ob 11 (uF (uF (uF (uF (uF f 18 (iv pl)) 14 (iv tx)) 3 (iv ((sk T n a1) + 1))) 4 (iv (-1))) 5 (iv dp))), (hT, ar 160 T), (hR, ar 30 (rowW R1 pl r))]) rfl ?_
              refine S_calli X (kX12_number l h0 hT (uF (uF f 18 (iv pl)) 14 (iv tx)) T n ((sk T n a1) + 1) (-1) dp 1 (topOf k1) hf0 hf1 (by omega) (by omega) (by omega) (by omega)) (is := [0, 1]) rfl (run_V X lkX12_233 0 rfl rfl (is := [0, 1]) (avs := [iv 1, iv (topOf k1)]) (rest := [iv ((5 * pl) + k1), rv hR]) rfl rfl (nle rfl) ⟨nle rfl, nle rfl⟩ ⟨nle rfl, nle rfl⟩ dX12_playerText_148 (by decide) rfl) (fun z_113 u_111 hp_112 => ?_)
              rcases hp_112 with ⟨a2_114, fl_115, v_116, hz_117, hu_118, hq_119, hr_120⟩ | ⟨a2_121, v_122, hz_123, hu_124, hq_125⟩
              ·
                subst hz_117
                subst hu_118
                refine ⟨rfl, ?_⟩
                refine S_w (ws' := [(h0, ob 11 (uF (uF (uF (uF (uF f 18 (iv pl)) 14 (iv tx)) 3 (iv a2_114)) 4 (iv fl_115)) 5 (iv dp))), (hT, ar 160 T), (hR, ar 30 (rowW R1 pl r))]) rfl ?_
                refine S_iast X 2 rfl (by omega) (by omega) (nle rfl) dX12_playerText_151 ?_
                refine S_w (ws' := [(h0, ob 11 (uF (uF (uF (uF (uF f 18 (iv pl)) 14 (iv tx)) 3 (iv a2_114)) 4 (iv fl_115)) 5 (iv dp))), (hT, ar 160 T), (hR, ar 30 (uZ (rowW R1 pl r) ((5 * pl) + k1) z_113))]) rfl ?_
                refine S_w (ws' := [(h0, ob 11 (uF (uF (uF (uF (uF f 18 (iv pl)) 14 (iv tx)) 3 (iv a2_114)) 4 (iv fl_115)) 5 (iv dp))), (hT, ar 160 T), (hR, ar 30 (rowW R1 pl (uZ r k1 z_113)))]) (by rw [← rowW_put (by omega)]) ?_
                refine S_aload_n X dX12_playerText_152 rfl hL111_0 ?_
                refine S_get (v := iv fl_115) X fgX12_118_11 0 rfl rfl dX12_playerText_153 ?_
                refine S_iconst X dX12_playerText_156 ?_
                refine S_icmp_ne (tgt := 170) X dX12_playerText_157 (by decide) (by omega) (by decide) (fun c_127 => ?_) (fun c_127 => ?_)
                ·
                  refine S_iconst X dX12_playerText_170 ?_
                  refine S_istore_n X dX12_playerText_171 rfl (nle rfl) ?_
                  refine S_goto (tgt := 90) X dX12_playerText_172 (by decide) ?_
                  refine S_aload_n X dX12_playerText_90 rfl hL111_0 ?_
                  refine S_get (v := iv fl_115) X fgX12_118_11 0 rfl rfl dX12_playerText_91 ?_
                  refine S_iconst X dX12_playerText_94 ?_
                  refine S_icmp_ne (tgt := 175) X dX12_playerText_95 (by decide) (by omega) (by decide) (fun c_128 => ?_) (fun c_128 => by exfalso; omega)
                  refine S_aload_n X dX12_playerText_175 rfl hL111_0 ?_
                  refine S_dup X dX12_playerText_176 ?_
                  refine S_get (v := iv pl) X fgX12_220_11 0 rfl rfl dX12_playerText_177 ?_
                  refine S_iconst X dX12_playerText_180 ?_
                  refine S_iadd X dX12_playerText_181 ?_
                  refine S_put X fpX12_220_11 0 rfl FT_i dX12_playerText_182 ?_
                  refine S_w (ws' := [(h0, ob 11 (uF (uF (uF (uF (uF f 18 (iv (pl + 1))) 14 (iv tx)) 3 (iv a2_114)) 4 (iv fl_115)) 5 (iv dp))), (hT, ar 160 T), (hR, ar 30 (rowW R1 pl (uZ r k1 z_113)))]) (by simp only [List.set]; rw [uF_mv (j := 5) (k := 18) (by decide), uF_mv (j := 4) (k := 18) (by decide), uF_mv (j := 3) (k := 18) (by decide), uF_mv (j := 14) (k := 18) (by decide), uF_same (k := 18)]) ?_
                  exact S_vret X (nle rfl) (nle rfl) dX12_playerText_185 (hPo _ (Or.inr (Or.inl ⟨_, _, _, rfl, by omega, hk9.symm.trans (it_nf hk1 (by omega) hse (by rw [c_43]; rfl) (gTM_t (by omega)) hq_119), by omega⟩)))
                ·
                  refine S_aload_n X dX12_playerText_160 rfl hL111_0 ?_
                  refine S_calli X (kX12_look l h0 hT (uF (uF f 18 (iv pl)) 14 (iv tx)) T n a2_114 fl_115 dp hf0 hf1 (by omega) (by omega)) (is := [0, 1]) rfl (run_V X lkX12_130 0 rfl rfl (is := [0, 1]) (avs := []) (rest := []) rfl rfl (nle rfl) ⟨nle rfl, nle rfl⟩ ⟨nle rfl, nle rfl⟩ dX12_playerText_161 (by decide) rfl) (fun z_131 u_129 hp_130 => ?_)
                  obtain ⟨hz_132, hu_133⟩ := hp_130
                  subst hz_132
                  subst hu_133
                  refine ⟨rfl, ?_⟩
                  refine S_w (ws' := [(h0, ob 11 (uF (uF (uF (uF (uF f 18 (iv pl)) 14 (iv tx)) 3 (iv (sk T n a2_114))) 4 (iv fl_115)) 5 (iv dp))), (hT, ar 160 T), (hR, ar 30 (rowW R1 pl (uZ r k1 z_113)))]) rfl ?_
                  have hsk_134 := sk_in (T := T) (n := n) (a := a + 1) (by omega)
                  have hcm_134 := chM_or okT (a := sk T n (a + 1)) (by omega) (by omega)
                  have him_134 := item_m hcm_134
                  have hit_134 := itemOf_in (ch T n (sk T n (a + 1)))
                  refine S_calli X (kX12_itemOf l (chM T n (sk T n a2_114)) (by omega)) (is := []) rfl (run_S X lkX12_223 (is := []) (avs := [iv (chM T n (sk T n a2_114))]) (rest := []) rfl rfl (nle rfl) ⟨nle rfl, nle rfl⟩ ⟨nle rfl, nle rfl⟩ dX12_playerText_164 (by decide) rfl) (fun z_137 u_135 hp_136 => ?_)
                  obtain ⟨hz_138, hu_139⟩ := hp_136
                  subst hz_138
                  subst hu_139
                  refine ⟨rfl, ?_⟩
                  refine S_w (ws' := [(h0, ob 11 (uF (uF (uF (uF (uF f 18 (iv pl)) 14 (iv tx)) 3 (iv (sk T n a2_114))) 4 (iv fl_115)) 5 (iv dp))), (hT, ar 160 T), (hR, ar 30 (rowW R1 pl (uZ r k1 z_113)))]) rfl ?_
                  refine S_goto (tgt := 171) X dX12_playerText_167 (by decide) ?_
                  refine S_istore_n X dX12_playerText_171 rfl (nle rfl) ?_
                  refine S_goto (tgt := 90) X dX12_playerText_172 (by decide) ?_
                  refine S_aload_n X dX12_playerText_90 rfl hL111_0 ?_
                  refine S_get (v := iv fl_115) X fgX12_118_11 0 rfl rfl dX12_playerText_91 ?_
                  refine S_iconst X dX12_playerText_94 ?_
                  refine S_icmp_ne (tgt := 175) X dX12_playerText_95 (by decide) (by omega) (by decide) (fun c_140 => ?_) (fun c_140 => by exfalso; omega)
                  refine S_aload_n X dX12_playerText_175 rfl hL111_0 ?_
                  refine S_dup X dX12_playerText_176 ?_
                  refine S_get (v := iv pl) X fgX12_220_11 0 rfl rfl dX12_playerText_177 ?_
                  refine S_iconst X dX12_playerText_180 ?_
                  refine S_iadd X dX12_playerText_181 ?_
                  refine S_put X fpX12_220_11 0 rfl FT_i dX12_playerText_182 ?_
                  refine S_w (ws' := [(h0, ob 11 (uF (uF (uF (uF (uF f 18 (iv (pl + 1))) 14 (iv tx)) 3 (iv (sk T n a2_114))) 4 (iv fl_115)) 5 (iv dp))), (hT, ar 160 T), (hR, ar 30 (rowW R1 pl (uZ r k1 z_113)))]) (by simp only [List.set]; rw [uF_mv (j := 5) (k := 18) (by decide), uF_mv (j := 4) (k := 18) (by decide), uF_mv (j := 3) (k := 18) (by decide), uF_mv (j := 14) (k := 18) (by decide), uF_same (k := 18)]) ?_
                  exact S_vret X (nle rfl) (nle rfl) dX12_playerText_185 (hPo _ (Or.inr (Or.inl ⟨_, _, _, rfl, by omega, hk9.symm.trans (it_nf hk1 (by omega) hse (by rw [c_43]; rfl) (gTM_t (by omega)) hq_119), by omega⟩)))
              ·
                subst hz_123
                subst hu_124
                refine ⟨rfl, ?_⟩
                refine S_w (ws' := [(h0, ob 11 (uF (uF (uF (uF (uF f 18 (iv pl)) 14 (iv tx)) 3 (iv a2_121)) 4 (iv (-1))) 5 (iv dp))), (hT, ar 160 T), (hR, ar 30 (rowW R1 pl r))]) rfl ?_
                have hno_141 := (pNum_in (T := T) (n := n) (dg := 2) (a := sk T n a1 + 1) (by omega) (by decide) hn1 (by omega)).2 _ hq_125
                dsimp only at hno_141
                refine S_iast X 2 rfl (by omega) (by omega) (nle rfl) dX12_playerText_151 ?_
                refine S_w (ws' := [(h0, ob 11 (uF (uF (uF (uF (uF f 18 (iv pl)) 14 (iv tx)) 3 (iv a2_121)) 4 (iv (-1))) 5 (iv dp))), (hT, ar 160 T), (hR, ar 30 (uZ (rowW R1 pl r) ((5 * pl) + k1) z_113))]) rfl ?_
                refine S_w (ws' := [(h0, ob 11 (uF (uF (uF (uF (uF f 18 (iv pl)) 14 (iv tx)) 3 (iv a2_121)) 4 (iv (-1))) 5 (iv dp))), (hT, ar 160 T), (hR, ar 30 (rowW R1 pl (uZ r k1 z_113)))]) (by rw [← rowW_put (by omega)]) ?_
                have hkk_142 := (it_go (f := g9) (seen := seen) (r := r) hk1 (by omega) hse (by rw [c_43]; rfl) (gTM_t (by omega)) hq_125).symm.trans hk9
                refine S_aload_n X dX12_playerText_152 rfl hL111_0 ?_
                refine S_get (v := iv (-1)) X fgX12_118_11 0 rfl rfl dX12_playerText_153 ?_
                refine S_iconst X dX12_playerText_156 ?_
                refine S_icmp_ne (tgt := 170) X dX12_playerText_157 (by decide) (by decide) (by decide) (fun h9 => absurd h9 (by decide)) (fun _ => ?_)
                refine S_aload_n X dX12_playerText_160 rfl hL111_0 ?_
                refine S_calli X (kX12_look l h0 hT (uF (uF f 18 (iv pl)) 14 (iv tx)) T n a2_121 (-1) dp hf0 hf1 (by omega) (by omega)) (is := [0, 1]) rfl (run_V X lkX12_130 0 rfl rfl (is := [0, 1]) (avs := []) (rest := []) rfl rfl (nle rfl) ⟨nle rfl, nle rfl⟩ ⟨nle rfl, nle rfl⟩ dX12_playerText_161 (by decide) rfl) (fun z_146 u_144 hp_145 => ?_)
                obtain ⟨hz_147, hu_148⟩ := hp_145
                subst hz_147
                subst hu_148
                refine ⟨rfl, ?_⟩
                refine S_w (ws' := [(h0, ob 11 (uF (uF (uF (uF (uF f 18 (iv pl)) 14 (iv tx)) 3 (iv (sk T n a2_121))) 4 (iv (-1))) 5 (iv dp))), (hT, ar 160 T), (hR, ar 30 (rowW R1 pl (uZ r k1 z_113)))]) rfl ?_
                have hsk_149 := sk_in (T := T) (n := n) (a := a2_121) (by omega)
                have hcm_149 := chM_or okT (a := sk T n a2_121) (by omega) (by omega)
                have him_149 := item_m hcm_149
                have hit_149 := itemOf_in (ch T n (sk T n a2_121))
                refine S_calli X (kX12_itemOf l (chM T n (sk T n a2_121)) (by omega)) (is := []) rfl (run_S X lkX12_223 (is := []) (avs := [iv (chM T n (sk T n a2_121))]) (rest := []) rfl rfl (nle rfl) ⟨nle rfl, nle rfl⟩ ⟨nle rfl, nle rfl⟩ dX12_playerText_164 (by decide) rfl) (fun z_152 u_150 hp_151 => ?_)
                obtain ⟨hz_153, hu_154⟩ := hp_151
                subst hz_153
                subst hu_154
                refine ⟨rfl, ?_⟩
                refine S_w (ws' := [(h0, ob 11 (uF (uF (uF (uF (uF f 18 (iv pl)) 14 (iv tx)) 3 (iv (sk T n a2_121))) 4 (iv (-1))) 5 (iv dp))), (hT, ar 160 T), (hR, ar 30 (rowW R1 pl (uZ r k1 z_113)))]) rfl ?_
                refine S_goto (tgt := 171) X dX12_playerText_167 (by decide) ?_
                refine S_istore_n X dX12_playerText_171 rfl (nle rfl) ?_
                refine S_goto (tgt := 90) X dX12_playerText_172 (by decide) ?_
                refine S_aload_n X dX12_playerText_90 rfl hL111_0 ?_
                refine S_get (v := iv (-1)) X fgX12_118_11 0 rfl rfl dX12_playerText_91 ?_
                refine S_iconst X dX12_playerText_94 ?_
                refine S_icmp_ne (tgt := 175) X dX12_playerText_95 (by decide) (by decide) (by decide) (fun h9 => absurd h9 (by decide)) (fun _ => ?_)
                refine S_iload_n X dX12_playerText_98 rfl rfl ?_
                refine S_iconst X dX12_playerText_99 ?_
                refine S_icmp_eq (tgt := 175) X dX12_playerText_100 (by decide) (by omega) (by decide) (fun c_156 => ?_) (fun c_156 => ?_)
                ·
                  refine S_aload_n X dX12_playerText_175 rfl hL111_0 ?_
                  refine S_dup X dX12_playerText_176 ?_
                  refine S_get (v := iv pl) X fgX12_220_11 0 rfl rfl dX12_playerText_177 ?_
                  refine S_iconst X dX12_playerText_180 ?_
                  refine S_iadd X dX12_playerText_181 ?_
                  refine S_put X fpX12_220_11 0 rfl FT_i dX12_playerText_182 ?_
                  refine S_w (ws' := [(h0, ob 11 (uF (uF (uF (uF (uF f 18 (iv (pl + 1))) 14 (iv tx)) 3 (iv (sk T n a2_121))) 4 (iv (-1))) 5 (iv dp))), (hT, ar 160 T), (hR, ar 30 (rowW R1 pl (uZ r k1 z_113)))]) (by simp only [List.set]; rw [uF_mv (j := 5) (k := 18) (by decide), uF_mv (j := 4) (k := 18) (by decide), uF_mv (j := 3) (k := 18) (by decide), uF_mv (j := 14) (k := 18) (by decide), uF_same (k := 18)]) ?_
                  exact S_vret X (nle rfl) (nle rfl) dX12_playerText_185 (hPo _ (Or.inr (Or.inr (Or.inr ⟨_, _, rfl, by omega, hkk_142.symm.trans (it_st (by omega) him_149 (by omega)), by omega⟩))))
                ·
                  refine S_iload_n X dX12_playerText_103 rfl rfl ?_
                  refine S_iload_n X dX12_playerText_104 rfl rfl ?_
                  refine S_calli X (kX12_has l (zOr seen (zShl 1 k1)) (itemOf (chM T n (sk T n a2_121))) ) (is := []) rfl (run_S X lkX12_226 (is := []) (avs := [iv (zOr seen (zShl 1 k1)), iv (itemOf (chM T n (sk T n a2_121)))]) (rest := []) rfl rfl (nle rfl) ⟨nle rfl, nle rfl⟩ ⟨nle rfl, nle rfl⟩ dX12_playerText_105 (by decide) rfl) (fun z_159 u_157 hp_158 => ?_)
                  rcases hp_158 with ⟨hz_160, hu_161, hq_162⟩ | ⟨hz_163, hu_164, hq_165⟩
                  ·
                    subst hz_160
                    subst hu_161
                    refine ⟨rfl, ?_⟩
                    refine S_w (ws' := [(h0, ob 11 (uF (uF (uF (uF (uF f 18 (iv pl)) 14 (iv tx)) 3 (iv (sk T n a2_121))) 4 (iv (-1))) 5 (iv dp))), (hT, ar 160 T), (hR, ar 30 (rowW R1 pl (uZ r k1 z_113)))]) rfl ?_
                    refine S_if_ne (tgt := 175) X dX12_playerText_108 (by decide) (by decide) (fun h9 => absurd h9 (by decide)) (fun _ => ?_)
                    exact ih111 a2_121 (itemOf (chM T n (sk T n a2_121))) (zOr seen (zShl 1 k1)) (uZ r k1 z_113) _ (by omega) (item_lt hcm_149 (by omega)) (by omega) (by omega) (by omega) (hq_162) (⟨g9, by omega, hkk_142⟩) hL111_0 hL111_1 rfl rfl (by omega)
                  ·
                    subst hz_163
                    subst hu_164
                    refine ⟨rfl, ?_⟩
                    refine S_w (ws' := [(h0, ob 11 (uF (uF (uF (uF (uF f 18 (iv pl)) 14 (iv tx)) 3 (iv (sk T n a2_121))) 4 (iv (-1))) 5 (iv dp))), (hT, ar 160 T), (hR, ar 30 (rowW R1 pl (uZ r k1 z_113)))]) rfl ?_
                    refine S_if_ne (tgt := 175) X dX12_playerText_108 (by decide) (by decide) (fun _ => ?_) (fun h9 => absurd h9 (by decide))
                    refine S_aload_n X dX12_playerText_175 rfl hL111_0 ?_
                    refine S_dup X dX12_playerText_176 ?_
                    refine S_get (v := iv pl) X fgX12_220_11 0 rfl rfl dX12_playerText_177 ?_
                    refine S_iconst X dX12_playerText_180 ?_
                    refine S_iadd X dX12_playerText_181 ?_
                    refine S_put X fpX12_220_11 0 rfl FT_i dX12_playerText_182 ?_
                    refine S_w (ws' := [(h0, ob 11 (uF (uF (uF (uF (uF f 18 (iv (pl + 1))) 14 (iv tx)) 3 (iv (sk T n a2_121))) 4 (iv (-1))) 5 (iv dp))), (hT, ar 160 T), (hR, ar 30 (rowW R1 pl (uZ r k1 z_113)))]) (by simp only [List.set]; rw [uF_mv (j := 5) (k := 18) (by decide), uF_mv (j := 4) (k := 18) (by decide), uF_mv (j := 3) (k := 18) (by decide), uF_mv (j := 14) (k := 18) (by decide), uF_same (k := 18)]) ?_
                    exact S_vret X (nle rfl) (nle rfl) dX12_playerText_185 (hPo _ (Or.inr (Or.inr (Or.inl ⟨_, _, rfl, by omega, hkk_142.symm.trans (it_du (by omega) him_149 (by omega) hq_165), by omega, by omega, sk_idem⟩))))
        exact lp111_3 (Int.toNat (161 - (a + 1)) + 1) (a + 1) (itemOf (chM T n (sk T n (a + 1)))) 0 row0 _ (by omega) (item_lt hcm_25 (by omega)) (by omega) (by omega) (by decide) (hq_38) (⟨6, by decide, rfl⟩) rfl rfl rfl rfl (by omega)
      ·
        subst hz_39
        subst hu_40
        refine ⟨rfl, ?_⟩
        refine S_w (ws' := [(h0, ob 11 (uF (uF (uF (uF (uF f 18 (iv pl)) 14 (iv tx)) 3 (iv (sk T n (a + 1)))) 4 (iv (-1))) 5 (iv dp))), (hT, ar 160 T), (hR, ar 30 (rowW R1 pl row0))]) rfl ?_
        refine S_if_ne (tgt := 175) X dX12_playerText_108 (by decide) (by decide) (fun _ => ?_) (fun h9 => absurd h9 (by decide))
        refine S_aload_n X dX12_playerText_175 rfl rfl ?_
        refine S_dup X dX12_playerText_176 ?_
        refine S_get (v := iv pl) X fgX12_220_11 0 rfl rfl dX12_playerText_177 ?_
        refine S_iconst X dX12_playerText_180 ?_
        refine S_iadd X dX12_playerText_181 ?_
        refine S_put X fpX12_220_11 0 rfl FT_i dX12_playerText_182 ?_
        refine S_w (ws' := [(h0, ob 11 (uF (uF (uF (uF (uF f 18 (iv (pl + 1))) 14 (iv tx)) 3 (iv (sk T n (a + 1)))) 4 (iv (-1))) 5 (iv dp))), (hT, ar 160 T), (hR, ar 30 (rowW R1 pl row0))]) (by simp only [List.set]; rw [uF_mv (j := 5) (k := 18) (by decide), uF_mv (j := 4) (k := 18) (by decide), uF_mv (j := 3) (k := 18) (by decide), uF_mv (j := 14) (k := 18) (by decide), uF_same (k := 18)]) ?_
        exact S_vret X (nle rfl) (nle rfl) dX12_playerText_185 (hPo _ (Or.inr (Or.inr (Or.inl ⟨_, _, rfl, by omega, Eq.trans (rfl : pIt T n true 6 0 (a + 1) row0 = pIt T n true 6 0 (a + 1) row0) (it_du (by omega) him_25 (by omega) hq_41), by omega, by omega, sk_idem⟩))))
  ·
    refine S_aload_n X dX12_playerText_9 rfl rfl ?_
    refine S_callv X (kX12_bad l h0 (uF (uF f 18 (iv pl)) 14 (iv tx)) a (-1) dp (by omega)) (is := [0]) rfl (run_V X lkX12_127 0 rfl rfl (is := [0]) (avs := []) (rest := []) rfl rfl (nle rfl) ⟨nle rfl, nle rfl⟩ ⟨nle rfl, nle rfl⟩ dX12_playerText_10 (by decide) rfl) (fun u_169 hp_170 => ?_)
    have hu_173 := hp_170
    subst hu_173
    refine ⟨rfl, ?_⟩
    refine S_w (ws' := [(h0, ob 11 (uF (uF (uF (uF (uF f 18 (iv pl)) 14 (iv tx)) 3 (iv a)) 4 (iv a)) 5 (iv dp))), (hT, ar 160 T), (hR, ar 30 R1)]) rfl ?_
    exact S_vret X (nle rfl) (nle rfl) dX12_playerText_13 (hPo _ (Or.inl ⟨rfl, by omega⟩))
