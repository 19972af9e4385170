theorem itemOf_no {c : Int} (h : c ≠ 98 ∧ c ≠ 100 ∧ c ≠ 107 ∧ c ≠ 102 ∧ c ≠ 104) : itemOf c = -1 := by
  unfold itemOf
  rw [if_neg h.1, if_neg h.2.1, if_neg h.2.2.1, if_neg h.2.2.2.1, if_neg h.2.2.2.2]
theorem zAnd1 (x : Int) : zAnd x 1 = 0 ∨ zAnd x 1 = 1 := by
  unfold zAnd
  have h := pk_andE (i32 x) (m := 1) 1 (by decide)
  obtain ⟨j, h1, h2⟩ := h
  have e : i32 1 = 1 := by decide
  rw [e, h2, nI_toInt (by omega)]
  omega
/-- what a reading of a TOWN holds on its way -/
def okTS (s : TS) : Prop := (0 ≤ s.1 ∧ s.1 ≤ 6) ∧ (1 ≤ s.2.1 ∧ s.2.1 ≤ 99) ∧ (s.2.2.1 = 0 ∨ s.2.2.1 = 1) ∧ ∀ j, 0 ≤ j → j < s.1 → okRow (s.2.2.2 j)
theorem colR_pe {R : Int → Int → Int} {q k v : Int} : colR (uZ R q (uZ (R q) k v)) k = uZ (colR R k) q v := by rw [colR_put, uZ_at]
theorem colR_pn {R : Int → Int → Int} {q k v j : Int} (h : ¬ j = k) : colR (uZ R q (uZ (R q) k v)) j = colR R j := by
  rw [colR_put, uZ_ne h]
  exact uZ_self
theorem pIt_m {T : Int → Int} {n : Int} (hn : n ≤ 160) {a mt : Int} (h0 : 0 ≤ a) (ha : a ≤ n) (hm : 1 ≤ mt ∧ mt ≤ 99) : (∀ f, pIt T n false 6 0 a (fun _ => mt) = .inl f → a ≤ f ∧ f ≤ n) ∧ (∀ q, pIt T n false 6 0 a (fun _ => mt) = .inr q → a ≤ q.1 ∧ q.1 ≤ n ∧ 1 ≤ q.2 0 ∧ q.2 0 ≤ 99) := by
  have key : ∀ (k : Nat) (seen a : Int) (r : Int → Int), 0 ≤ a → a ≤ n → (1 ≤ r 0 ∧ r 0 ≤ 99) → (∀ f, pIt T n false k seen a r = .inl f → a ≤ f ∧ f ≤ n) ∧ (∀ q, pIt T n false k seen a r = .inr q → a ≤ q.1 ∧ q.1 ≤ n ∧ 1 ≤ q.2 0 ∧ q.2 0 ≤ 99) := by
    intro k
    induction k with
    | zero =>
      intro seen a r h0 ha hr
      refine ⟨fun f hf => ?_, fun q hq => (by cases hq)⟩
      cases hf
      omega
    | succ k ih =>
      intro seen a r h0 ha hr
      have h1 := sk_in (T := T) ha
      rw [pIt]
      split
      · refine ⟨fun f hf => (by cases hf), fun q hq => ?_⟩
        cases hq
        exact ⟨h1.1, h1.2, hr⟩
      · next hi =>
        split
        · refine ⟨fun f hf => ?_, fun q hq => (by cases hq)⟩
          cases hf
          omega
        · next h5 =>
          have hit : 0 ≤ itemOf (ch T n (sk T n a)) ∧ itemOf (ch T n (sk T n a)) ≤ 4 := (itemOf_in _).resolve_left hi
          have hi0 : itemOf (ch T n (sk T n a)) = 0 := by
            rcases Decidable.em (itemOf (ch T n (sk T n a)) = 0) with e | e
            · exact e
            · exact absurd (Or.inl ⟨rfl, e⟩) h5
          have hlt : sk T n a < n := by
            rcases Int.lt_or_le (sk T n a) n with q | q
            · exact q
            · exfalso
              apply hi
              unfold ch
              rw [if_neg (by omega)]
              rfl
          have hg := gT_in hit
          have h2 := pNum_in (T := T) (n := n) (dg := 2) (lo := gTL (itemOf (ch T n (sk T n a)))) (hi := gTM (itemOf (ch T n (sk T n a)))) (a := sk T n a + 1) (by omega) (by decide) hn (by omega)
          cases hp : pNum T n 2 (gTL (itemOf (ch T n (sk T n a)))) (gTM (itemOf (ch T n (sk T n a)))) (sk T n a + 1) with
          | inl f =>
            refine ⟨fun f' hf => ?_, fun q hq => (by cases hq)⟩
            cases hf
            have := h2.1 f hp
            omega
          | inr q =>
            have h3 := h2.2 q hp
            have hv : 1 ≤ q.2 ∧ q.2 ≤ 99 := by
              have e1 : gTL (itemOf (ch T n (sk T n a))) = 1 := by rw [hi0]; rfl
              have e2 : gTM (itemOf (ch T n (sk T n a))) = 99 := by rw [hi0]; rfl
              rw [e1, e2] at h3
              exact h3.2.2
            have h4 := ih (zOr seen (zShl 1 (itemOf (ch T n (sk T n a))))) q.1 (uZ r (itemOf (ch T n (sk T n a))) q.2) (by omega) h3.2.1 (by rw [hi0, uZ_at]; exact hv)
            exact ⟨fun f hf => by have := h4.1 f hf; omega, fun q' hq => by have := h4.2 q' hq; exact ⟨by omega, this.2⟩⟩
  exact key 6 0 a _ h0 ha hm
theorem pCl_in {T : Int → Int} {n a : Int} {s : TS} (hn : n ≤ 160) (h0 : 0 ≤ a) (ha : a ≤ n) (hs : okTS s) : (∀ f, pCl T n a s = .inl f → 0 ≤ f ∧ f ≤ n) ∧ (∀ q, pCl T n a s = .inr q → a < q.1 ∧ q.1 ≤ n ∧ okTS q.2) := by
  have h1 := sk_in (T := T) ha
  obtain ⟨s1, s2, s3, s4⟩ := hs
  unfold pCl
  split
  · next h2 =>
    have h3 : sk T n a < n := ch_lt (T := T) (by omega)
    have h4 := pIt_in (T := T) (n := n) (ofP := true) hn 6 0 (sk T n a + 1) row0 (by omega) (by omega) okRow_row0
    cases hp : pIt T n true 6 0 (sk T n a + 1) row0 with
    | inl f => exact ⟨fun f' e => by cases e; have := h4.1 f hp; omega, fun q e => by cases e⟩
    | inr q =>
      have h5 := h4.2 q hp
      refine ⟨fun f' e => (by cases e), fun q' e => ?_⟩
      cases e
      refine ⟨by show _ < q.1; omega, h5.2.1, ⟨by show 0 ≤ s.1 + 1 ∧ s.1 + 1 ≤ 6; omega, s2, s3, fun j j0 j1 => ?_⟩⟩
      show okRow (uZ s.2.2.2 s.1 q.2 j)
      have j2 : j < s.1 + 1 := j1
      unfold uZ
      split
      · exact h5.2.2
      · exact s4 j j0 (by omega)
  · split
    · next h2 =>
      have h3 : sk T n a < n := ch_lt (T := T) (by omega)
      have h4 := pIt_m (T := T) hn (a := sk T n a + 1) (by omega) (by omega) s2
      cases hp : pIt T n false 6 0 (sk T n a + 1) (fun _ => s.2.1) with
      | inl f => exact ⟨fun f' e => by cases e; have := h4.1 f hp; omega, fun q e => by cases e⟩
      | inr q =>
        have h5 := h4.2 q hp
        refine ⟨fun f' e => (by cases e), fun q' e => ?_⟩
        cases e
        exact ⟨by show _ < q.1; omega, h5.2.1, s1, h5.2.2, Or.inr rfl, s4⟩
    · exact ⟨fun f' e => by cases e; omega, fun q e => by cases e⟩
/-- a TEXT as a TOWN: its fault, or what it tells -/
noncomputable def tnRes (T : Int → Int) (n : Int) (R : Int → Int → Int) : Int ⊕ TS := match pTnL T n 161 0 (0, 60, 0, R) with
  | .inl f => .inl f
  | .inr q => @ite _ (okTn q.2) (Classical.propDecidable _) (.inr q.2) (.inl n)
theorem tnRes_f {T : Int → Int} {n f : Int} {R : Int → Int → Int} (h : pTnL T n 161 0 (0, 60, 0, R) = .inl f) : tnRes T n R = .inl f := by unfold tnRes; rw [h]
theorem tnRes_n {T : Int → Int} {n : Int} {R : Int → Int → Int} {q : Int × TS} (h : pTnL T n 161 0 (0, 60, 0, R) = .inr q) (h2 : ¬ okTn q.2) : tnRes T n R = .inl n := by unfold tnRes; rw [h]; exact if_neg h2
theorem tnRes_y {T : Int → Int} {n : Int} {R : Int → Int → Int} {q : Int × TS} (h : pTnL T n 161 0 (0, 60, 0, R) = .inr q) (h2 : okTn q.2) : tnRes T n R = .inr q.2 := by unfold tnRes; rw [h]; exact if_pos h2
theorem pTnL_f {T : Int → Int} {n a f : Int} {s : TS} {k : Nat} (h : pCl T n a s = .inl f) : pTnL T n (k + 1) a s = .inl f := by rw [pTnL, h]
theorem pTnL_e {T : Int → Int} {n a : Int} {s : TS} {q : Int × TS} {k : Nat} (h : pCl T n a s = .inr q) (h2 : ch T n (sk T n q.1) = 0) : pTnL T n (k + 1) a s = .inr (sk T n q.1, q.2) := by rw [pTnL, h]; exact if_pos h2
theorem pTnL_g {T : Int → Int} {n a : Int} {s : TS} {q : Int × TS} {k : Nat} (h : pCl T n a s = .inr q) (h2 : ¬ ch T n (sk T n q.1) = 0) (h3 : ch T n (sk T n q.1) = 59) : pTnL T n (k + 1) a s = pTnL T n k (sk T n q.1 + 1) q.2 := by
  rw [pTnL, h]
  exact (if_neg h2).trans (if_pos h3)
theorem pTnL_n {T : Int → Int} {n a : Int} {s : TS} {q : Int × TS} {k : Nat} (h : pCl T n a s = .inr q) (h2 : ¬ ch T n (sk T n q.1) = 0) (h3 : ¬ ch T n (sk T n q.1) = 59) : pTnL T n (k + 1) a s = .inl (sk T n q.1) := by
  rw [pTnL, h]
  exact (if_neg h2).trans (if_neg h3)
theorem fuel161 {i : Int} (h0 : 0 ≤ i) (h : i ≤ 160) : 161 - i.toNat = (161 - (i + 1).toNat) + 1 := by omega
theorem pCl_p {T : Int → Int} {n a b : Int} {s : TS} {r : Int → Int} (h : ch T n (sk T n a) = 112 ∧ s.1 < 6) (h2 : pIt T n true 6 0 (sk T n a + 1) row0 = .inr (b, r)) : pCl T n a s = .inr (b, (s.1 + 1, s.2.1, s.2.2.1, uZ s.2.2.2 s.1 r)) := by unfold pCl; rw [if_pos h, h2]
theorem pCl_pf {T : Int → Int} {n a f : Int} {s : TS} (h : ch T n (sk T n a) = 112 ∧ s.1 < 6) (h2 : pIt T n true 6 0 (sk T n a + 1) row0 = .inl f) : pCl T n a s = .inl f := by unfold pCl; rw [if_pos h, h2]
theorem pCl_m {T : Int → Int} {n a b : Int} {s : TS} {r : Int → Int} (h : ch T n (sk T n a) = 109 ∧ s.2.2.1 = 0) (h2 : pIt T n false 6 0 (sk T n a + 1) (fun _ => s.2.1) = .inr (b, r)) : pCl T n a s = .inr (b, (s.1, r 0, 1, s.2.2.2)) := by unfold pCl; rw [if_neg (by omega), if_pos h, h2]
theorem pCl_mf {T : Int → Int} {n a f : Int} {s : TS} (h : ch T n (sk T n a) = 109 ∧ s.2.2.1 = 0) (h2 : pIt T n false 6 0 (sk T n a + 1) (fun _ => s.2.1) = .inl f) : pCl T n a s = .inl f := by unfold pCl; rw [if_neg (by omega), if_pos h, h2]
theorem pCl_n {T : Int → Int} {n a : Int} {s : TS} (h : ¬ (ch T n (sk T n a) = 112 ∧ s.1 < 6)) (h2 : ¬ (ch T n (sk T n a) = 109 ∧ s.2.2.1 = 0)) : pCl T n a s = .inl (sk T n a) := by unfold pCl; rw [if_neg h, if_neg h2]
set_option maxHeartbeats 4000000 in
set_option maxRecDepth 100000 in
theorem kX9_itemOf (l : Launch) (x : Int) (hx : inR x) : AMi l yX9_itemOf cX9_itemOf 1 .int 0 0 0 [iv x] [] (fun z u => z = itemOf x ∧ u = []) := by
  refine AMi.of2 rfl (nle rfl) ?_
  intro D G A p e s m args below meth c Po hPo X
  refine S_iload_n X dX9_itemOf_0 rfl rfl ?_
  by_cases hs_1 : x = 98
  · refine S_tswIn (j := 0) (tgt := 56) X dX9_itemOf_1 hs_1 rfl (by decide) (by decide) ?_
    refine S_iconst X dX9_itemOf_56 ?_
    exact S_iret X (nle rfl) (nle rfl) dX9_itemOf_57 (hPo _ _ (⟨by rw [hs_1]; rfl, rfl⟩))
  by_cases hs_2 : x = 100
  · refine S_tswIn (j := 2) (tgt := 58) X dX9_itemOf_1 hs_2 rfl (by decide) (by decide) ?_
    refine S_iconst X dX9_itemOf_58 ?_
    exact S_iret X (nle rfl) (nle rfl) dX9_itemOf_59 (hPo _ _ (⟨by rw [hs_2]; rfl, rfl⟩))
  by_cases hs_3 : x = 102
  · refine S_tswIn (j := 4) (tgt := 62) X dX9_itemOf_1 hs_3 rfl (by decide) (by decide) ?_
    refine S_iconst X dX9_itemOf_62 ?_
    exact S_iret X (nle rfl) (nle rfl) dX9_itemOf_63 (hPo _ _ (⟨by rw [hs_3]; rfl, rfl⟩))
  by_cases hs_4 : x = 104
  · refine S_tswIn (j := 6) (tgt := 64) X dX9_itemOf_1 hs_4 rfl (by decide) (by decide) ?_
    refine S_iconst X dX9_itemOf_64 ?_
    exact S_iret X (nle rfl) (nle rfl) dX9_itemOf_65 (hPo _ _ (⟨by rw [hs_4]; rfl, rfl⟩))
  by_cases hs_5 : x = 107
  · refine S_tswIn (j := 9) (tgt := 60) X dX9_itemOf_1 hs_5 rfl (by decide) (by decide) ?_
    refine S_iconst X dX9_itemOf_60 ?_
    exact S_iret X (nle rfl) (nle rfl) dX9_itemOf_61 (hPo _ _ (⟨by rw [hs_5]; rfl, rfl⟩))
  by_cases hs_6 : x = 99
  · refine S_tswIn (j := 1) (tgt := 66) X dX9_itemOf_1 hs_6 rfl (by decide) (by decide) ?_
    refine S_iconst X dX9_itemOf_66 ?_
    exact S_iret X (nle rfl) (nle rfl) dX9_itemOf_67 (hPo _ _ (⟨(itemOf_no (by omega)).symm, rfl⟩))
  by_cases hs_7 : x = 101
  · refine S_tswIn (j := 3) (tgt := 66) X dX9_itemOf_1 hs_7 rfl (by decide) (by decide) ?_
    refine S_iconst X dX9_itemOf_66 ?_
    exact S_iret X (nle rfl) (nle rfl) dX9_itemOf_67 (hPo _ _ (⟨(itemOf_no (by omega)).symm, rfl⟩))
  by_cases hs_8 : x = 103
  · refine S_tswIn (j := 5) (tgt := 66) X dX9_itemOf_1 hs_8 rfl (by decide) (by decide) ?_
    refine S_iconst X dX9_itemOf_66 ?_
    exact S_iret X (nle rfl) (nle rfl) dX9_itemOf_67 (hPo _ _ (⟨(itemOf_no (by omega)).symm, rfl⟩))
  by_cases hs_9 : x = 105
  · refine S_tswIn (j := 7) (tgt := 66) X dX9_itemOf_1 hs_9 rfl (by decide) (by decide) ?_
    refine S_iconst X dX9_itemOf_66 ?_
    exact S_iret X (nle rfl) (nle rfl) dX9_itemOf_67 (hPo _ _ (⟨(itemOf_no (by omega)).symm, rfl⟩))
  by_cases hs_10 : x = 106
  · refine S_tswIn (j := 8) (tgt := 66) X dX9_itemOf_1 hs_10 rfl (by decide) (by decide) ?_
    refine S_iconst X dX9_itemOf_66 ?_
    exact S_iret X (nle rfl) (nle rfl) dX9_itemOf_67 (hPo _ _ (⟨(itemOf_no (by omega)).symm, rfl⟩))
  refine S_tswOut (tgt := 66) X dX9_itemOf_1 (by omega) (by omega) (by decide) ?_
  refine S_iconst X dX9_itemOf_66 ?_
  exact S_iret X (nle rfl) (nle rfl) dX9_itemOf_67 (hPo _ _ (⟨(itemOf_no (by omega)).symm, rfl⟩))
set_option maxHeartbeats 4000000 in
set_option maxRecDepth 100000 in
theorem kX8_clear (l : Launch) (hd : Nat) (fd : Nat → AV) (pl : Int) (mt : Int) : AMv l yX8_clear cX8_clear 1 0 0 0 [rv hd] [(hd, ob 7 (uF (uF fd 0 (iv pl)) 1 (iv mt)))] (fun u => u = [(hd, ob 7 (uF (uF fd 0 (iv 0)) 1 (iv 60)))]) := by
  refine AMv.of2 rfl (nle rfl) ?_
  intro D G A p e s m args below meth c Po hPo hnm X
  refine S_aload_n X dX8_clear_0 rfl rfl ?_
  refine S_iconst X dX8_clear_1 ?_
  refine S_put X fpX8_31_7 0 rfl FT_i dX8_clear_2 ?_
  refine S_w (ws' := [(hd, ob 7 (uF (uF fd 0 (iv 0)) 1 (iv mt)))]) (by simp only [List.set]; rw [uF_mv (j := 1) (k := 0) (by decide), uF_same (k := 0)]) ?_
  refine S_aload_n X dX8_clear_5 rfl rfl ?_
  refine S_bipush X dX8_clear_6 rfl ?_
  refine S_put X fpX8_9_7 0 rfl FT_i dX8_clear_8 ?_
  refine S_w (ws' := [(hd, ob 7 (uF (uF fd 0 (iv 0)) 1 (iv 60)))]) (by simp only [List.set]; rw [uF_same (k := 1)]) ?_
  exact S_vret X (nle rfl) (nle rfl) dX8_clear_11 (hPo _ (rfl))
set_option maxHeartbeats 4000000 in
set_option maxRecDepth 100000 in
theorem kX9_clear (l : Launch) (h0 : Nat) (f : Nat → AV) (a : Int) (w : Int) (x : Int) (hd : Nat) (fd : Nat → AV) (pl : Int) (mt : Int) (hf0 : f 3 = rv hd) : AMv l yX9_clear cX9_clear 1 1 0 0 [rv h0] [(h0, ob 8 (uF (uF (uF f 1 (iv a)) 2 (iv w)) 4 (iv x))), (hd, ob 7 (uF (uF fd 0 (iv pl)) 1 (iv mt)))] (fun u => u = [(h0, ob 8 (uF (uF (uF f 1 (iv a)) 2 (iv w)) 4 (iv 0))), (hd, ob 7 (uF (uF fd 0 (iv 0)) 1 (iv 60)))]) := by
  refine AMv.of2 rfl (nle rfl) ?_
  intro D G A p e s m args below meth c Po hPo hnm X
  refine S_aload_n X dX9_clear_0 rfl rfl ?_
  refine S_get X fgX9_14_8 0 rfl hf0 dX9_clear_1 ?_
  refine S_callv X (kX8_clear l hd fd pl mt ) (is := [1]) rfl (run_V X lkX9_20 1 rfl rfl (is := [1]) (avs := []) (rest := []) rfl rfl (nle rfl) ⟨nle rfl, nle rfl⟩ ⟨nle rfl, nle rfl⟩ dX9_clear_4 (by decide) rfl) (fun u_1 hp_2 => ?_)
  have hu_5 := hp_2
  subst hu_5
  refine ⟨rfl, ?_⟩
  refine S_w (ws' := [(h0, ob 8 (uF (uF (uF f 1 (iv a)) 2 (iv w)) 4 (iv x))), (hd, ob 7 (uF (uF fd 0 (iv 0)) 1 (iv 60)))]) rfl ?_
  refine S_aload_n X dX9_clear_7 rfl rfl ?_
  refine S_iconst X dX9_clear_8 ?_
  refine S_put X fpX9_23_8 0 rfl (FT_b (Or.inl rfl)) dX9_clear_9 ?_
  refine S_w (ws' := [(h0, ob 8 (uF (uF (uF f 1 (iv a)) 2 (iv w)) 4 (iv 0))), (hd, ob 7 (uF (uF fd 0 (iv 0)) 1 (iv 60)))]) (by simp only [List.set]; rw [uF_same (k := 4)]) ?_
  exact S_vret X (nle rfl) (nle rfl) dX9_clear_12 (hPo _ (rfl))
set_option maxHeartbeats 4000000 in
set_option maxRecDepth 100000 in
theorem kX8_addPlayer (l : Launch) (hd : Nat) (fd : Nat → AV) (hB : Nat) (hD : Nat) (hK : Nat) (hF : Nat) (hH : Nat) (pl : Int) (mt : Int) (R : Int → Int → Int) (hf0 : fd 2 = rv hB) (hf1 : fd 3 = rv hD) (hf2 : fd 4 = rv hK) (hf3 : fd 5 = rv hF) (hf4 : fd 6 = rv hH) (hp : 0 ≤ pl ∧ pl ≤ 5) : AMv l yX8_addPlayer cX8_addPlayer 1 0 0 0 [rv hd] [(hd, ob 7 (uF (uF fd 0 (iv pl)) 1 (iv mt))), (hB, ar 6 (colR R 0)), (hD, ar 6 (colR R 1)), (hK, ar 6 (colR R 2)), (hF, ar 6 (colR R 3)), (hH, ar 6 (colR R 4))] (fun u => u = [(hd, ob 7 (uF (uF fd 0 (iv (pl + 1))) 1 (iv mt))), (hB, ar 6 (colR (uZ R pl row0) 0)), (hD, ar 6 (colR (uZ R pl row0) 1)), (hK, ar 6 (colR (uZ R pl row0) 2)), (hF, ar 6 (colR (uZ R pl row0) 3)), (hH, ar 6 (colR (uZ R pl row0) 4))]) := by
  refine AMv.of2 rfl (nle rfl) ?_
  intro D G A p e s m args below meth c Po hPo hnm X
  refine S_aload_n X dX8_addPlayer_0 rfl rfl ?_
  refine S_get (v := iv pl) X fgX8_31_7 0 rfl rfl dX8_addPlayer_1 ?_
  refine S_bipush X dX8_addPlayer_4 rfl ?_
  refine S_icmp_ge (tgt := 70) X dX8_addPlayer_6 (by decide) (by omega) (by decide) (fun c_1 => by exfalso; omega) (fun c_1 => ?_)
  refine S_aload_n X dX8_addPlayer_9 rfl rfl ?_
  refine S_get X fgX8_15_7 0 rfl hf0 dX8_addPlayer_10 ?_
  refine S_aload_n X dX8_addPlayer_13 rfl rfl ?_
  refine S_get (v := iv pl) X fgX8_31_7 0 rfl rfl dX8_addPlayer_14 ?_
  refine S_bipush X dX8_addPlayer_17 rfl ?_
  refine S_iast X 1 rfl (by omega) (by omega) (nle rfl) dX8_addPlayer_19 ?_
  refine S_w (ws' := [(hd, ob 7 (uF (uF fd 0 (iv pl)) 1 (iv mt))), (hB, ar 6 (uZ (colR R 0) pl 60)), (hD, ar 6 (colR R 1)), (hK, ar 6 (colR R 2)), (hF, ar 6 (colR R 3)), (hH, ar 6 (colR R 4))]) rfl ?_
  refine S_aload_n X dX8_addPlayer_20 rfl rfl ?_
  refine S_get X fgX8_19_7 0 rfl hf1 dX8_addPlayer_21 ?_
  refine S_aload_n X dX8_addPlayer_24 rfl rfl ?_
  refine S_get (v := iv pl) X fgX8_31_7 0 rfl rfl dX8_addPlayer_25 ?_
  refine S_iconst X dX8_addPlayer_28 ?_
  refine S_iast X 2 rfl (by omega) (by omega) (nle rfl) dX8_addPlayer_29 ?_
  refine S_w (ws' := [(hd, ob 7 (uF (uF fd 0 (iv pl)) 1 (iv mt))), (hB, ar 6 (uZ (colR R 0) pl 60)), (hD, ar 6 (uZ (colR R 1) pl 0)), (hK, ar 6 (colR R 2)), (hF, ar 6 (colR R 3)), (hH, ar 6 (colR R 4))]) rfl ?_
  refine S_aload_n X dX8_addPlayer_30 rfl rfl ?_
  refine S_get X fgX8_22_7 0 rfl hf2 dX8_addPlayer_31 ?_
  refine S_aload_n X dX8_addPlayer_34 rfl rfl ?_
  refine S_get (v := iv pl) X fgX8_31_7 0 rfl rfl dX8_addPlayer_35 ?_
  refine S_iconst X dX8_addPlayer_38 ?_
  refine S_iast X 3 rfl (by omega) (by omega) (nle rfl) dX8_addPlayer_39 ?_
  refine S_w (ws' := [(hd, ob 7 (uF (uF fd 0 (iv pl)) 1 (iv mt))), (hB, ar 6 (uZ (colR R 0) pl 60)), (hD, ar 6 (uZ (colR R 1) pl 0)), (hK, ar 6 (uZ (colR R 2) pl 0)), (hF, ar 6 (colR R 3)), (hH, ar 6 (colR R 4))]) rfl ?_
  refine S_aload_n X dX8_addPlayer_40 rfl rfl ?_
  refine S_get X fgX8_25_7 0 rfl hf3 dX8_addPlayer_41 ?_
  refine S_aload_n X dX8_addPlayer_44 rfl rfl ?_
  refine S_get (v := iv pl) X fgX8_31_7 0 rfl rfl dX8_addPlayer_45 ?_
  refine S_iconst X dX8_addPlayer_48 ?_
  refine S_iast X 4 rfl (by omega) (by omega) (nle rfl) dX8_addPlayer_49 ?_
  refine S_w (ws' := [(hd, ob 7 (uF (uF fd 0 (iv pl)) 1 (iv mt))), (hB, ar 6 (uZ (colR R 0) pl 60)), (hD, ar 6 (uZ (colR R 1) pl 0)), (hK, ar 6 (uZ (colR R 2) pl 0)), (hF, ar 6 (uZ (colR R 3) pl (-1))), (hH, ar 6 (colR R 4))]) rfl ?_
  refine S_aload_n X dX8_addPlayer_50 rfl rfl ?_
  refine S_get X fgX8_28_7 0 rfl hf4 dX8_addPlayer_51 ?_
  refine S_aload_n X dX8_addPlayer_54 rfl rfl ?_
  refine S_get (v := iv pl) X fgX8_31_7 0 rfl rfl dX8_addPlayer_55 ?_
  refine S_iconst X dX8_addPlayer_58 ?_
  refine S_iast X 5 rfl (by omega) (by omega) (nle rfl) dX8_addPlayer_59 ?_
  refine S_w (ws' := [(hd, ob 7 (uF (uF fd 0 (iv pl)) 1 (iv mt))), (hB, ar 6 (uZ (colR R 0) pl 60)), (hD, ar 6 (uZ (colR R 1) pl 0)), (hK, ar 6 (uZ (colR R 2) pl 0)), (hF, ar 6 (uZ (colR R 3) pl (-1))), (hH, ar 6 (uZ (colR R 4) pl 5))]) rfl ?_
  refine S_aload_n X dX8_addPlayer_60 rfl rfl ?_
  refine S_dup X dX8_addPlayer_61 ?_
  refine S_get (v := iv pl) X fgX8_31_7 0 rfl rfl dX8_addPlayer_62 ?_
  refine S_iconst X dX8_addPlayer_65 ?_
  refine S_iadd X dX8_addPlayer_66 ?_
  refine S_put X fpX8_31_7 0 rfl FT_i dX8_addPlayer_67 ?_
  refine S_w (ws' := [(hd, ob 7 (uF (uF fd 0 (iv (pl + 1))) 1 (iv mt))), (hB, ar 6 (uZ (colR R 0) pl 60)), (hD, ar 6 (uZ (colR R 1) pl 0)), (hK, ar 6 (uZ (colR R 2) pl 0)), (hF, ar 6 (uZ (colR R 3) pl (-1))), (hH, ar 6 (uZ (colR R 4) pl 5))]) (by simp only [List.set]; rw [uF_mv (j := 1) (k := 0) (by decide), uF_same (k := 0)]) ?_
  exact S_vret X (nle rfl) (nle rfl) dX8_addPlayer_70 (hPo _ (by simp only [colR_put]; rfl))
set_option maxHeartbeats 4000000 in
set_option maxRecDepth 100000 in
theorem kX8_put (l : Launch) (hd : Nat) (fd : Nat → AV) (hB : Nat) (hD : Nat) (hK : Nat) (hF : Nat) (hH : Nat) (pl : Int) (mt : Int) (R : Int → Int → Int) (q : Int) (it : Int) (v : Int) (hf0 : fd 2 = rv hB) (hf1 : fd 3 = rv hD) (hf2 : fd 4 = rv hK) (hf3 : fd 5 = rv hF) (hf4 : fd 6 = rv hH) (hp : 0 ≤ q ∧ q ≤ 5) (hi : 0 ≤ it ∧ it ≤ 4) : AMv l yX8_put cX8_put 4 0 0 0 [rv hd, iv q, iv it, iv v] [(hd, ob 7 (uF (uF fd 0 (iv pl)) 1 (iv mt))), (hB, ar 6 (colR R 0)), (hD, ar 6 (colR R 1)), (hK, ar 6 (colR R 2)), (hF, ar 6 (colR R 3)), (hH, ar 6 (colR R 4))] (fun u => u = [(hd, ob 7 (uF (uF fd 0 (iv pl)) 1 (iv mt))), (hB, ar 6 (colR (uZ R q (uZ (R q) it v)) 0)), (hD, ar 6 (colR (uZ R q (uZ (R q) it v)) 1)), (hK, ar 6 (colR (uZ R q (uZ (R q) it v)) 2)), (hF, ar 6 (colR (uZ R q (uZ (R q) it v)) 3)), (hH, ar 6 (colR (uZ R q (uZ (R q) it v)) 4))]) := by
  refine AMv.of2 rfl (nle rfl) ?_
  intro D G A p e s m args below meth c Po hPo hnm X
  refine S_iload_n X dX8_put_0 rfl rfl ?_
  by_cases hs_1 : it = 0
  · refine S_tswIn (j := 0) (tgt := 32) X dX8_put_1 hs_1 rfl (by decide) (by decide) ?_
    refine S_aload_n X dX8_put_32 rfl rfl ?_
    refine S_get X fgX8_15_7 0 rfl hf0 dX8_put_33 ?_
    refine S_iload_n X dX8_put_36 rfl rfl ?_
    refine S_iload_n X dX8_put_37 rfl rfl ?_
    refine S_iast X 1 rfl (by omega) (by omega) (nle rfl) dX8_put_38 ?_
    refine S_w (ws' := [(hd, ob 7 (uF (uF fd 0 (iv pl)) 1 (iv mt))), (hB, ar 6 (uZ (colR R 0) q v)), (hD, ar 6 (colR R 1)), (hK, ar 6 (colR R 2)), (hF, ar 6 (colR R 3)), (hH, ar 6 (colR R 4))]) rfl ?_
    refine S_goto (tgt := 79) X dX8_put_39 (by decide) ?_
    exact S_vret X (nle rfl) (nle rfl) dX8_put_79 (hPo _ (by subst hs_1; simp only [colR_pe]; simp [colR_pn]))
  by_cases hs_2 : it = 1
  · refine S_tswIn (j := 1) (tgt := 42) X dX8_put_1 hs_2 rfl (by decide) (by decide) ?_
    refine S_aload_n X dX8_put_42 rfl rfl ?_
    refine S_get X fgX8_19_7 0 rfl hf1 dX8_put_43 ?_
    refine S_iload_n X dX8_put_46 rfl rfl ?_
    refine S_iload_n X dX8_put_47 rfl rfl ?_
    refine S_iast X 2 rfl (by omega) (by omega) (nle rfl) dX8_put_48 ?_
    refine S_w (ws' := [(hd, ob 7 (uF (uF fd 0 (iv pl)) 1 (iv mt))), (hB, ar 6 (colR R 0)), (hD, ar 6 (uZ (colR R 1) q v)), (hK, ar 6 (colR R 2)), (hF, ar 6 (colR R 3)), (hH, ar 6 (colR R 4))]) rfl ?_
    refine S_goto (tgt := 79) X dX8_put_49 (by decide) ?_
    exact S_vret X (nle rfl) (nle rfl) dX8_put_79 (hPo _ (by subst hs_2; simp only [colR_pe]; simp [colR_pn]))
  by_cases hs_3 : it = 2
  · refine S_tswIn (j := 2) (tgt := 52) X dX8_put_1 hs_3 rfl (by decide) (by decide) ?_
    refine S_aload_n X dX8_put_52 rfl rfl ?_
    refine S_get X fgX8_22_7 0 rfl hf2 dX8_put_53 ?_
    refine S_iload_n X dX8_put_56 rfl rfl ?_
    refine S_iload_n X dX8_put_57 rfl rfl ?_
    refine S_iast X 3 rfl (by omega) (by omega) (nle rfl) dX8_put_58 ?_
    refine S_w (ws' := [(hd, ob 7 (uF (uF fd 0 (iv pl)) 1 (iv mt))), (hB, ar 6 (colR R 0)), (hD, ar 6 (colR R 1)), (hK, ar 6 (uZ (colR R 2) q v)), (hF, ar 6 (colR R 3)), (hH, ar 6 (colR R 4))]) rfl ?_
    refine S_goto (tgt := 79) X dX8_put_59 (by decide) ?_
    exact S_vret X (nle rfl) (nle rfl) dX8_put_79 (hPo _ (by subst hs_3; simp only [colR_pe]; simp [colR_pn]))
  by_cases hs_4 : it = 3
  · refine S_tswIn (j := 3) (tgt := 62) X dX8_put_1 hs_4 rfl (by decide) (by decide) ?_
    refine S_aload_n X dX8_put_62 rfl rfl ?_
    refine S_get X fgX8_25_7 0 rfl hf3 dX8_put_63 ?_
    refine S_iload_n X dX8_put_66 rfl rfl ?_
    refine S_iload_n X dX8_put_67 rfl rfl ?_
    refine S_iast X 4 rfl (by omega) (by omega) (nle rfl) dX8_put_68 ?_
    refine S_w (ws' := [(hd, ob 7 (uF (uF fd 0 (iv pl)) 1 (iv mt))), (hB, ar 6 (colR R 0)), (hD, ar 6 (colR R 1)), (hK, ar 6 (colR R 2)), (hF, ar 6 (uZ (colR R 3) q v)), (hH, ar 6 (colR R 4))]) rfl ?_
    refine S_goto (tgt := 79) X dX8_put_69 (by decide) ?_
    exact S_vret X (nle rfl) (nle rfl) dX8_put_79 (hPo _ (by subst hs_4; simp only [colR_pe]; simp [colR_pn]))
  refine S_tswOut (tgt := 72) X dX8_put_1 (by omega) (by omega) (by decide) ?_
  refine S_aload_n X dX8_put_72 rfl rfl ?_
  refine S_get X fgX8_28_7 0 rfl hf4 dX8_put_73 ?_
  refine S_iload_n X dX8_put_76 rfl rfl ?_
  refine S_iload_n X dX8_put_77 rfl rfl ?_
  refine S_iast X 5 rfl (by omega) (by omega) (nle rfl) dX8_put_78 ?_
  refine S_w (ws' := [(hd, ob 7 (uF (uF fd 0 (iv pl)) 1 (iv mt))), (hB, ar 6 (colR R 0)), (hD, ar 6 (colR R 1)), (hK, ar 6 (colR R 2)), (hF, ar 6 (colR R 3)), (hH, ar 6 (uZ (colR R 4) q v))]) rfl ?_
  exact S_vret X (nle rfl) (nle rfl) dX8_put_79 (hPo _ (by (obtain rfl : it = 4 := (by omega)); simp only [colR_pe]; simp [colR_pn]))
set_option maxHeartbeats 4000000 in
set_option maxRecDepth 100000 in
theorem kX9_keep_P (l : Launch) (h0 : Nat) (ht : Nat) (hb : Nat) (f : Nat → AV) (ft : Nat → AV) (T : Int → Int) (n : Int) (a : Int) (w : Int) (x : Int) (hd : Nat) (fd : Nat → AV) (hB : Nat) (hD : Nat) (hK : Nat) (hF : Nat) (hH : Nat) (pl : Int) (mt : Int) (R : Int → Int → Int) (it : Int) (v : Int) (q : Int) (hf0 : f 0 = rv ht) (hf1 : ft 0 = rv hb) (hf2 : ft 1 = iv n) (hf3 : f 3 = rv hd) (hf4 : fd 2 = rv hB) (hf5 : fd 3 = rv hD) (hf6 : fd 4 = rv hK) (hf7 : fd 5 = rv hF) (hf8 : fd 6 = rv hH) (hq : q = pl - 1 ∧ 0 ≤ q ∧ q ≤ 5) (hi : 0 ≤ it ∧ it ≤ 4) : AMv l yX9_keep cX9_keep 5 1 0 0 [rv h0, iv 1, iv it, iv v] [(h0, ob 8 (uF (uF (uF f 1 (iv a)) 2 (iv w)) 4 (iv x))), (ht, ob 6 ft), (hb, ar 160 T), (hd, ob 7 (uF (uF fd 0 (iv pl)) 1 (iv mt))), (hB, ar 6 (colR R 0)), (hD, ar 6 (colR R 1)), (hK, ar 6 (colR R 2)), (hF, ar 6 (colR R 3)), (hH, ar 6 (colR R 4))] (fun u => u = [(h0, ob 8 (uF (uF (uF f 1 (iv a)) 2 (iv w)) 4 (iv x))), (ht, ob 6 ft), (hb, ar 160 T), (hd, ob 7 (uF (uF fd 0 (iv pl)) 1 (iv mt))), (hB, ar 6 (colR (uZ R q (uZ (R q) it v)) 0)), (hD, ar 6 (colR (uZ R q (uZ (R q) it v)) 1)), (hK, ar 6 (colR (uZ R q (uZ (R q) it v)) 2)), (hF, ar 6 (colR (uZ R q (uZ (R q) it v)) 3)), (hH, ar 6 (colR (uZ R q (uZ (R q) it v)) 4))]) := by
  refine AMv.of2 rfl (nle rfl) ?_
  intro D G A p e s m args below meth c Po hPo hnm X
  refine S_aload_n X dX9_keep_0 rfl rfl ?_
  refine S_get X fgX9_14_8 0 rfl hf3 dX9_keep_1 ?_
  refine S_get (v := iv pl) X fgX9_31_7 3 rfl rfl dX9_keep_4 ?_
  refine S_iconst X dX9_keep_7 ?_
  refine S_isub X dX9_keep_8 ?_
  refine S_istore X dX9_keep_9 (nle rfl) ?_
  refine S_iload_n X dX9_keep_11 rfl rfl ?_
  refine S_if_ne (tgt := 26) X dX9_keep_12 (by decide) (by decide) (fun _ => ?_) (fun h9 => absurd h9 (by decide))
  refine S_iload X dX9_keep_26 rfl ?_
  refine S_if_lt (tgt := 42) X dX9_keep_28 (by decide) (by omega) (fun c_2 => by exfalso; omega) (fun c_2 => ?_)
  refine S_aload_n X dX9_keep_31 rfl rfl ?_
  refine S_get X fgX9_14_8 0 rfl hf3 dX9_keep_32 ?_
  refine S_iload X dX9_keep_35 rfl ?_
  refine S_iload_n X dX9_keep_37 rfl rfl ?_
  refine S_iload_n X dX9_keep_38 rfl rfl ?_
  refine S_callv X (kX8_put l hd fd hB hD hK hF hH pl mt R (pl - 1) it v hf4 hf5 hf6 hf7 hf8 (by omega) (by omega)) (is := [3, 4, 5, 6, 7, 8]) rfl (run_V X lkX9_71 3 rfl rfl (is := [3, 4, 5, 6, 7, 8]) (avs := [iv (pl - 1), iv it, iv v]) (rest := []) rfl rfl (nle rfl) ⟨nle rfl, nle rfl⟩ ⟨nle rfl, nle rfl⟩ dX9_keep_39 (by decide) rfl) (fun u_3 hp_4 => ?_)
  have hu_7 := hp_4
  subst hu_7
  refine ⟨rfl, ?_⟩
  refine S_w (ws' := [(h0, ob 8 (uF (uF (uF f 1 (iv a)) 2 (iv w)) 4 (iv x))), (ht, ob 6 ft), (hb, ar 160 T), (hd, ob 7 (uF (uF fd 0 (iv pl)) 1 (iv mt))), (hB, ar 6 (colR (uZ R (pl - 1) (uZ (R (pl - 1)) it v)) 0)), (hD, ar 6 (colR (uZ R (pl - 1) (uZ (R (pl - 1)) it v)) 1)), (hK, ar 6 (colR (uZ R (pl - 1) (uZ (R (pl - 1)) it v)) 2)), (hF, ar 6 (colR (uZ R (pl - 1) (uZ (R (pl - 1)) it v)) 3)), (hH, ar 6 (colR (uZ R (pl - 1) (uZ (R (pl - 1)) it v)) 4))]) rfl ?_
  exact S_vret X (nle rfl) (nle rfl) dX9_keep_42 (hPo _ (by rw [hq.1]))
set_option maxHeartbeats 4000000 in
set_option maxRecDepth 100000 in
theorem kX9_keep_M (l : Launch) (h0 : Nat) (ht : Nat) (hb : Nat) (f : Nat → AV) (ft : Nat → AV) (T : Int → Int) (n : Int) (a : Int) (w : Int) (x : Int) (hd : Nat) (fd : Nat → AV) (hB : Nat) (hD : Nat) (hK : Nat) (hF : Nat) (hH : Nat) (pl : Int) (mt : Int) (R : Int → Int → Int) (it : Int) (v : Int) (hf0 : f 0 = rv ht) (hf1 : ft 0 = rv hb) (hf2 : ft 1 = iv n) (hf3 : f 3 = rv hd) (hf4 : fd 2 = rv hB) (hf5 : fd 3 = rv hD) (hf6 : fd 4 = rv hK) (hf7 : fd 5 = rv hF) (hf8 : fd 6 = rv hH) : AMv l yX9_keep cX9_keep 5 1 0 0 [rv h0, iv 0, iv it, iv v] [(h0, ob 8 (uF (uF (uF f 1 (iv a)) 2 (iv w)) 4 (iv x))), (ht, ob 6 ft), (hb, ar 160 T), (hd, ob 7 (uF (uF fd 0 (iv pl)) 1 (iv mt))), (hB, ar 6 (colR R 0)), (hD, ar 6 (colR R 1)), (hK, ar 6 (colR R 2)), (hF, ar 6 (colR R 3)), (hH, ar 6 (colR R 4))] (fun u => u = [(h0, ob 8 (uF (uF (uF f 1 (iv a)) 2 (iv w)) 4 (iv x))), (ht, ob 6 ft), (hb, ar 160 T), (hd, ob 7 (uF (uF fd 0 (iv pl)) 1 (iv v))), (hB, ar 6 (colR R 0)), (hD, ar 6 (colR R 1)), (hK, ar 6 (colR R 2)), (hF, ar 6 (colR R 3)), (hH, ar 6 (colR R 4))]) := by
  refine AMv.of2 rfl (nle rfl) ?_
  intro D G A p e s m args below meth c Po hPo hnm X
  refine S_aload_n X dX9_keep_0 rfl rfl ?_
  refine S_get X fgX9_14_8 0 rfl hf3 dX9_keep_1 ?_
  refine S_get (v := iv pl) X fgX9_31_7 3 rfl rfl dX9_keep_4 ?_
  refine S_iconst X dX9_keep_7 ?_
  refine S_isub X dX9_keep_8 ?_
  refine S_istore X dX9_keep_9 (nle rfl) ?_
  refine S_iload_n X dX9_keep_11 rfl rfl ?_
  refine S_if_ne (tgt := 26) X dX9_keep_12 (by decide) (by decide) (fun h9 => absurd h9 (by decide)) (fun _ => ?_)
  refine S_aload_n X dX9_keep_15 rfl rfl ?_
  refine S_get X fgX9_14_8 0 rfl hf3 dX9_keep_16 ?_
  refine S_iload_n X dX9_keep_19 rfl rfl ?_
  refine S_put X fpX9_68_7 3 rfl FT_i dX9_keep_20 ?_
  refine S_w (ws' := [(h0, ob 8 (uF (uF (uF f 1 (iv a)) 2 (iv w)) 4 (iv x))), (ht, ob 6 ft), (hb, ar 160 T), (hd, ob 7 (uF (uF fd 0 (iv pl)) 1 (iv v))), (hB, ar 6 (colR R 0)), (hD, ar 6 (colR R 1)), (hK, ar 6 (colR R 2)), (hF, ar 6 (colR R 3)), (hH, ar 6 (colR R 4))]) (by simp only [List.set]; rw [uF_same (k := 1)]) ?_
  refine S_goto (tgt := 42) X dX9_keep_23 (by decide) ?_
  exact S_vret X (nle rfl) (nle rfl) dX9_keep_42 (hPo _ (rfl))
set_option maxHeartbeats 4000000 in
set_option maxRecDepth 100000 in
theorem kX9_readItems_P (l : Launch) (h0 : Nat) (ht : Nat) (hb : Nat) (f : Nat → AV) (ft : Nat → AV) (T : Int → Int) (n : Int) (a : Int) (w : Int) (x : Int) (hd : Nat) (fd : Nat → AV) (hB : Nat) (hD : Nat) (hK : Nat) (hF : Nat) (hH : Nat) (pl : Int) (mt : Int) (R : Int → Int → Int) (q : Int) (hf0 : f 0 = rv ht) (hf1 : ft 0 = rv hb) (hf2 : ft 1 = iv n) (hf3 : f 3 = rv hd) (hf4 : fd 2 = rv hB) (hf5 : fd 3 = rv hD) (hf6 : fd 4 = rv hK) (hf7 : fd 5 = rv hF) (hf8 : fd 6 = rv hH) (hT : okT T n) (ha : 0 ≤ a ∧ a ≤ n) (hq : q = pl - 1 ∧ 0 ≤ q ∧ q ≤ 5) : AMi l yX9_readItems cX9_readItems 6 .boolean 3 0 0 [rv h0, iv 1] [(h0, ob 8 (uF (uF (uF f 1 (iv a)) 2 (iv w)) 4 (iv x))), (ht, ob 6 ft), (hb, ar 160 T), (hd, ob 7 (uF (uF fd 0 (iv pl)) 1 (iv mt))), (hB, ar 6 (colR (uZ R q row0) 0)), (hD, ar 6 (colR (uZ R q row0) 1)), (hK, ar 6 (colR (uZ R q row0) 2)), (hF, ar 6 (colR (uZ R q row0) 3)), (hH, ar 6 (colR (uZ R q row0) 4))] (fun z u => (∃ a2 : Int, ∃ fl : Int, ∃ R2 : Int → Int → Int, z = 0 ∧ u = [(h0, ob 8 (uF (uF (uF f 1 (iv a2)) 2 (iv fl)) 4 (iv x))), (ht, ob 6 ft), (hb, ar 160 T), (hd, ob 7 (uF (uF fd 0 (iv pl)) 1 (iv mt))), (hB, ar 6 (colR R2 0)), (hD, ar 6 (colR R2 1)), (hK, ar 6 (colR R2 2)), (hF, ar 6 (colR R2 3)), (hH, ar 6 (colR R2 4))] ∧ pIt T n true 6 0 a row0 = .inl fl ∧ (0 ≤ a2 ∧ a2 ≤ n)) ∨ (∃ a2 : Int, ∃ r2 : Int → Int, z = 1 ∧ u = [(h0, ob 8 (uF (uF (uF f 1 (iv a2)) 2 (iv w)) 4 (iv x))), (ht, ob 6 ft), (hb, ar 160 T), (hd, ob 7 (uF (uF fd 0 (iv pl)) 1 (iv mt))), (hB, ar 6 (colR (uZ R q r2) 0)), (hD, ar 6 (colR (uZ R q r2) 1)), (hK, ar 6 (colR (uZ R q r2) 2)), (hF, ar 6 (colR (uZ R q r2) 3)), (hH, ar 6 (colR (uZ R q r2) 4))] ∧ pIt T n true 6 0 a row0 = .inr (a2, r2))) := by
  refine AMi.of2 rfl (nle rfl) ?_
  intro D G A p e s m args below meth c Po hPo X
  obtain ⟨hn0, hn1, hT2⟩ := id hT
  refine S_iconst X dX9_readItems_0 ?_
  refine S_istore_n X dX9_readItems_1 rfl (nle rfl) ?_
  refine S_iconst X dX9_readItems_2 ?_
  refine S_istore_n X dX9_readItems_3 rfl (nle rfl) ?_
  have lp4_0 : ∀ (N : Nat) (i : Int) (a1 : Int) (seen : Int) (r : Int → Int) (L : Nat → Option AV), 0 ≤ i ∧ i ≤ 6 ∧ 0 ≤ a1 ∧ a1 ≤ n → (∀ z9, pIt T n true (6 - i.toNat) seen a1 r = z9 → pIt T n true 6 0 a row0 = z9) → L 0 = some (rv h0) → L 1 = some (iv 1) → L 2 = some (iv seen) → L 3 = some (iv i) → 7 - i < (N : Int) → S_ p l e (rmD 3 0 0) s m args below meth c (MQ below (QcI D G A Po) args s 0 0 A) D G A 6 0 0 4 L [] [(h0, ob 8 (uF (uF (uF f 1 (iv a1)) 2 (iv w)) 4 (iv x))), (ht, ob 6 ft), (hb, ar 160 T), (hd, ob 7 (uF (uF fd 0 (iv pl)) 1 (iv mt))), (hB, ar 6 (colR (uZ R q r) 0)), (hD, ar 6 (colR (uZ R q r) 1)), (hK, ar 6 (colR (uZ R q r) 2)), (hF, ar 6 (colR (uZ R q r) 3)), (hH, ar 6 (colR (uZ R q r) 4))] := by
    intro N
    induction N with
    | zero =>
      intro i a1 seen r L4 hi hk hL4_0 hL4_1 hL4_2 hL4_3 hN4
      exfalso; omega
    | succ N ih4 =>
      intro i a1 seen r L4 hi hk hL4_0 hL4_1 hL4_2 hL4_3 hN4
      refine S_iload_n X dX9_readItems_4 rfl hL4_3 ?_
      refine S_iconst X dX9_readItems_5 ?_
      refine S_icmp_gt (tgt := 108) X dX9_readItems_6 (by decide) (by omega) (by decide) (fun c_1 => ?_) (fun c_1 => ?_)
      ·
        refine S_aload_n X dX9_readItems_108 rfl hL4_0 ?_
        refine S_calli X (kX5_fail_8 l h0 ht hb f ft T n a1 w x hf0 hf1 hf2) (is := [0, 1, 2]) rfl (run_U X lkX9_45_8 0 rfl rfl (is := [0, 1, 2]) (avs := []) (rest := []) rfl rfl (nle rfl) ⟨nle rfl, nle rfl⟩ ⟨nle rfl, nle rfl⟩ dX9_readItems_109 (by decide) rfl) (fun z_4 u_2 hp_3 => ?_)
        obtain ⟨hz_5, hu_6⟩ := hp_3
        subst hz_5
        subst hu_6
        refine ⟨rfl, ?_⟩
        refine S_w (ws' := [(h0, ob 8 (uF (uF (uF f 1 (iv a1)) 2 (iv a1)) 4 (iv x))), (ht, ob 6 ft), (hb, ar 160 T), (hd, ob 7 (uF (uF fd 0 (iv pl)) 1 (iv mt))), (hB, ar 6 (colR (uZ R q r) 0)), (hD, ar 6 (colR (uZ R q r) 1)), (hK, ar 6 (colR (uZ R q r) 2)), (hF, ar 6 (colR (uZ R q r) 3)), (hH, ar 6 (colR (uZ R q r) 4))]) rfl ?_
        exact S_zret X (Or.inl rfl) (nle rfl) (nle rfl) dX9_readItems_112 (hPo _ _ (Or.inl ⟨_, _, _, rfl, rfl, hk _ (by rw [show 6 - i.toNat = 0 by omega]; rfl), by omega, by omega⟩))
      ·
        refine S_aload_n X dX9_readItems_9 rfl hL4_0 ?_
        refine S_calli X (kX5_peek_8 l h0 ht hb f ft T n a1 w x hf0 hf1 hf2 (by omega) (by omega)) (is := [0, 1, 2]) rfl (run_U X lkX9_27_8 0 rfl rfl (is := [0, 1, 2]) (avs := []) (rest := []) rfl rfl (nle rfl) ⟨nle rfl, nle rfl⟩ ⟨nle rfl, nle rfl⟩ dX9_readItems_10 (by decide) rfl) (fun z_9 u_7 hp_8 => ?_)
        obtain ⟨hz_10, hu_11⟩ := hp_8
        subst hz_10
        subst hu_11
        refine ⟨rfl, ?_⟩
        refine S_w (ws' := [(h0, ob 8 (uF (uF (uF f 1 (iv (sk T n a1))) 2 (iv w)) 4 (iv x))), (ht, ob 6 ft), (hb, ar 160 T), (hd, ob 7 (uF (uF fd 0 (iv pl)) 1 (iv mt))), (hB, ar 6 (colR (uZ R q r) 0)), (hD, ar 6 (colR (uZ R q r) 1)), (hK, ar 6 (colR (uZ R q r) 2)), (hF, ar 6 (colR (uZ R q r) 3)), (hH, ar 6 (colR (uZ R q r) 4))]) rfl ?_
        have hsk := sk_in (T := T) (n := n) (a := a1) (by omega)
        have hch := ch_in (a := sk T n a1) hT (by omega)
        have hit := itemOf_in (ch T n (sk T n a1))
        refine S_calli X (kX9_itemOf l (ch T n (sk T n a1)) (by omega)) (is := []) rfl (run_S X lkX9_49 (is := []) (avs := [iv (ch T n (sk T n a1))]) (rest := []) rfl rfl (nle rfl) ⟨nle rfl, nle rfl⟩ ⟨nle rfl, nle rfl⟩ dX9_readItems_13 (by decide) rfl) (fun z_14 u_12 hp_13 => ?_)
        obtain ⟨hz_15, hu_16⟩ := hp_13
        subst hz_15
        subst hu_16
        refine ⟨rfl, ?_⟩
        refine S_w (ws' := [(h0, ob 8 (uF (uF (uF f 1 (iv (sk T n a1))) 2 (iv w)) 4 (iv x))), (ht, ob 6 ft), (hb, ar 160 T), (hd, ob 7 (uF (uF fd 0 (iv pl)) 1 (iv mt))), (hB, ar 6 (colR (uZ R q r) 0)), (hD, ar 6 (colR (uZ R q r) 1)), (hK, ar 6 (colR (uZ R q r) 2)), (hF, ar 6 (colR (uZ R q r) 3)), (hH, ar 6 (colR (uZ R q r) 4))]) rfl ?_
        refine S_istore X dX9_readItems_16 (nle rfl) ?_
        refine S_iload X dX9_readItems_18 rfl ?_
        refine S_iconst X dX9_readItems_20 ?_
        refine S_icmp_ne (tgt := 26) X dX9_readItems_21 (by decide) (by omega) (by decide) (fun c_17 => ?_) (fun c_17 => ?_)
        ·
          have hne : itemOf (ch T n (sk T n a1)) ≠ -1 := by assumption
          have hi5 : 0 ≤ itemOf (ch T n (sk T n a1)) ∧ itemOf (ch T n (sk T n a1)) ≤ 4 := hit.resolve_left hne
          have hg := gT_in hi5
          have hlt : sk T n a1 < n := (Int.lt_or_le (sk T n a1) n).elim id (fun q9 => absurd (by unfold ch; rw [if_neg (by omega)]; rfl) hne)
          refine S_iload_n X dX9_readItems_26 rfl hL4_1 ?_
          refine S_if_ne (tgt := 35) X dX9_readItems_27 (by decide) (by decide) (fun _ => ?_) (fun h9 => absurd h9 (by decide))
          refine S_iload_n X dX9_readItems_35 rfl hL4_2 ?_
          refine S_iload X dX9_readItems_36 rfl ?_
          refine S_ishr X dX9_readItems_38 ?_
          refine S_iconst X dX9_readItems_39 ?_
          refine S_iand X dX9_readItems_40 ?_
          have hza := zAnd1 (zShr seen (itemOf (ch T n (sk T n a1))))
          refine S_if_eq (tgt := 49) X dX9_readItems_41 (by decide) (by omega) (fun c_19 => ?_) (fun c_19 => ?_)
          ·
            have hsn : ¬ ((true = false ∧ itemOf (ch T n (sk T n a1)) ≠ 0) ∨ zAnd (zShr seen (itemOf (ch T n (sk T n a1)))) 1 ≠ 0) := by simp only [reduceCtorEq, false_and, false_or]; omega
            refine S_iload_n X dX9_readItems_49 rfl hL4_2 ?_
            refine S_iconst X dX9_readItems_50 ?_
            refine S_iload X dX9_readItems_51 rfl ?_
            refine S_ishl X dX9_readItems_53 ?_
            refine S_ior X dX9_readItems_54 ?_
            refine S_istore_n X dX9_readItems_55 rfl (nle rfl) ?_
            refine S_aload_n X dX9_readItems_56 rfl hL4_0 ?_
            refine S_dup X dX9_readItems_57 ?_
            refine S_get (v := iv (sk T n a1)) X fgX9_35_8 0 rfl rfl dX9_readItems_58 ?_
            refine S_iconst X dX9_readItems_61 ?_
            refine S_iadd X dX9_readItems_62 ?_
            refine S_put X fpX9_35_8 0 rfl FT_i dX9_readItems_63 ?_
            refine S_w (ws' := [(h0, ob 8 (uF (uF (uF f 1 (iv ((sk T n a1) + 1))) 2 (iv w)) 4 (iv x))), (ht, ob 6 ft), (hb, ar 160 T), (hd, ob 7 (uF (uF fd 0 (iv pl)) 1 (iv mt))), (hB, ar 6 (colR (uZ R q r) 0)), (hD, ar 6 (colR (uZ R q r) 1)), (hK, ar 6 (colR (uZ R q r) 2)), (hF, ar 6 (colR (uZ R q r) 3)), (hH, ar 6 (colR (uZ R q r) 4))]) (by simp only [List.set]; rw [uF_mv (j := 4) (k := 1) (by decide), uF_mv (j := 2) (k := 1) (by decide), uF_same (k := 1)]) ?_
            refine S_aload_n X dX9_readItems_66 rfl hL4_0 ?_
            refine S_iconst X dX9_readItems_67 ?_
            refine S_getsLEAST X m586 dX9_readItems_68 (fun tLEAST htLEAST => ?_)
            refine S_iload X dX9_readItems_71 rfl ?_
            refine S_tald X htLEAST fTL_g (by omega) (by omega) (nle rfl) dX9_readItems_73 ?_
            refine S_getsMOST X m588 dX9_readItems_74 (fun tMOST htMOST => ?_)
            refine S_iload X dX9_readItems_77 rfl ?_
            refine S_tald X htMOST fTM_g (by omega) (by omega) (nle rfl) dX9_readItems_79 ?_
            refine S_calli X (kX5_readNumber_8 l h0 ht hb f ft T n ((sk T n a1) + 1) w x 2 (gTL (itemOf (ch T n (sk T n a1)))) (gTM (itemOf (ch T n (sk T n a1)))) hf0 hf1 hf2 (by omega) (by omega) (by omega)) (is := [0, 1, 2]) rfl (run_U X lkX9_60_8 0 rfl rfl (is := [0, 1, 2]) (avs := [iv 2, iv (gTL (itemOf (ch T n (sk T n a1)))), iv (gTM (itemOf (ch T n (sk T n a1))))]) (rest := []) rfl rfl (nle rfl) ⟨nle rfl, nle rfl⟩ ⟨nle rfl, nle rfl⟩ dX9_readItems_80 (by decide) rfl) (fun z_22 u_20 hp_21 => ?_)
            rcases hp_21 with ⟨a2_23, fl_24, hz_25, hu_26, hq_27, hr_28⟩ | ⟨a2_29, v2_30, hz_31, hu_32, hq_33⟩
            ·
              subst hz_25
              subst hu_26
              refine ⟨rfl, ?_⟩
              refine S_w (ws' := [(h0, ob 8 (uF (uF (uF f 1 (iv a2_23)) 2 (iv fl_24)) 4 (iv x))), (ht, ob 6 ft), (hb, ar 160 T), (hd, ob 7 (uF (uF fd 0 (iv pl)) 1 (iv mt))), (hB, ar 6 (colR (uZ R q r) 0)), (hD, ar 6 (colR (uZ R q r) 1)), (hK, ar 6 (colR (uZ R q r) 2)), (hF, ar 6 (colR (uZ R q r) 3)), (hH, ar 6 (colR (uZ R q r) 4))]) rfl ?_
              refine S_istore X dX9_readItems_83 (nle rfl) ?_
              refine S_iload X dX9_readItems_85 rfl ?_
              refine S_iconst X dX9_readItems_87 ?_
              refine S_icmp_ne (tgt := 93) X dX9_readItems_88 (by decide) (by decide) (by decide) (fun h9 => absurd h9 (by decide)) (fun _ => ?_)
              refine S_iconst X dX9_readItems_91 ?_
              exact S_zret X (Or.inl rfl) (nle rfl) (nle rfl) dX9_readItems_92 (hPo _ _ (Or.inl ⟨_, _, _, rfl, rfl, hk _ (by rw [fuel6 (by omega) (by omega)]; exact pIt_n hne hsn hq_27), by omega, by omega⟩))
            ·
              subst hz_31
              subst hu_32
              refine ⟨rfl, ?_⟩
              refine S_w (ws' := [(h0, ob 8 (uF (uF (uF f 1 (iv a2_29)) 2 (iv w)) 4 (iv x))), (ht, ob 6 ft), (hb, ar 160 T), (hd, ob 7 (uF (uF fd 0 (iv pl)) 1 (iv mt))), (hB, ar 6 (colR (uZ R q r) 0)), (hD, ar 6 (colR (uZ R q r) 1)), (hK, ar 6 (colR (uZ R q r) 2)), (hF, ar 6 (colR (uZ R q r) 3)), (hH, ar 6 (colR (uZ R q r) 4))]) rfl ?_
              have hnum := hq_33
              have hnv := (pNum_in (T := T) (n := n) (dg := 2) (lo := gTL (itemOf (ch T n (sk T n a1)))) (hi := gTM (itemOf (ch T n (sk T n a1)))) (a := sk T n a1 + 1) (by omega) (by decide) hn1 (by omega)).2 _ hnum
              dsimp only at hnv
              refine S_istore X dX9_readItems_83 (nle rfl) ?_
              refine S_iload X dX9_readItems_85 rfl ?_
              refine S_iconst X dX9_readItems_87 ?_
              refine S_icmp_ne (tgt := 93) X dX9_readItems_88 (by decide) (by omega) (by decide) (fun c_35 => ?_) (fun c_35 => by exfalso; omega)
              refine S_aload_n X dX9_readItems_93 rfl hL4_0 ?_
              refine S_iload_n X dX9_readItems_94 rfl hL4_1 ?_
              refine S_iload X dX9_readItems_95 rfl ?_
              refine S_iload X dX9_readItems_97 rfl ?_
              refine S_callv X (kX9_keep_P l h0 ht hb f ft T n a2_29 w x hd fd hB hD hK hF hH pl mt (uZ R q r) (itemOf (ch T n (sk T n a1))) z_22 _ hf0 hf1 hf2 hf3 hf4 hf5 hf6 hf7 hf8 (by omega) (by omega)) (is := [0, 1, 2, 3, 4, 5, 6, 7, 8]) rfl (run_V X lkX9_64 0 rfl rfl (is := [0, 1, 2, 3, 4, 5, 6, 7, 8]) (avs := [iv 1, iv (itemOf (ch T n (sk T n a1))), iv z_22]) (rest := []) rfl rfl (nle rfl) ⟨nle rfl, nle rfl⟩ ⟨nle rfl, nle rfl⟩ dX9_readItems_99 (by decide) rfl) (fun u_36 hp_37 => ?_)
              have hu_40 := hp_37
              subst hu_40
              refine ⟨rfl, ?_⟩
              refine S_w (ws' := [(h0, ob 8 (uF (uF (uF f 1 (iv a2_29)) 2 (iv w)) 4 (iv x))), (ht, ob 6 ft), (hb, ar 160 T), (hd, ob 7 (uF (uF fd 0 (iv pl)) 1 (iv mt))), (hB, ar 6 (colR (uZ (uZ R q r) q (uZ ((uZ R q r) q) (itemOf (ch T n (sk T n a1))) z_22)) 0)), (hD, ar 6 (colR (uZ (uZ R q r) q (uZ ((uZ R q r) q) (itemOf (ch T n (sk T n a1))) z_22)) 1)), (hK, ar 6 (colR (uZ (uZ R q r) q (uZ ((uZ R q r) q) (itemOf (ch T n (sk T n a1))) z_22)) 2)), (hF, ar 6 (colR (uZ (uZ R q r) q (uZ ((uZ R q r) q) (itemOf (ch T n (sk T n a1))) z_22)) 3)), (hH, ar 6 (colR (uZ (uZ R q r) q (uZ ((uZ R q r) q) (itemOf (ch T n (sk T n a1))) z_22)) 4))]) rfl ?_
              refine S_w (ws' := [(h0, ob 8 (uF (uF (uF f 1 (iv a2_29)) 2 (iv w)) 4 (iv x))), (ht, ob 6 ft), (hb, ar 160 T), (hd, ob 7 (uF (uF fd 0 (iv pl)) 1 (iv mt))), (hB, ar 6 (colR (uZ R q (uZ r (itemOf (ch T n (sk T n a1))) z_22)) 0)), (hD, ar 6 (colR (uZ R q (uZ r (itemOf (ch T n (sk T n a1))) z_22)) 1)), (hK, ar 6 (colR (uZ R q (uZ r (itemOf (ch T n (sk T n a1))) z_22)) 2)), (hF, ar 6 (colR (uZ R q (uZ r (itemOf (ch T n (sk T n a1))) z_22)) 3)), (hH, ar 6 (colR (uZ R q (uZ r (itemOf (ch T n (sk T n a1))) z_22)) 4))]) (by simp only [uZ_same, uZ_at]) ?_
              refine S_iinc X dX9_readItems_102 (nle rfl) hL4_3 ?_
              refine S_goto (tgt := 4) X dX9_readItems_105 (by decide) ?_
              exact ih4 (i + 1) a2_29 (zOr seen (zShl 1 (itemOf (ch T n (sk T n a1))))) (uZ r (itemOf (ch T n (sk T n a1))) z_22) _ (by omega) (fun z9 h9 => hk z9 ((by rw [fuel6 (by omega) (by omega), pIt_g hne hsn hnum, show 5 - i.toNat = 6 - (i + 1).toNat by omega]; exact h9))) hL4_0 hL4_1 rfl rfl (by omega)
          ·
            refine S_aload_n X dX9_readItems_44 rfl hL4_0 ?_
            refine S_calli X (kX5_fail_8 l h0 ht hb f ft T n (sk T n a1) w x hf0 hf1 hf2) (is := [0, 1, 2]) rfl (run_U X lkX9_45_8 0 rfl rfl (is := [0, 1, 2]) (avs := []) (rest := []) rfl rfl (nle rfl) ⟨nle rfl, nle rfl⟩ ⟨nle rfl, nle rfl⟩ dX9_readItems_45 (by decide) rfl) (fun z_43 u_41 hp_42 => ?_)
            obtain ⟨hz_44, hu_45⟩ := hp_42
            subst hz_44
            subst hu_45
            refine ⟨rfl, ?_⟩
            refine S_w (ws' := [(h0, ob 8 (uF (uF (uF f 1 (iv (sk T n a1))) 2 (iv (sk T n a1))) 4 (iv x))), (ht, ob 6 ft), (hb, ar 160 T), (hd, ob 7 (uF (uF fd 0 (iv pl)) 1 (iv mt))), (hB, ar 6 (colR (uZ R q r) 0)), (hD, ar 6 (colR (uZ R q r) 1)), (hK, ar 6 (colR (uZ R q r) 2)), (hF, ar 6 (colR (uZ R q r) 3)), (hH, ar 6 (colR (uZ R q r) 4))]) rfl ?_
            exact S_zret X (Or.inl rfl) (nle rfl) (nle rfl) dX9_readItems_48 (hPo _ _ (Or.inl ⟨_, _, _, rfl, rfl, hk _ (by rw [fuel6 (by omega) (by omega)]; exact pIt_f hne (Or.inr (by omega))), by omega, by omega⟩))
        ·
          refine S_iconst X dX9_readItems_24 ?_
          exact S_zret X (Or.inr rfl) (nle rfl) (nle rfl) dX9_readItems_25 (hPo _ _ (Or.inr ⟨_, r, rfl, rfl, hk _ (by rw [fuel6 (by omega) (by omega)]; exact pIt_s (by assumption))⟩))
  exact lp4_0 (Int.toNat (7 - 0) + 1) 0 a 0 row0 _ (by omega) (fun _ h9 => h9) rfl rfl rfl rfl (by omega)
set_option maxHeartbeats 4000000 in
set_option maxRecDepth 100000 in
theorem kX9_readItems_M (l : Launch) (h0 : Nat) (ht : Nat) (hb : Nat) (f : Nat → AV) (ft : Nat → AV) (T : Int → Int) (n : Int) (a : Int) (w : Int) (x : Int) (hd : Nat) (fd : Nat → AV) (hB : Nat) (hD : Nat) (hK : Nat) (hF : Nat) (hH : Nat) (pl : Int) (mt : Int) (R : Int → Int → Int) (hf0 : f 0 = rv ht) (hf1 : ft 0 = rv hb) (hf2 : ft 1 = iv n) (hf3 : f 3 = rv hd) (hf4 : fd 2 = rv hB) (hf5 : fd 3 = rv hD) (hf6 : fd 4 = rv hK) (hf7 : fd 5 = rv hF) (hf8 : fd 6 = rv hH) (hT : okT T n) (ha : 0 ≤ a ∧ a ≤ n) (hm : 1 ≤ mt ∧ mt ≤ 99) : AMi l yX9_readItems cX9_readItems 6 .boolean 3 0 0 [rv h0, iv 0] [(h0, ob 8 (uF (uF (uF f 1 (iv a)) 2 (iv w)) 4 (iv x))), (ht, ob 6 ft), (hb, ar 160 T), (hd, ob 7 (uF (uF fd 0 (iv pl)) 1 (iv mt))), (hB, ar 6 (colR R 0)), (hD, ar 6 (colR R 1)), (hK, ar 6 (colR R 2)), (hF, ar 6 (colR R 3)), (hH, ar 6 (colR R 4))] (fun z u => (∃ a2 : Int, ∃ fl : Int, ∃ mt2 : Int, z = 0 ∧ u = [(h0, ob 8 (uF (uF (uF f 1 (iv a2)) 2 (iv fl)) 4 (iv x))), (ht, ob 6 ft), (hb, ar 160 T), (hd, ob 7 (uF (uF fd 0 (iv pl)) 1 (iv mt2))), (hB, ar 6 (colR R 0)), (hD, ar 6 (colR R 1)), (hK, ar 6 (colR R 2)), (hF, ar 6 (colR R 3)), (hH, ar 6 (colR R 4))] ∧ pIt T n false 6 0 a (fun _ => mt) = .inl fl ∧ (0 ≤ a2 ∧ a2 ≤ n)) ∨ (∃ a2 : Int, ∃ r2 : Int → Int, z = 1 ∧ u = [(h0, ob 8 (uF (uF (uF f 1 (iv a2)) 2 (iv w)) 4 (iv x))), (ht, ob 6 ft), (hb, ar 160 T), (hd, ob 7 (uF (uF fd 0 (iv pl)) 1 (iv (r2 0)))), (hB, ar 6 (colR R 0)), (hD, ar 6 (colR R 1)), (hK, ar 6 (colR R 2)), (hF, ar 6 (colR R 3)), (hH, ar 6 (colR R 4))] ∧ pIt T n false 6 0 a (fun _ => mt) = .inr (a2, r2))) := by
  refine AMi.of2 rfl (nle rfl) ?_
  intro D G A p e s m args below meth c Po hPo X
  obtain ⟨hn0, hn1, hT2⟩ := id hT
  refine S_iconst X dX9_readItems_0 ?_
  refine S_istore_n X dX9_readItems_1 rfl (nle rfl) ?_
  refine S_iconst X dX9_readItems_2 ?_
  refine S_istore_n X dX9_readItems_3 rfl (nle rfl) ?_
  have lp4_0 : ∀ (N : Nat) (i : Int) (a1 : Int) (seen : Int) (r : Int → Int) (L : Nat → Option AV), 0 ≤ i ∧ i ≤ 6 ∧ 0 ≤ a1 ∧ a1 ≤ n → (∀ z9, pIt T n false (6 - i.toNat) seen a1 r = z9 → pIt T n false 6 0 a (fun _ => mt) = z9) → L 0 = some (rv h0) → L 1 = some (iv 0) → L 2 = some (iv seen) → L 3 = some (iv i) → 7 - i < (N : Int) → S_ p l e (rmD 3 0 0) s m args below meth c (MQ below (QcI D G A Po) args s 0 0 A) D G A 6 0 0 4 L [] [(h0, ob 8 (uF (uF (uF f 1 (iv a1)) 2 (iv w)) 4 (iv x))), (ht, ob 6 ft), (hb, ar 160 T), (hd, ob 7 (uF (uF fd 0 (iv pl)) 1 (iv (r 0)))), (hB, ar 6 (colR R 0)), (hD, ar 6 (colR R 1)), (hK, ar 6 (colR R 2)), (hF, ar 6 (colR R 3)), (hH, ar 6 (colR R 4))] := by
    intro N
    induction N with
    | zero =>
      intro i a1 seen r L4 hi hk hL4_0 hL4_1 hL4_2 hL4_3 hN4
      exfalso; omega
    | succ N ih4 =>
      intro i a1 seen r L4 hi hk hL4_0 hL4_1 hL4_2 hL4_3 hN4
      refine S_iload_n X dX9_readItems_4 rfl hL4_3 ?_
      refine S_iconst X dX9_readItems_5 ?_
      refine S_icmp_gt (tgt := 108) X dX9_readItems_6 (by decide) (by omega) (by decide) (fun c_1 => ?_) (fun c_1 => ?_)
      ·
        refine S_aload_n X dX9_readItems_108 rfl hL4_0 ?_
        refine S_calli X (kX5_fail_8 l h0 ht hb f ft T n a1 w x hf0 hf1 hf2) (is := [0, 1, 2]) rfl (run_U X lkX9_45_8 0 rfl rfl (is := [0, 1, 2]) (avs := []) (rest := []) rfl rfl (nle rfl) ⟨nle rfl, nle rfl⟩ ⟨nle rfl, nle rfl⟩ dX9_readItems_109 (by decide) rfl) (fun z_4 u_2 hp_3 => ?_)
        obtain ⟨hz_5, hu_6⟩ := hp_3
        subst hz_5
        subst hu_6
        refine ⟨rfl, ?_⟩
        refine S_w (ws' := [(h0, ob 8 (uF (uF (uF f 1 (iv a1)) 2 (iv a1)) 4 (iv x))), (ht, ob 6 ft), (hb, ar 160 T), (hd, ob 7 (uF (uF fd 0 (iv pl)) 1 (iv (r 0)))), (hB, ar 6 (colR R 0)), (hD, ar 6 (colR R 1)), (hK, ar 6 (colR R 2)), (hF, ar 6 (colR R 3)), (hH, ar 6 (colR R 4))]) rfl ?_
        exact S_zret X (Or.inl rfl) (nle rfl) (nle rfl) dX9_readItems_112 (hPo _ _ (Or.inl ⟨_, _, _, rfl, rfl, hk _ (by rw [show 6 - i.toNat = 0 by omega]; rfl), by omega, by omega⟩))
      ·
        refine S_aload_n X dX9_readItems_9 rfl hL4_0 ?_
        refine S_calli X (kX5_peek_8 l h0 ht hb f ft T n a1 w x hf0 hf1 hf2 (by omega) (by omega)) (is := [0, 1, 2]) rfl (run_U X lkX9_27_8 0 rfl rfl (is := [0, 1, 2]) (avs := []) (rest := []) rfl rfl (nle rfl) ⟨nle rfl, nle rfl⟩ ⟨nle rfl, nle rfl⟩ dX9_readItems_10 (by decide) rfl) (fun z_9 u_7 hp_8 => ?_)
        obtain ⟨hz_10, hu_11⟩ := hp_8
        subst hz_10
        subst hu_11
        refine ⟨rfl, ?_⟩
        refine S_w (ws' := [(h0, ob 8 (uF (uF (uF f 1 (iv (sk T n a1))) 2 (iv w)) 4 (iv x))), (ht, ob 6 ft), (hb, ar 160 T), (hd, ob 7 (uF (uF fd 0 (iv pl)) 1 (iv (r 0)))), (hB, ar 6 (colR R 0)), (hD, ar 6 (colR R 1)), (hK, ar 6 (colR R 2)), (hF, ar 6 (colR R 3)), (hH, ar 6 (colR R 4))]) rfl ?_
        have hsk := sk_in (T := T) (n := n) (a := a1) (by omega)
        have hch := ch_in (a := sk T n a1) hT (by omega)
        have hit := itemOf_in (ch T n (sk T n a1))
        refine S_calli X (kX9_itemOf l (ch T n (sk T n a1)) (by omega)) (is := []) rfl (run_S X lkX9_49 (is := []) (avs := [iv (ch T n (sk T n a1))]) (rest := []) rfl rfl (nle rfl) ⟨nle rfl, nle rfl⟩ ⟨nle rfl, nle rfl⟩ dX9_readItems_13 (by decide) rfl) (fun z_14 u_12 hp_13 => ?_)
        obtain ⟨hz_15, hu_16⟩ := hp_13
        subst hz_15
        subst hu_16
        refine ⟨rfl, ?_⟩
        refine S_w (ws' := [(h0, ob 8 (uF (uF (uF f 1 (iv (sk T n a1))) 2 (iv w)) 4 (iv x))), (ht, ob 6 ft), (hb, ar 160 T), (hd, ob 7 (uF (uF fd 0 (iv pl)) 1 (iv (r 0)))), (hB, ar 6 (colR R 0)), (hD, ar 6 (colR R 1)), (hK, ar 6 (colR R 2)), (hF, ar 6 (colR R 3)), (hH, ar 6 (colR R 4))]) rfl ?_
        refine S_istore X dX9_readItems_16 (nle rfl) ?_
        refine S_iload X dX9_readItems_18 rfl ?_
        refine S_iconst X dX9_readItems_20 ?_
        refine S_icmp_ne (tgt := 26) X dX9_readItems_21 (by decide) (by omega) (by decide) (fun c_17 => ?_) (fun c_17 => ?_)
        ·
          have hne : itemOf (ch T n (sk T n a1)) ≠ -1 := by assumption
          have hi5 : 0 ≤ itemOf (ch T n (sk T n a1)) ∧ itemOf (ch T n (sk T n a1)) ≤ 4 := hit.resolve_left hne
          have hg := gT_in hi5
          have hlt : sk T n a1 < n := (Int.lt_or_le (sk T n a1) n).elim id (fun q9 => absurd (by unfold ch; rw [if_neg (by omega)]; rfl) hne)
          refine S_iload_n X dX9_readItems_26 rfl hL4_1 ?_
          refine S_if_ne (tgt := 35) X dX9_readItems_27 (by decide) (by decide) (fun h9 => absurd h9 (by decide)) (fun _ => ?_)
          refine S_iload X dX9_readItems_30 rfl ?_
          refine S_if_ne (tgt := 44) X dX9_readItems_32 (by decide) (by omega) (fun c_19 => ?_) (fun c_19 => ?_)
          ·
            refine S_aload_n X dX9_readItems_44 rfl hL4_0 ?_
            refine S_calli X (kX5_fail_8 l h0 ht hb f ft T n (sk T n a1) w x hf0 hf1 hf2) (is := [0, 1, 2]) rfl (run_U X lkX9_45_8 0 rfl rfl (is := [0, 1, 2]) (avs := []) (rest := []) rfl rfl (nle rfl) ⟨nle rfl, nle rfl⟩ ⟨nle rfl, nle rfl⟩ dX9_readItems_45 (by decide) rfl) (fun z_22 u_20 hp_21 => ?_)
            obtain ⟨hz_23, hu_24⟩ := hp_21
            subst hz_23
            subst hu_24
            refine ⟨rfl, ?_⟩
            refine S_w (ws' := [(h0, ob 8 (uF (uF (uF f 1 (iv (sk T n a1))) 2 (iv (sk T n a1))) 4 (iv x))), (ht, ob 6 ft), (hb, ar 160 T), (hd, ob 7 (uF (uF fd 0 (iv pl)) 1 (iv (r 0)))), (hB, ar 6 (colR R 0)), (hD, ar 6 (colR R 1)), (hK, ar 6 (colR R 2)), (hF, ar 6 (colR R 3)), (hH, ar 6 (colR R 4))]) rfl ?_
            exact S_zret X (Or.inl rfl) (nle rfl) (nle rfl) dX9_readItems_48 (hPo _ _ (Or.inl ⟨_, _, _, rfl, rfl, hk _ (by rw [fuel6 (by omega) (by omega)]; exact pIt_f hne (by simp only [true_and]; omega)), by omega, by omega⟩))
          ·
            refine S_iload_n X dX9_readItems_35 rfl hL4_2 ?_
            refine S_iload X dX9_readItems_36 rfl ?_
            refine S_ishr X dX9_readItems_38 ?_
            refine S_iconst X dX9_readItems_39 ?_
            refine S_iand X dX9_readItems_40 ?_
            have hza := zAnd1 (zShr seen (itemOf (ch T n (sk T n a1))))
            refine S_if_eq (tgt := 49) X dX9_readItems_41 (by decide) (by omega) (fun c_25 => ?_) (fun c_25 => ?_)
            ·
              have hsn : ¬ ((false = false ∧ itemOf (ch T n (sk T n a1)) ≠ 0) ∨ zAnd (zShr seen (itemOf (ch T n (sk T n a1)))) 1 ≠ 0) := by simp only [true_and]; omega
              refine S_iload_n X dX9_readItems_49 rfl hL4_2 ?_
              refine S_iconst X dX9_readItems_50 ?_
              refine S_iload X dX9_readItems_51 rfl ?_
              refine S_ishl X dX9_readItems_53 ?_
              refine S_ior X dX9_readItems_54 ?_
              refine S_istore_n X dX9_readItems_55 rfl (nle rfl) ?_
              refine S_aload_n X dX9_readItems_56 rfl hL4_0 ?_
              refine S_dup X dX9_readItems_57 ?_
              refine S_get (v := iv (sk T n a1)) X fgX9_35_8 0 rfl rfl dX9_readItems_58 ?_
              refine S_iconst X dX9_readItems_61 ?_
              refine S_iadd X dX9_readItems_62 ?_
              refine S_put X fpX9_35_8 0 rfl FT_i dX9_readItems_63 ?_
              refine S_w (ws' := [(h0, ob 8 (uF (uF (uF f 1 (iv ((sk T n a1) + 1))) 2 (iv w)) 4 (iv x))), (ht, ob 6 ft), (hb, ar 160 T), (hd, ob 7 (uF (uF fd 0 (iv pl)) 1 (iv (r 0)))), (hB, ar 6 (colR R 0)), (hD, ar 6 (colR R 1)), (hK, ar 6 (colR R 2)), (hF, ar 6 (colR R 3)), (hH, ar 6 (colR R 4))]) (by simp only [List.set]; rw [uF_mv (j := 4) (k := 1) (by decide), uF_mv (j := 2) (k := 1) (by decide), uF_same (k := 1)]) ?_
              refine S_aload_n X dX9_readItems_66 rfl hL4_0 ?_
              refine S_iconst X dX9_readItems_67 ?_
              refine S_getsLEAST X m586 dX9_readItems_68 (fun tLEAST htLEAST => ?_)
              refine S_iload X dX9_readItems_71 rfl ?_
              refine S_tald X htLEAST fTL_g (by omega) (by omega) (nle rfl) dX9_readItems_73 ?_
              refine S_getsMOST X m588 dX9_readItems_74 (fun tMOST htMOST => ?_)
              refine S_iload X dX9_readItems_77 rfl ?_
              refine S_tald X htMOST fTM_g (by omega) (by omega) (nle rfl) dX9_readItems_79 ?_
              refine S_calli X (kX5_readNumber_8 l h0 ht hb f ft T n ((sk T n a1) + 1) w x 2 (gTL (itemOf (ch T n (sk T n a1)))) (gTM (itemOf (ch T n (sk T n a1)))) hf0 hf1 hf2 (by omega) (by omega) (by omega)) (is := [0, 1, 2]) rfl (run_U X lkX9_60_8 0 rfl rfl (is := [0, 1, 2]) (avs := [iv 2, iv (gTL (itemOf (ch T n (sk T n a1)))), iv (gTM (itemOf (ch T n (sk T n a1))))]) (rest := []) rfl rfl (nle rfl) ⟨nle rfl, nle rfl⟩ ⟨nle rfl, nle rfl⟩ dX9_readItems_80 (by decide) rfl) (fun z_28 u_26 hp_27 => ?_)
              rcases hp_27 with ⟨a2_29, fl_30, hz_31, hu_32, hq_33, hr_34⟩ | ⟨a2_35, v2_36, hz_37, hu_38, hq_39⟩
              ·
                subst hz_31
                subst hu_32
                refine ⟨rfl, ?_⟩
                refine S_w (ws' := [(h0, ob 8 (uF (uF (uF f 1 (iv a2_29)) 2 (iv fl_30)) 4 (iv x))), (ht, ob 6 ft), (hb, ar 160 T), (hd, ob 7 (uF (uF fd 0 (iv pl)) 1 (iv (r 0)))), (hB, ar 6 (colR R 0)), (hD, ar 6 (colR R 1)), (hK, ar 6 (colR R 2)), (hF, ar 6 (colR R 3)), (hH, ar 6 (colR R 4))]) rfl ?_
                refine S_istore X dX9_readItems_83 (nle rfl) ?_
                refine S_iload X dX9_readItems_85 rfl ?_
                refine S_iconst X dX9_readItems_87 ?_
                refine S_icmp_ne (tgt := 93) X dX9_readItems_88 (by decide) (by decide) (by decide) (fun h9 => absurd h9 (by decide)) (fun _ => ?_)
                refine S_iconst X dX9_readItems_91 ?_
                exact S_zret X (Or.inl rfl) (nle rfl) (nle rfl) dX9_readItems_92 (hPo _ _ (Or.inl ⟨_, _, _, rfl, rfl, hk _ (by rw [fuel6 (by omega) (by omega)]; exact pIt_n hne hsn hq_33), by omega, by omega⟩))
              ·
                subst hz_37
                subst hu_38
                refine ⟨rfl, ?_⟩
                refine S_w (ws' := [(h0, ob 8 (uF (uF (uF f 1 (iv a2_35)) 2 (iv w)) 4 (iv x))), (ht, ob 6 ft), (hb, ar 160 T), (hd, ob 7 (uF (uF fd 0 (iv pl)) 1 (iv (r 0)))), (hB, ar 6 (colR R 0)), (hD, ar 6 (colR R 1)), (hK, ar 6 (colR R 2)), (hF, ar 6 (colR R 3)), (hH, ar 6 (colR R 4))]) rfl ?_
                have hnum := hq_39
                have hnv := (pNum_in (T := T) (n := n) (dg := 2) (lo := gTL (itemOf (ch T n (sk T n a1)))) (hi := gTM (itemOf (ch T n (sk T n a1)))) (a := sk T n a1 + 1) (by omega) (by decide) hn1 (by omega)).2 _ hnum
                dsimp only at hnv
                refine S_istore X dX9_readItems_83 (nle rfl) ?_
                refine S_iload X dX9_readItems_85 rfl ?_
                refine S_iconst X dX9_readItems_87 ?_
                refine S_icmp_ne (tgt := 93) X dX9_readItems_88 (by decide) (by omega) (by decide) (fun c_41 => ?_) (fun c_41 => by exfalso; omega)
                refine S_aload_n X dX9_readItems_93 rfl hL4_0 ?_
                refine S_iload_n X dX9_readItems_94 rfl hL4_1 ?_
                refine S_iload X dX9_readItems_95 rfl ?_
                refine S_iload X dX9_readItems_97 rfl ?_
                refine S_callv X (kX9_keep_M l h0 ht hb f ft T n a2_35 w x hd fd hB hD hK hF hH pl (r 0) R (itemOf (ch T n (sk T n a1))) z_28 hf0 hf1 hf2 hf3 hf4 hf5 hf6 hf7 hf8) (is := [0, 1, 2, 3, 4, 5, 6, 7, 8]) rfl (run_V X lkX9_64 0 rfl rfl (is := [0, 1, 2, 3, 4, 5, 6, 7, 8]) (avs := [iv 0, iv (itemOf (ch T n (sk T n a1))), iv z_28]) (rest := []) rfl rfl (nle rfl) ⟨nle rfl, nle rfl⟩ ⟨nle rfl, nle rfl⟩ dX9_readItems_99 (by decide) rfl) (fun u_42 hp_43 => ?_)
                have hu_46 := hp_43
                subst hu_46
                refine ⟨rfl, ?_⟩
                refine S_w (ws' := [(h0, ob 8 (uF (uF (uF f 1 (iv a2_35)) 2 (iv w)) 4 (iv x))), (ht, ob 6 ft), (hb, ar 160 T), (hd, ob 7 (uF (uF fd 0 (iv pl)) 1 (iv z_28))), (hB, ar 6 (colR R 0)), (hD, ar 6 (colR R 1)), (hK, ar 6 (colR R 2)), (hF, ar 6 (colR R 3)), (hH, ar 6 (colR R 4))]) rfl ?_
                have hi0 : itemOf (ch T n (sk T n a1)) = 0 := by omega
                refine S_w (ws' := [(h0, ob 8 (uF (uF (uF f 1 (iv a2_35)) 2 (iv w)) 4 (iv x))), (ht, ob 6 ft), (hb, ar 160 T), (hd, ob 7 (uF (uF fd 0 (iv pl)) 1 (iv ((uZ r (itemOf (ch T n (sk T n a1))) z_28) 0)))), (hB, ar 6 (colR R 0)), (hD, ar 6 (colR R 1)), (hK, ar 6 (colR R 2)), (hF, ar 6 (colR R 3)), (hH, ar 6 (colR R 4))]) (by rw [hi0, uZ_at]) ?_
                refine S_iinc X dX9_readItems_102 (nle rfl) hL4_3 ?_
                refine S_goto (tgt := 4) X dX9_readItems_105 (by decide) ?_
                exact ih4 (i + 1) a2_35 (zOr seen (zShl 1 (itemOf (ch T n (sk T n a1))))) (uZ r (itemOf (ch T n (sk T n a1))) z_28) _ (by omega) (fun z9 h9 => hk z9 ((by rw [fuel6 (by omega) (by omega), pIt_g hne hsn hnum, show 5 - i.toNat = 6 - (i + 1).toNat by omega]; exact h9))) hL4_0 hL4_1 rfl rfl (by omega)
            ·
              refine S_aload_n X dX9_readItems_44 rfl hL4_0 ?_
              refine S_calli X (kX5_fail_8 l h0 ht hb f ft T n (sk T n a1) w x hf0 hf1 hf2) (is := [0, 1, 2]) rfl (run_U X lkX9_45_8 0 rfl rfl (is := [0, 1, 2]) (avs := []) (rest := []) rfl rfl (nle rfl) ⟨nle rfl, nle rfl⟩ ⟨nle rfl, nle rfl⟩ dX9_readItems_45 (by decide) rfl) (fun z_49 u_47 hp_48 => ?_)
              obtain ⟨hz_50, hu_51⟩ := hp_48
              subst hz_50
              subst hu_51
              refine ⟨rfl, ?_⟩
              refine S_w (ws' := [(h0, ob 8 (uF (uF (uF f 1 (iv (sk T n a1))) 2 (iv (sk T n a1))) 4 (iv x))), (ht, ob 6 ft), (hb, ar 160 T), (hd, ob 7 (uF (uF fd 0 (iv pl)) 1 (iv (r 0)))), (hB, ar 6 (colR R 0)), (hD, ar 6 (colR R 1)), (hK, ar 6 (colR R 2)), (hF, ar 6 (colR R 3)), (hH, ar 6 (colR R 4))]) rfl ?_
              exact S_zret X (Or.inl rfl) (nle rfl) (nle rfl) dX9_readItems_48 (hPo _ _ (Or.inl ⟨_, _, _, rfl, rfl, hk _ (by rw [fuel6 (by omega) (by omega)]; exact pIt_f hne (by simp only [true_and]; omega)), by omega, by omega⟩))
        ·
          refine S_iconst X dX9_readItems_24 ?_
          exact S_zret X (Or.inr rfl) (nle rfl) (nle rfl) dX9_readItems_25 (hPo _ _ (Or.inr ⟨_, r, rfl, rfl, hk _ (by rw [fuel6 (by omega) (by omega)]; exact pIt_s (by assumption))⟩))
  exact lp4_0 (Int.toNat (7 - 0) + 1) 0 a 0 (fun _ => mt) _ (by omega) (fun _ h9 => h9) rfl rfl rfl rfl (by omega)
set_option maxHeartbeats 4000000 in
set_option maxRecDepth 100000 in
theorem kX9_isWhole (l : Launch) (h0 : Nat) (f : Nat → AV) (a : Int) (w : Int) (x : Int) (hd : Nat) (fd : Nat → AV) (hF : Nat) (pl : Int) (mt : Int) (R : Int → Int → Int) (hf0 : f 3 = rv hd) (hf1 : fd 5 = rv hF) (hp : 0 ≤ pl ∧ pl ≤ 6) (hR : ∀ j, 0 ≤ j → j < pl → okRow (R j)) : AMi l yX9_isWhole cX9_isWhole 2 .boolean 0 0 0 [rv h0] [(h0, ob 8 (uF (uF (uF f 1 (iv a)) 2 (iv w)) 4 (iv x))), (hd, ob 7 (uF (uF fd 0 (iv pl)) 1 (iv mt))), (hF, ar 6 (colR R 3))] (fun z u => (z = 0 ∧ u = [(h0, ob 8 (uF (uF (uF f 1 (iv a)) 2 (iv w)) 4 (iv x))), (hd, ob 7 (uF (uF fd 0 (iv pl)) 1 (iv mt))), (hF, ar 6 (colR R 3))] ∧ ¬ okTn (pl, mt, x, R)) ∨ (z = 1 ∧ u = [(h0, ob 8 (uF (uF (uF f 1 (iv a)) 2 (iv w)) 4 (iv x))), (hd, ob 7 (uF (uF fd 0 (iv pl)) 1 (iv mt))), (hF, ar 6 (colR R 3))] ∧ okTn (pl, mt, x, R))) := by
  refine AMi.of2 rfl (nle rfl) ?_
  intro D G A p e s m args below meth c Po hPo X
  refine S_iconst X dX9_isWhole_0 ?_
  refine S_istore_n X dX9_isWhole_1 rfl (nle rfl) ?_
  have lp2_0 : ∀ (N : Nat) (i : Int) (L : Nat → Option AV), 0 ≤ i ∧ i ≤ pl ∧ i ≤ 6 → (∀ j, 0 ≤ j → j < i → R j 3 ≠ j ∧ R j 3 < pl) → L 0 = some (rv h0) → L 1 = some (iv i) → 7 - i < (N : Int) → S_ p l e (rmD 0 0 0) s m args below meth c (MQ below (QcI D G A Po) args s 0 0 A) D G A 2 0 0 2 L [] [(h0, ob 8 (uF (uF (uF f 1 (iv a)) 2 (iv w)) 4 (iv x))), (hd, ob 7 (uF (uF fd 0 (iv pl)) 1 (iv mt))), (hF, ar 6 (colR R 3))] := by
    intro N
    induction N with
    | zero =>
      intro i L2 hi hk hL2_0 hL2_1 hN2
      exfalso; omega
    | succ N ih2 =>
      intro i L2 hi hk hL2_0 hL2_1 hN2
      refine S_iload_n X dX9_isWhole_2 rfl hL2_1 ?_
      refine S_aload_n X dX9_isWhole_3 rfl hL2_0 ?_
      refine S_get X fgX9_14_8 0 rfl hf0 dX9_isWhole_4 ?_
      refine S_get (v := iv pl) X fgX9_31_7 1 rfl rfl dX9_isWhole_7 ?_
      refine S_icmp_ge (tgt := 53) X dX9_isWhole_10 (by decide) (by omega) (by omega) (fun c_1 => ?_) (fun c_1 => ?_)
      ·
        refine S_aload_n X dX9_isWhole_53 rfl hL2_0 ?_
        refine S_get X fgX9_14_8 0 rfl hf0 dX9_isWhole_54 ?_
        refine S_get (v := iv pl) X fgX9_31_7 1 rfl rfl dX9_isWhole_57 ?_
        refine S_if_le (tgt := 67) X dX9_isWhole_60 (by decide) (by omega) (fun c_2 => ?_) (fun c_2 => ?_)
        ·
          refine S_iconst X dX9_isWhole_67 ?_
          exact S_zret X (Or.inl rfl) (nle rfl) (nle rfl) dX9_isWhole_68 (hPo _ _ (Or.inl (⟨by first | rfl | omega, rfl, fun h9 => by have := h9.1; dsimp only at this; omega⟩)))
        ·
          refine S_iconst X dX9_isWhole_63 ?_
          refine S_goto (tgt := 68) X dX9_isWhole_64 (by decide) ?_
          exact S_zret X (Or.inr rfl) (nle rfl) (nle rfl) dX9_isWhole_68 (hPo _ _ (Or.inr (⟨by first | rfl | omega, rfl, ⟨by dsimp only; omega, fun j j0 j1 => hk j j0 (by dsimp only at j1; omega)⟩⟩)))
      ·
        refine S_aload_n X dX9_isWhole_13 rfl hL2_0 ?_
        refine S_get X fgX9_14_8 0 rfl hf0 dX9_isWhole_14 ?_
        refine S_get X fgX9_75_7 1 rfl hf1 dX9_isWhole_17 ?_
        refine S_iload_n X dX9_isWhole_20 rfl hL2_1 ?_
        refine S_iald X 2 rfl (by omega) (by omega) (nle rfl) dX9_isWhole_21 ?_
        have hcr : colR R 3 i = R i 3 := rfl
        have hrr := (hR i (by omega) (by omega)).2.2.2.1
        rw [hcr]
        refine S_iload_n X dX9_isWhole_22 rfl hL2_1 ?_
        refine S_icmp_eq (tgt := 45) X dX9_isWhole_23 (by decide) (by omega) (by omega) (fun c_3 => ?_) (fun c_3 => ?_)
        ·
          refine S_iconst X dX9_isWhole_45 ?_
          exact S_zret X (Or.inl rfl) (nle rfl) (nle rfl) dX9_isWhole_46 (hPo _ _ (Or.inl (⟨by first | rfl | omega, rfl, fun h9 => by have := h9.2 i (by omega) (by dsimp only; omega); dsimp only at this; omega⟩)))
        ·
          refine S_aload_n X dX9_isWhole_26 rfl hL2_0 ?_
          refine S_get X fgX9_14_8 0 rfl hf0 dX9_isWhole_27 ?_
          refine S_get X fgX9_75_7 1 rfl hf1 dX9_isWhole_30 ?_
          refine S_iload_n X dX9_isWhole_33 rfl hL2_1 ?_
          refine S_iald X 2 rfl (by omega) (by omega) (nle rfl) dX9_isWhole_34 ?_
          have hcr : colR R 3 i = R i 3 := rfl
          have hrr := (hR i (by omega) (by omega)).2.2.2.1
          rw [hcr]
          refine S_aload_n X dX9_isWhole_35 rfl hL2_0 ?_
          refine S_get X fgX9_14_8 0 rfl hf0 dX9_isWhole_36 ?_
          refine S_get (v := iv pl) X fgX9_31_7 1 rfl rfl dX9_isWhole_39 ?_
          refine S_icmp_lt (tgt := 47) X dX9_isWhole_42 (by decide) (by omega) (by omega) (fun c_4 => ?_) (fun c_4 => ?_)
          ·
            refine S_iinc X dX9_isWhole_47 (nle rfl) hL2_1 ?_
            refine S_goto (tgt := 2) X dX9_isWhole_50 (by decide) ?_
            exact ih2 (i + 1) _ (by omega) (fun j j0 j1 => (Int.lt_or_le j i).elim (hk j j0) (fun q9 => by (obtain rfl : j = i := (by omega)); exact ⟨by assumption, by assumption⟩)) hL2_0 rfl (by omega)
          ·
            refine S_iconst X dX9_isWhole_45 ?_
            exact S_zret X (Or.inl rfl) (nle rfl) (nle rfl) dX9_isWhole_46 (hPo _ _ (Or.inl (⟨by first | rfl | omega, rfl, fun h9 => by have := h9.2 i (by omega) (by dsimp only; omega); dsimp only at this; omega⟩)))
  exact lp2_0 (Int.toNat (7 - 0) + 1) 0 _ (by omega) (fun j _ _ => by omega) rfl rfl (by omega)
