/- 14.law1.lean.txt -/
section pt_14law1
theorem sumL_a {T : Int → Int} {n w a b : Int} {atom : Int → LR} {f : Nat} {acc ts : List Int} (h : ch T n (sk T n a) = 43 ∨ ch T n (sk T n a) = 45) (h2 : atom (sk T n a + 1) = .inr (b, ts)) : sumL T n atom (f + 1) w a acc = sumL T n atom f (ch T n (sk T n a)) b ((if w = 0 then acc else acc ++ [-w]) ++ ts) := by rw [sumL, if_pos h, h2]
theorem sumL_af {T : Int → Int} {n w a g : Int} {atom : Int → LR} {f : Nat} {acc : List Int} (h : ch T n (sk T n a) = 43 ∨ ch T n (sk T n a) = 45) (h2 : atom (sk T n a + 1) = .inl g) : sumL T n atom (f + 1) w a acc = .inl g := by rw [sumL, if_pos h, h2]
theorem sumL_m {T : Int → Int} {n w a b : Int} {atom : Int → LR} {f : Nat} {acc ts : List Int} (h : ch T n (sk T n a) = 42 ∨ ch T n (sk T n a) = 47) (h2 : atom (sk T n a + 1) = .inr (b, ts)) : sumL T n atom (f + 1) w a acc = sumL T n atom f w b (acc ++ ts ++ [-ch T n (sk T n a)]) := by rw [sumL, if_neg (by omega), if_pos h, h2]
theorem sumL_mf {T : Int → Int} {n w a g : Int} {atom : Int → LR} {f : Nat} {acc : List Int} (h : ch T n (sk T n a) = 42 ∨ ch T n (sk T n a) = 47) (h2 : atom (sk T n a + 1) = .inl g) : sumL T n atom (f + 1) w a acc = .inl g := by rw [sumL, if_neg (by omega), if_pos h, h2]
theorem sumL_e {T : Int → Int} {n w a : Int} {atom : Int → LR} {f : Nat} {acc : List Int} (h : ¬ (ch T n (sk T n a) = 43 ∨ ch T n (sk T n a) = 45)) (h2 : ¬ (ch T n (sk T n a) = 42 ∨ ch T n (sk T n a) = 47)) : sumL T n atom (f + 1) w a acc = .inr (sk T n a, if w = 0 then acc else acc ++ [-w]) := by rw [sumL, if_neg h, if_neg h2]
theorem pSum_f {T : Int → Int} {n a f : Int} {k : Nat} (h : pAtom T n k a = .inl f) : pSum T n k a = .inl f := by rw [pSum_eq]; unfold sumG; rw [h]
theorem pSum_r {T : Int → Int} {n a b : Int} {k : Nat} {ts : List Int} (h : pAtom T n k a = .inr (b, ts)) : pSum T n k a = sumL T n (pAtom T n k) 161 0 b ts := by rw [pSum_eq]; unfold sumG; rw [h]
theorem pAtom_0 (T : Int → Int) (n : Int) : pAtom T n 0 = atomG T n (fun _ => .inl 0) 0 := rfl
theorem pAtom_s (T : Int → Int) (n : Int) (k : Nat) : pAtom T n (k + 1) = atomG T n (pSum T n k) (k + 1) := rfl
theorem pAtom_num {T : Int → Int} {n a : Int} {k : Nat} (h : 48 ≤ ch T n (sk T n a) ∧ ch T n (sk T n a) ≤ 57) : pAtom T n k a = (match pNum T n 4 0 9999 (sk T n a) with | .inl f => .inl f | .inr q => .inr (q.1, [q.2])) := by
  cases k with
  | zero => rw [pAtom_0, atomG, if_pos h]; rfl
  | succ k => rw [pAtom_s, atomG, if_pos h]; rfl
theorem pAtom_let {T : Int → Int} {n a : Int} {k : Nat} (h : ¬ (48 ≤ ch T n (sk T n a) ∧ ch T n (sk T n a) ≤ 57)) (h2 : ch T n (sk T n a) = 100 ∨ ch T n (sk T n a) = 119 ∨ ch T n (sk T n a) = 109 ∨ ch T n (sk T n a) = 110 ∨ ch T n (sk T n a) = 111) : pAtom T n k a = .inr (sk T n a + 1, [-ch T n (sk T n a)]) := by
  cases k with
  | zero => rw [pAtom_0, atomG, if_neg h, if_pos h2]
  | succ k => rw [pAtom_s, atomG, if_neg h, if_pos h2]
theorem pAtom_no {T : Int → Int} {n a : Int} {k : Nat} (h : ¬ (48 ≤ ch T n (sk T n a) ∧ ch T n (sk T n a) ≤ 57)) (h2 : ¬ (ch T n (sk T n a) = 100 ∨ ch T n (sk T n a) = 119 ∨ ch T n (sk T n a) = 109 ∨ ch T n (sk T n a) = 110 ∨ ch T n (sk T n a) = 111)) (h3 : ¬ (ch T n (sk T n a) = 91 ∧ k ≠ 0)) : pAtom T n k a = .inl (sk T n a) := by
  cases k with
  | zero => rw [pAtom_0, atomG, if_neg h, if_neg h2, if_neg h3]
  | succ k => rw [pAtom_s, atomG, if_neg h, if_neg h2, if_neg h3]
theorem pAtom_brf {T : Int → Int} {n a f : Int} {k : Nat} (h : ch T n (sk T n a) = 91) (h2 : pSum T n k (sk T n a + 1) = .inl f) : pAtom T n (k + 1) a = .inl f := by
  rw [pAtom_s, atomG, if_neg (by omega), if_neg (by omega), if_pos ⟨h, by omega⟩, h2]
theorem pAtom_br {T : Int → Int} {n a b : Int} {k : Nat} {ts : List Int} (h : ch T n (sk T n a) = 91) (h2 : pSum T n k (sk T n a + 1) = .inr (b, ts)) : pAtom T n (k + 1) a = if ch T n (sk T n b) = 93 then .inr (sk T n b + 1, ts) else .inl (sk T n b) := by
  rw [pAtom_s, atomG, if_neg (by omega), if_neg (by omega), if_pos ⟨h, by omega⟩, h2]
theorem cmp_f {T : Int → Int} {n a f : Int} {k : Nat} (h : ch T n (sk T n a) = 61 ∨ ch T n (sk T n a) = 60 ∨ ch T n (sk T n a) = 62) (h2 : pSum T n k (sk T n a + 1) = .inl f) : cmpG T n k a = .inl f := by rw [cmpG, if_pos h, h2]
theorem cmp_r {T : Int → Int} {n a b : Int} {k : Nat} {ts : List Int} (h : ch T n (sk T n a) = 61 ∨ ch T n (sk T n a) = 60 ∨ ch T n (sk T n a) = 62) (h2 : pSum T n k (sk T n a + 1) = .inr (b, ts)) : cmpG T n k a = .inr (b, ts ++ [-ch T n (sk T n a)]) := by rw [cmpG, if_pos h, h2]
theorem cmp_n {T : Int → Int} {n a : Int} {k : Nat} (h : ¬ (ch T n (sk T n a) = 61 ∨ ch T n (sk T n a) = 60 ∨ ch T n (sk T n a) = 62)) : cmpG T n k a = .inl (sk T n a) := by rw [cmpG, if_neg h]
set_option maxHeartbeats 4000000 in
set_option maxRecDepth 100000 in
theorem kX2_clear (l : Launch) (h0 : Nat) (f : Nat → AV) (a : Int) (w : Int) (x : Int) : AMv l yX2_clear cX2_clear 1 0 0 0 [rv h0] [(h0, ob 2 (uF (uF (uF f 1 (iv a)) 2 (iv w)) 4 (iv x)))] (fun u => u = [(h0, ob 2 (uF (uF (uF f 1 (iv a)) 2 (iv w)) 4 (iv 0)))]) := by
  refine AMv.of2 rfl (nle rfl) ?_
  intro D G A p e s m args below meth c Po hPo hnm X
  refine S_aload_n X dX2_clear_0 rfl rfl ?_
  refine S_iconst X dX2_clear_1 ?_
  refine S_put X fpX2_17_2 0 rfl FT_i dX2_clear_2 ?_
  refine S_w (ws' := [(h0, ob 2 (uF (uF (uF f 1 (iv a)) 2 (iv w)) 4 (iv 0)))]) (by simp only [List.set]; rw [uF_same (k := 4)]) ?_
  exact S_vret X (nle rfl) (nle rfl) dX2_clear_5 (hPo _ (rfl))
set_option maxHeartbeats 4000000 in
set_option maxRecDepth 100000 in
theorem kX2_isWhole (l : Launch) (h0 : Nat) : AMi l yX2_isWhole cX2_isWhole 1 .boolean 0 0 0 [rv h0] [] (fun z u => z = 1 ∧ u = []) := by
  refine AMi.of2 rfl (nle rfl) ?_
  intro D G A p e s m args below meth c Po hPo X
  refine S_iconst X dX2_isWhole_0 ?_
  exact S_zret X (Or.inr rfl) (nle rfl) (nle rfl) dX2_isWhole_1 (hPo _ _ (⟨by first | rfl | omega, rfl⟩))
set_option maxHeartbeats 4000000 in
set_option maxRecDepth 100000 in
theorem kX2_isComparison (l : Launch) (c0 : Int) (hc : inR c0) : AMi l yX2_isComparison cX2_isComparison 1 .boolean 0 0 0 [iv c0] [] (fun z u => (z = 0 ∧ u = [] ∧ (¬ (c0 = 61 ∨ c0 = 60 ∨ c0 = 62))) ∨ (z = 1 ∧ u = [] ∧ (c0 = 61 ∨ c0 = 60 ∨ c0 = 62))) := by
  refine AMi.of2 rfl (nle rfl) ?_
  intro D G A p e s m args below meth c Po hPo X
  refine S_iload_n X dX2_isComparison_0 rfl rfl ?_
  refine S_bipush X dX2_isComparison_1 rfl ?_
  refine S_icmp_eq (tgt := 18) X dX2_isComparison_3 (by decide) (by omega) (by decide) (fun c_1 => ?_) (fun c_1 => ?_)
  ·
    refine S_iconst X dX2_isComparison_18 ?_
    refine S_goto (tgt := 23) X dX2_isComparison_19 (by decide) ?_
    exact S_zret X (Or.inr rfl) (nle rfl) (nle rfl) dX2_isComparison_23 (hPo _ _ (Or.inr (⟨by first | rfl | omega, rfl, by first | rfl | assumption | omega⟩)))
  ·
    refine S_iload_n X dX2_isComparison_6 rfl rfl ?_
    refine S_bipush X dX2_isComparison_7 rfl ?_
    refine S_icmp_eq (tgt := 18) X dX2_isComparison_9 (by decide) (by omega) (by decide) (fun c_2 => ?_) (fun c_2 => ?_)
    ·
      refine S_iconst X dX2_isComparison_18 ?_
      refine S_goto (tgt := 23) X dX2_isComparison_19 (by decide) ?_
      exact S_zret X (Or.inr rfl) (nle rfl) (nle rfl) dX2_isComparison_23 (hPo _ _ (Or.inr (⟨by first | rfl | omega, rfl, by first | rfl | assumption | omega⟩)))
    ·
      refine S_iload_n X dX2_isComparison_12 rfl rfl ?_
      refine S_bipush X dX2_isComparison_13 rfl ?_
      refine S_icmp_ne (tgt := 22) X dX2_isComparison_15 (by decide) (by omega) (by decide) (fun c_3 => ?_) (fun c_3 => ?_)
      ·
        refine S_iconst X dX2_isComparison_22 ?_
        exact S_zret X (Or.inl rfl) (nle rfl) (nle rfl) dX2_isComparison_23 (hPo _ _ (Or.inl (⟨by first | rfl | omega, rfl, by first | rfl | assumption | omega⟩)))
      ·
        refine S_iconst X dX2_isComparison_18 ?_
        refine S_goto (tgt := 23) X dX2_isComparison_19 (by decide) ?_
        exact S_zret X (Or.inr rfl) (nle rfl) (nle rfl) dX2_isComparison_23 (hPo _ _ (Or.inr (⟨by first | rfl | omega, rfl, by first | rfl | assumption | omega⟩)))
set_option maxHeartbeats 4000000 in
set_option maxRecDepth 100000 in
theorem kX2_emit (l : Launch) (h0 : Nat) (f : Nat → AV) (a : Int) (w : Int) (x : Int) (hc : Nat) (C : Int → Int) (t0 : Int) (hf0 : f 3 = rv hc) (hx : 0 ≤ x ∧ x < 160) : AMi l yX2_emit cX2_emit 2 .boolean 0 0 0 [rv h0, iv t0] [(h0, ob 2 (uF (uF (uF f 1 (iv a)) 2 (iv w)) 4 (iv x))), (hc, ar 160 C)] (fun z u => z = 1 ∧ u = [(h0, ob 2 (uF (uF (uF f 1 (iv a)) 2 (iv w)) 4 (iv (x + 1)))), (hc, ar 160 (uZ C x t0))]) := by
  refine AMi.of2 rfl (nle rfl) ?_
  intro D G A p e s m args below meth c Po hPo X
  refine S_aload_n X dX2_emit_0 rfl rfl ?_
  refine S_get (v := iv x) X fgX2_17_2 0 rfl rfl dX2_emit_1 ?_
  refine S_sipush X dX2_emit_4 rfl ?_
  refine S_icmp_ge (tgt := 30) X dX2_emit_7 (by decide) (by omega) (by decide) (fun c_1 => by exfalso; omega) (fun c_1 => ?_)
  refine S_aload_n X dX2_emit_10 rfl rfl ?_
  refine S_get X fgX2_11_2 0 rfl hf0 dX2_emit_11 ?_
  refine S_aload_n X dX2_emit_14 rfl rfl ?_
  refine S_get (v := iv x) X fgX2_17_2 0 rfl rfl dX2_emit_15 ?_
  refine S_iload_n X dX2_emit_18 rfl rfl ?_
  refine S_iast X 1 rfl (by omega) (by omega) (nle rfl) dX2_emit_19 ?_
  refine S_w (ws' := [(h0, ob 2 (uF (uF (uF f 1 (iv a)) 2 (iv w)) 4 (iv x))), (hc, ar 160 (uZ C x t0))]) rfl ?_
  refine S_aload_n X dX2_emit_20 rfl rfl ?_
  refine S_dup X dX2_emit_21 ?_
  refine S_get (v := iv x) X fgX2_17_2 0 rfl rfl dX2_emit_22 ?_
  refine S_iconst X dX2_emit_25 ?_
  refine S_iadd X dX2_emit_26 ?_
  refine S_put X fpX2_17_2 0 rfl FT_i dX2_emit_27 ?_
  refine S_w (ws' := [(h0, ob 2 (uF (uF (uF f 1 (iv a)) 2 (iv w)) 4 (iv (x + 1)))), (hc, ar 160 (uZ C x t0))]) (by simp only [List.set]; rw [uF_same (k := 4)]) ?_
  refine S_iconst X dX2_emit_30 ?_
  exact S_zret X (Or.inr rfl) (nle rfl) (nle rfl) dX2_emit_31 (hPo _ _ (⟨by first | rfl | omega, rfl⟩))
def C_X2_sum (l : Launch) (K : Nat) (d : Nat) : Prop := ∀ (h0 : Nat) (ht : Nat) (hb : Nat) (f : Nat → AV) (ft : Nat → AV) (T : Int → Int) (n : Int) (a : Int) (w : Int) (x : Int) (hc : Nat) (C : Int → Int) (wi : Int), (f 0 = rv ht) → (ft 0 = rv hb) → (ft 1 = iv n) → (f 3 = rv hc) → (okT T n) → (0 ≤ a ∧ a ≤ n) → (0 ≤ x ∧ x < a) → (wi + K = 6) → (0 ≤ wi) → AMi l yX2_sum cX2_sum 6 .boolean d 0 0 [rv h0, iv wi] [(h0, ob 2 (uF (uF (uF f 1 (iv a)) 2 (iv w)) 4 (iv x))), (ht, ob 6 ft), (hb, ar 160 T), (hc, ar 160 C)] (fun z u => (∃ a2 : Int, ∃ fl : Int, ∃ x2 : Int, ∃ C2 : Int → Int, z = 0 ∧ u = [(h0, ob 2 (uF (uF (uF f 1 (iv a2)) 2 (iv fl)) 4 (iv x2))), (ht, ob 6 ft), (hb, ar 160 T), (hc, ar 160 C2)] ∧ pSum T n K a = .inl fl) ∨ (∃ a2 : Int, ∃ ts : List Int, z = 1 ∧ u = [(h0, ob 2 (uF (uF (uF f 1 (iv a2)) 2 (iv w)) 4 (iv (x + (ts.length : Int))))), (ht, ob 6 ft), (hb, ar 160 T), (hc, ar 160 (wrL C x ts))] ∧ pSum T n K a = .inr (a2, ts)))
def C_X2_atom (l : Launch) (K : Nat) (d : Nat) : Prop := ∀ (h0 : Nat) (ht : Nat) (hb : Nat) (f : Nat → AV) (ft : Nat → AV) (T : Int → Int) (n : Int) (a : Int) (w : Int) (x : Int) (hc : Nat) (C : Int → Int) (wi : Int), (f 0 = rv ht) → (ft 0 = rv hb) → (ft 1 = iv n) → (f 3 = rv hc) → (okT T n) → (0 ≤ a ∧ a ≤ n) → (0 ≤ x ∧ x < a) → (wi + K = 6) → (0 ≤ wi) → AMi l yX2_atom cX2_atom 4 .boolean d 0 0 [rv h0, iv wi] [(h0, ob 2 (uF (uF (uF f 1 (iv a)) 2 (iv w)) 4 (iv x))), (ht, ob 6 ft), (hb, ar 160 T), (hc, ar 160 C)] (fun z u => (∃ a2 : Int, ∃ fl : Int, ∃ x2 : Int, ∃ C2 : Int → Int, z = 0 ∧ u = [(h0, ob 2 (uF (uF (uF f 1 (iv a2)) 2 (iv fl)) 4 (iv x2))), (ht, ob 6 ft), (hb, ar 160 T), (hc, ar 160 C2)] ∧ pAtom T n K a = .inl fl) ∨ (∃ a2 : Int, ∃ ts : List Int, z = 1 ∧ u = [(h0, ob 2 (uF (uF (uF f 1 (iv a2)) 2 (iv w)) 4 (iv (x + (ts.length : Int))))), (ht, ob 6 ft), (hb, ar 160 T), (hc, ar 160 (wrL C x ts))] ∧ pAtom T n K a = .inr (a2, ts)))
def C_X2_comparison (l : Launch) (K : Nat) (d : Nat) : Prop := ∀ (h0 : Nat) (ht : Nat) (hb : Nat) (f : Nat → AV) (ft : Nat → AV) (T : Int → Int) (n : Int) (a : Int) (w : Int) (x : Int) (hc : Nat) (C : Int → Int) (wi : Int), (f 0 = rv ht) → (ft 0 = rv hb) → (ft 1 = iv n) → (f 3 = rv hc) → (okT T n) → (0 ≤ a ∧ a ≤ n) → (0 ≤ x ∧ x < a) → (wi + K = 6) → (0 ≤ wi) → AMi l yX2_comparison cX2_comparison 3 .boolean d 0 0 [rv h0, iv wi] [(h0, ob 2 (uF (uF (uF f 1 (iv a)) 2 (iv w)) 4 (iv x))), (ht, ob 6 ft), (hb, ar 160 T), (hc, ar 160 C)] (fun z u => (∃ a2 : Int, ∃ fl : Int, ∃ x2 : Int, ∃ C2 : Int → Int, z = 0 ∧ u = [(h0, ob 2 (uF (uF (uF f 1 (iv a2)) 2 (iv fl)) 4 (iv x2))), (ht, ob 6 ft), (hb, ar 160 T), (hc, ar 160 C2)] ∧ cmpG T n K a = .inl fl) ∨ (∃ a2 : Int, ∃ ts : List Int, z = 1 ∧ u = [(h0, ob 2 (uF (uF (uF f 1 (iv a2)) 2 (iv w)) 4 (iv (x + (ts.length : Int))))), (ht, ob 6 ft), (hb, ar 160 T), (hc, ar 160 (wrL C x ts))] ∧ cmpG T n K a = .inr (a2, ts)))
set_option maxHeartbeats 4000000 in
set_option maxRecDepth 100000 in
theorem kX2_atom (l : Launch) (K : Nat) (d : Nat) (hd : 5 ≤ d) (hnx : ∀ K2 : Nat, K = K2 + 1 → C_X2_sum l K2 d) : C_X2_atom l K (d + 1) := by
  intro h0 ht hb f ft T n a w x hc C wi hf0 hf1 hf2 hf3 hT ha hx hw h6
  refine AMi.of2 rfl (nle rfl) ?_
  intro D G A p e s m args below meth c Po hPo X
  obtain ⟨hn0, hn1, hT2⟩ := id hT
  have hsk := sk_in (T := T) ha.2
  have hch := ch_in (a := sk T n a) hT (by omega)
  refine S_aload_n X dX2_atom_0 rfl rfl ?_
  refine S_calli X (kX5_peek_2 l h0 ht hb f ft T n a w x hf0 hf1 hf2 (by omega) (by omega)) (is := [0, 1, 2]) rfl (run_U X lkX2_40_2 0 rfl rfl (is := [0, 1, 2]) (avs := []) (rest := []) rfl rfl (nle rfl) ⟨by simp only [rmD]; omega, by simp only [rmD]; omega⟩ ⟨nle rfl, nle rfl⟩ dX2_atom_1 (by decide) rfl) (fun z_3 u_1 hp_2 => ?_)
  obtain ⟨hz_4, hu_5⟩ := hp_2
  subst hz_4
  subst hu_5
  refine ⟨rfl, ?_⟩
  refine S_w (ws' := [(h0, ob 2 (uF (uF (uF f 1 (iv (sk T n a))) 2 (iv w)) 4 (iv x))), (ht, ob 6 ft), (hb, ar 160 T), (hc, ar 160 C)]) rfl ?_
  refine S_istore_n X dX2_atom_4 rfl (nle rfl) ?_
  refine S_iload_n X dX2_atom_5 rfl rfl ?_
  refine S_calli X (kX5_isDigit l (ch T n (sk T n a)) (by omega)) (is := []) rfl (run_SU X lkX2_77 (is := []) (avs := [iv (ch T n (sk T n a))]) (rest := []) rfl rfl (nle rfl) ⟨by simp only [rmD]; omega, by simp only [rmD]; omega⟩ ⟨nle rfl, nle rfl⟩ dX2_atom_6 (by decide) rfl) (fun z_8 u_6 hp_7 => ?_)
  rcases hp_7 with ⟨hz_9, hu_10, hd_11⟩ | ⟨hz_12, hu_13, hd_14⟩
  ·
    subst hz_9
    subst hu_10
    refine ⟨rfl, ?_⟩
    refine S_w (ws' := [(h0, ob 2 (uF (uF (uF f 1 (iv (sk T n a))) 2 (iv w)) 4 (iv x))), (ht, ob 6 ft), (hb, ar 160 T), (hc, ar 160 C)]) rfl ?_
    refine S_if_eq (tgt := 41) X dX2_atom_9 (by decide) (by decide) (fun _ => ?_) (fun h9 => absurd h9 (by decide))
    refine S_iload_n X dX2_atom_41 rfl rfl ?_
    refine S_bipush X dX2_atom_42 rfl ?_
    refine S_icmp_eq (tgt := 71) X dX2_atom_44 (by decide) (by omega) (by decide) (fun c_16 => ?_) (fun c_16 => ?_)
    ·
      have hlt : sk T n a < n := ch_lt (T := T) (by omega)
      refine S_aload_n X dX2_atom_71 rfl rfl ?_
      refine S_dup X dX2_atom_72 ?_
      refine S_get (v := iv (sk T n a)) X fgX2_68_2 0 rfl rfl dX2_atom_73 ?_
      refine S_iconst X dX2_atom_76 ?_
      refine S_iadd X dX2_atom_77 ?_
      refine S_put X fpX2_68_2 0 rfl FT_i dX2_atom_78 ?_
      refine S_w (ws' := [(h0, ob 2 (uF (uF (uF f 1 (iv ((sk T n a) + 1))) 2 (iv w)) 4 (iv x))), (ht, ob 6 ft), (hb, ar 160 T), (hc, ar 160 C)]) (by simp only [List.set]; rw [uF_mv (j := 4) (k := 1) (by decide), uF_mv (j := 2) (k := 1) (by decide), uF_same (k := 1)]) ?_
      refine S_aload_n X dX2_atom_81 rfl rfl ?_
      refine S_iload_n X dX2_atom_82 rfl rfl ?_
      refine S_ineg X dX2_atom_83 ?_
      refine S_calli X (kX2_emit l h0 f ((sk T n a) + 1) w x hc C (-(ch T n (sk T n a))) hf3 (by (try simp only [List.length_append, List.length_singleton, Int.natCast_add, Int.natCast_one]); omega)) (is := [0, 3]) rfl (run_V X lkX2_56 0 rfl rfl (is := [0, 3]) (avs := [iv (-(ch T n (sk T n a)))]) (rest := []) rfl rfl (nle rfl) ⟨by simp only [rmD]; omega, by simp only [rmD]; omega⟩ ⟨nle rfl, nle rfl⟩ dX2_atom_84 (by decide) rfl) (fun z_19 u_17 hp_18 => ?_)
      obtain ⟨hz_20, hu_21⟩ := hp_18
      subst hz_20
      subst hu_21
      refine ⟨rfl, ?_⟩
      refine S_w (ws' := [(h0, ob 2 (uF (uF (uF f 1 (iv ((sk T n a) + 1))) 2 (iv w)) 4 (iv (x + 1)))), (ht, ob 6 ft), (hb, ar 160 T), (hc, ar 160 (uZ C x (-(ch T n (sk T n a)))))]) rfl ?_
      refine S_w (ws' := [(h0, ob 2 (uF (uF (uF f 1 (iv ((sk T n a) + 1))) 2 (iv w)) 4 (iv (x + (([-ch T n (sk T n a)]).length : Int))))), (ht, ob 6 ft), (hb, ar 160 T), (hc, ar 160 (wrL C x ([-ch T n (sk T n a)])))]) (by simp only [wrL_app, wrL, List.length_append, List.length_singleton, Int.natCast_add, Int.natCast_one, Int.add_assoc, List.append_assoc]) ?_
      exact S_zret X (Or.inr rfl) (nle rfl) (nle rfl) dX2_atom_87 (hPo _ _ (Or.inr ⟨_, [-ch T n (sk T n a)], rfl, rfl, pAtom_let (by assumption) (by omega)⟩))
    ·
      refine S_iload_n X dX2_atom_47 rfl rfl ?_
      refine S_bipush X dX2_atom_48 rfl ?_
      refine S_icmp_eq (tgt := 71) X dX2_atom_50 (by decide) (by omega) (by decide) (fun c_22 => ?_) (fun c_22 => ?_)
      ·
        have hlt : sk T n a < n := ch_lt (T := T) (by omega)
        refine S_aload_n X dX2_atom_71 rfl rfl ?_
        refine S_dup X dX2_atom_72 ?_
        refine S_get (v := iv (sk T n a)) X fgX2_68_2 0 rfl rfl dX2_atom_73 ?_
        refine S_iconst X dX2_atom_76 ?_
        refine S_iadd X dX2_atom_77 ?_
        refine S_put X fpX2_68_2 0 rfl FT_i dX2_atom_78 ?_
        refine S_w (ws' := [(h0, ob 2 (uF (uF (uF f 1 (iv ((sk T n a) + 1))) 2 (iv w)) 4 (iv x))), (ht, ob 6 ft), (hb, ar 160 T), (hc, ar 160 C)]) (by simp only [List.set]; rw [uF_mv (j := 4) (k := 1) (by decide), uF_mv (j := 2) (k := 1) (by decide), uF_same (k := 1)]) ?_
        refine S_aload_n X dX2_atom_81 rfl rfl ?_
        refine S_iload_n X dX2_atom_82 rfl rfl ?_
        refine S_ineg X dX2_atom_83 ?_
        refine S_calli X (kX2_emit l h0 f ((sk T n a) + 1) w x hc C (-(ch T n (sk T n a))) hf3 (by (try simp only [List.length_append, List.length_singleton, Int.natCast_add, Int.natCast_one]); omega)) (is := [0, 3]) rfl (run_V X lkX2_56 0 rfl rfl (is := [0, 3]) (avs := [iv (-(ch T n (sk T n a)))]) (rest := []) rfl rfl (nle rfl) ⟨by simp only [rmD]; omega, by simp only [rmD]; omega⟩ ⟨nle rfl, nle rfl⟩ dX2_atom_84 (by decide) rfl) (fun z_25 u_23 hp_24 => ?_)
        obtain ⟨hz_26, hu_27⟩ := hp_24
        subst hz_26
        subst hu_27
        refine ⟨rfl, ?_⟩
        refine S_w (ws' := [(h0, ob 2 (uF (uF (uF f 1 (iv ((sk T n a) + 1))) 2 (iv w)) 4 (iv (x + 1)))), (ht, ob 6 ft), (hb, ar 160 T), (hc, ar 160 (uZ C x (-(ch T n (sk T n a)))))]) rfl ?_
        refine S_w (ws' := [(h0, ob 2 (uF (uF (uF f 1 (iv ((sk T n a) + 1))) 2 (iv w)) 4 (iv (x + (([-ch T n (sk T n a)]).length : Int))))), (ht, ob 6 ft), (hb, ar 160 T), (hc, ar 160 (wrL C x ([-ch T n (sk T n a)])))]) (by simp only [wrL_app, wrL, List.length_append, List.length_singleton, Int.natCast_add, Int.natCast_one, Int.add_assoc, List.append_assoc]) ?_
        exact S_zret X (Or.inr rfl) (nle rfl) (nle rfl) dX2_atom_87 (hPo _ _ (Or.inr ⟨_, [-ch T n (sk T n a)], rfl, rfl, pAtom_let (by assumption) (by omega)⟩))
      ·
        refine S_iload_n X dX2_atom_53 rfl rfl ?_
        refine S_bipush X dX2_atom_54 rfl ?_
        refine S_icmp_eq (tgt := 71) X dX2_atom_56 (by decide) (by omega) (by decide) (fun c_28 => ?_) (fun c_28 => ?_)
        ·
          have hlt : sk T n a < n := ch_lt (T := T) (by omega)
          refine S_aload_n X dX2_atom_71 rfl rfl ?_
          refine S_dup X dX2_atom_72 ?_
          refine S_get (v := iv (sk T n a)) X fgX2_68_2 0 rfl rfl dX2_atom_73 ?_
          refine S_iconst X dX2_atom_76 ?_
          refine S_iadd X dX2_atom_77 ?_
          refine S_put X fpX2_68_2 0 rfl FT_i dX2_atom_78 ?_
          refine S_w (ws' := [(h0, ob 2 (uF (uF (uF f 1 (iv ((sk T n a) + 1))) 2 (iv w)) 4 (iv x))), (ht, ob 6 ft), (hb, ar 160 T), (hc, ar 160 C)]) (by simp only [List.set]; rw [uF_mv (j := 4) (k := 1) (by decide), uF_mv (j := 2) (k := 1) (by decide), uF_same (k := 1)]) ?_
          refine S_aload_n X dX2_atom_81 rfl rfl ?_
          refine S_iload_n X dX2_atom_82 rfl rfl ?_
          refine S_ineg X dX2_atom_83 ?_
          refine S_calli X (kX2_emit l h0 f ((sk T n a) + 1) w x hc C (-(ch T n (sk T n a))) hf3 (by (try simp only [List.length_append, List.length_singleton, Int.natCast_add, Int.natCast_one]); omega)) (is := [0, 3]) rfl (run_V X lkX2_56 0 rfl rfl (is := [0, 3]) (avs := [iv (-(ch T n (sk T n a)))]) (rest := []) rfl rfl (nle rfl) ⟨by simp only [rmD]; omega, by simp only [rmD]; omega⟩ ⟨nle rfl, nle rfl⟩ dX2_atom_84 (by decide) rfl) (fun z_31 u_29 hp_30 => ?_)
          obtain ⟨hz_32, hu_33⟩ := hp_30
          subst hz_32
          subst hu_33
          refine ⟨rfl, ?_⟩
          refine S_w (ws' := [(h0, ob 2 (uF (uF (uF f 1 (iv ((sk T n a) + 1))) 2 (iv w)) 4 (iv (x + 1)))), (ht, ob 6 ft), (hb, ar 160 T), (hc, ar 160 (uZ C x (-(ch T n (sk T n a)))))]) rfl ?_
          refine S_w (ws' := [(h0, ob 2 (uF (uF (uF f 1 (iv ((sk T n a) + 1))) 2 (iv w)) 4 (iv (x + (([-ch T n (sk T n a)]).length : Int))))), (ht, ob 6 ft), (hb, ar 160 T), (hc, ar 160 (wrL C x ([-ch T n (sk T n a)])))]) (by simp only [wrL_app, wrL, List.length_append, List.length_singleton, Int.natCast_add, Int.natCast_one, Int.add_assoc, List.append_assoc]) ?_
          exact S_zret X (Or.inr rfl) (nle rfl) (nle rfl) dX2_atom_87 (hPo _ _ (Or.inr ⟨_, [-ch T n (sk T n a)], rfl, rfl, pAtom_let (by assumption) (by omega)⟩))
        ·
          refine S_iload_n X dX2_atom_59 rfl rfl ?_
          refine S_bipush X dX2_atom_60 rfl ?_
          refine S_icmp_eq (tgt := 71) X dX2_atom_62 (by decide) (by omega) (by decide) (fun c_34 => ?_) (fun c_34 => ?_)
          ·
            have hlt : sk T n a < n := ch_lt (T := T) (by omega)
            refine S_aload_n X dX2_atom_71 rfl rfl ?_
            refine S_dup X dX2_atom_72 ?_
            refine S_get (v := iv (sk T n a)) X fgX2_68_2 0 rfl rfl dX2_atom_73 ?_
            refine S_iconst X dX2_atom_76 ?_
            refine S_iadd X dX2_atom_77 ?_
            refine S_put X fpX2_68_2 0 rfl FT_i dX2_atom_78 ?_
            refine S_w (ws' := [(h0, ob 2 (uF (uF (uF f 1 (iv ((sk T n a) + 1))) 2 (iv w)) 4 (iv x))), (ht, ob 6 ft), (hb, ar 160 T), (hc, ar 160 C)]) (by simp only [List.set]; rw [uF_mv (j := 4) (k := 1) (by decide), uF_mv (j := 2) (k := 1) (by decide), uF_same (k := 1)]) ?_
            refine S_aload_n X dX2_atom_81 rfl rfl ?_
            refine S_iload_n X dX2_atom_82 rfl rfl ?_
            refine S_ineg X dX2_atom_83 ?_
            refine S_calli X (kX2_emit l h0 f ((sk T n a) + 1) w x hc C (-(ch T n (sk T n a))) hf3 (by (try simp only [List.length_append, List.length_singleton, Int.natCast_add, Int.natCast_one]); omega)) (is := [0, 3]) rfl (run_V X lkX2_56 0 rfl rfl (is := [0, 3]) (avs := [iv (-(ch T n (sk T n a)))]) (rest := []) rfl rfl (nle rfl) ⟨by simp only [rmD]; omega, by simp only [rmD]; omega⟩ ⟨nle rfl, nle rfl⟩ dX2_atom_84 (by decide) rfl) (fun z_37 u_35 hp_36 => ?_)
            obtain ⟨hz_38, hu_39⟩ := hp_36
            subst hz_38
            subst hu_39
            refine ⟨rfl, ?_⟩
            refine S_w (ws' := [(h0, ob 2 (uF (uF (uF f 1 (iv ((sk T n a) + 1))) 2 (iv w)) 4 (iv (x + 1)))), (ht, ob 6 ft), (hb, ar 160 T), (hc, ar 160 (uZ C x (-(ch T n (sk T n a)))))]) rfl ?_
            refine S_w (ws' := [(h0, ob 2 (uF (uF (uF f 1 (iv ((sk T n a) + 1))) 2 (iv w)) 4 (iv (x + (([-ch T n (sk T n a)]).length : Int))))), (ht, ob 6 ft), (hb, ar 160 T), (hc, ar 160 (wrL C x ([-ch T n (sk T n a)])))]) (by simp only [wrL_app, wrL, List.length_append, List.length_singleton, Int.natCast_add, Int.natCast_one, Int.add_assoc, List.append_assoc]) ?_
            exact S_zret X (Or.inr rfl) (nle rfl) (nle rfl) dX2_atom_87 (hPo _ _ (Or.inr ⟨_, [-ch T n (sk T n a)], rfl, rfl, pAtom_let (by assumption) (by omega)⟩))
          ·
            refine S_iload_n X dX2_atom_65 rfl rfl ?_
            refine S_bipush X dX2_atom_66 rfl ?_
            refine S_icmp_ne (tgt := 88) X dX2_atom_68 (by decide) (by omega) (by decide) (fun c_40 => ?_) (fun c_40 => ?_)
            ·
              refine S_iload_n X dX2_atom_88 rfl rfl ?_
              refine S_bipush X dX2_atom_89 rfl ?_
              refine S_icmp_ne (tgt := 100) X dX2_atom_91 (by decide) (by omega) (by decide) (fun c_41 => ?_) (fun c_41 => ?_)
              ·
                refine S_aload_n X dX2_atom_100 rfl rfl ?_
                refine S_calli X (kX5_fail_2 l h0 ht hb f ft T n (sk T n a) w x hf0 hf1 hf2) (is := [0, 1, 2]) rfl (run_U X lkX2_36_2 0 rfl rfl (is := [0, 1, 2]) (avs := []) (rest := []) rfl rfl (nle rfl) ⟨by simp only [rmD]; omega, by simp only [rmD]; omega⟩ ⟨nle rfl, nle rfl⟩ dX2_atom_101 (by decide) rfl) (fun z_44 u_42 hp_43 => ?_)
                obtain ⟨hz_45, hu_46⟩ := hp_43
                subst hz_45
                subst hu_46
                refine ⟨rfl, ?_⟩
                refine S_w (ws' := [(h0, ob 2 (uF (uF (uF f 1 (iv (sk T n a))) 2 (iv (sk T n a))) 4 (iv x))), (ht, ob 6 ft), (hb, ar 160 T), (hc, ar 160 C)]) rfl ?_
                exact S_zret X (Or.inl rfl) (nle rfl) (nle rfl) dX2_atom_104 (hPo _ _ (Or.inl ⟨_, _, _, _, rfl, rfl, pAtom_no (by assumption) (by omega) (by omega)⟩))
              ·
                refine S_iload_n X dX2_atom_94 rfl rfl ?_
                refine S_bipush X dX2_atom_95 rfl ?_
                refine S_icmp_lt (tgt := 105) X dX2_atom_97 (by decide) (by omega) (by decide) (fun c_47 => ?_) (fun c_47 => ?_)
                ·
                  have hlt : sk T n a < n := ch_lt (T := T) (by omega)
                  obtain ⟨K2, hK2⟩ : ∃ K2 : Nat, K = K2 + 1 := ⟨K - 1, by omega⟩
                  refine S_aload_n X dX2_atom_105 rfl rfl ?_
                  refine S_dup X dX2_atom_106 ?_
                  refine S_get (v := iv (sk T n a)) X fgX2_68_2 0 rfl rfl dX2_atom_107 ?_
                  refine S_iconst X dX2_atom_110 ?_
                  refine S_iadd X dX2_atom_111 ?_
                  refine S_put X fpX2_68_2 0 rfl FT_i dX2_atom_112 ?_
                  refine S_w (ws' := [(h0, ob 2 (uF (uF (uF f 1 (iv ((sk T n a) + 1))) 2 (iv w)) 4 (iv x))), (ht, ob 6 ft), (hb, ar 160 T), (hc, ar 160 C)]) (by simp only [List.set]; rw [uF_mv (j := 4) (k := 1) (by decide), uF_mv (j := 2) (k := 1) (by decide), uF_same (k := 1)]) ?_
                  refine S_aload_n X dX2_atom_115 rfl rfl ?_
                  refine S_iload_n X dX2_atom_116 rfl rfl ?_
                  refine S_iconst X dX2_atom_117 ?_
                  refine S_iadd X dX2_atom_118 ?_
                  refine S_calli X ((hnx K2 hK2) h0 ht hb f ft T n ((sk T n a) + 1) w x hc C (wi + 1) hf0 hf1 hf2 hf3 (by omega) (by omega) (by (try simp only [List.length_append, List.length_singleton, Int.natCast_add, Int.natCast_one]); omega) (by omega) (by omega)) (is := [0, 1, 2, 3]) rfl (run_V X lkX2_50 0 rfl rfl (is := [0, 1, 2, 3]) (avs := [iv (wi + 1)]) (rest := []) rfl rfl (nle rfl) ⟨by simp only [rmD]; omega, by simp only [rmD]; omega⟩ ⟨nle rfl, nle rfl⟩ dX2_atom_119 (by decide) rfl) (fun z_50 u_48 hp_49 => ?_)
                  rcases hp_49 with ⟨a2_51, fl_52, x2_53, C2_54, hz_55, hu_56, hq_57⟩ | ⟨a2_58, ts_59, hz_60, hu_61, hq_62⟩
                  ·
                    subst hz_55
                    subst hu_56
                    refine ⟨rfl, ?_⟩
                    refine S_w (ws' := [(h0, ob 2 (uF (uF (uF f 1 (iv a2_51)) 2 (iv fl_52)) 4 (iv x2_53))), (ht, ob 6 ft), (hb, ar 160 T), (hc, ar 160 C2_54)]) rfl ?_
                    refine S_if_eq (tgt := 145) X dX2_atom_122 (by decide) (by decide) (fun _ => ?_) (fun h9 => absurd h9 (by decide))
                    refine S_iconst X dX2_atom_145 ?_
                    exact S_zret X (Or.inl rfl) (nle rfl) (nle rfl) dX2_atom_146 (hPo _ _ (Or.inl ⟨_, _, _, _, rfl, rfl, by rw [hK2]; exact pAtom_brf (by assumption) hq_57⟩))
                  ·
                    subst hz_60
                    subst hu_61
                    refine ⟨rfl, ?_⟩
                    refine S_w (ws' := [(h0, ob 2 (uF (uF (uF f 1 (iv a2_58)) 2 (iv w)) 4 (iv (x + (ts_59.length : Int))))), (ht, ob 6 ft), (hb, ar 160 T), (hc, ar 160 (wrL C x ts_59))]) rfl ?_
                    refine S_w (ws' := [(h0, ob 2 (uF (uF (uF f 1 (iv a2_58)) 2 (iv w)) 4 (iv (x + ((ts_59).length : Int))))), (ht, ob 6 ft), (hb, ar 160 T), (hc, ar 160 (wrL C x (ts_59)))]) (by simp only [wrL_app, wrL, List.length_append, List.length_singleton, Int.natCast_add, Int.natCast_one, Int.add_assoc, List.append_assoc]) ?_
                    have ho_63 := ((pAS_ok (T := T) hn1 K2).2 (sk T n a + 1) (by omega) (by omega)).2 _ hq_62
                    dsimp only at ho_63
                    refine S_if_eq (tgt := 145) X dX2_atom_122 (by decide) (by decide) (fun h9 => absurd h9 (by decide)) (fun _ => ?_)
                    refine S_aload_n X dX2_atom_125 rfl rfl ?_
                    refine S_bipush X dX2_atom_126 rfl ?_
                    refine S_calli X (kX5_take_2 l h0 ht hb f ft T n a2_58 w (x + ((ts_59).length : Int)) 93 hf0 hf1 hf2 (by omega) (by omega) (by omega)) (is := [0, 1, 2]) rfl (run_U X lkX2_32_2 0 rfl rfl (is := [0, 1, 2]) (avs := [iv 93]) (rest := []) rfl rfl (nle rfl) ⟨by simp only [rmD]; omega, by simp only [rmD]; omega⟩ ⟨nle rfl, nle rfl⟩ dX2_atom_128 (by decide) rfl) (fun z_67 u_65 hp_66 => ?_)
                    rcases hp_66 with ⟨hz_68, hu_69, hq_70⟩ | ⟨hz_71, hu_72, hq_73⟩
                    ·
                      subst hz_68
                      subst hu_69
                      refine ⟨rfl, ?_⟩
                      refine S_w (ws' := [(h0, ob 2 (uF (uF (uF f 1 (iv (sk T n a2_58))) 2 (iv w)) 4 (iv (x + ((ts_59).length : Int))))), (ht, ob 6 ft), (hb, ar 160 T), (hc, ar 160 (wrL C x (ts_59)))]) rfl ?_
                      refine S_if_ne (tgt := 141) X dX2_atom_131 (by decide) (by decide) (fun h9 => absurd h9 (by decide)) (fun _ => ?_)
                      refine S_aload_n X dX2_atom_134 rfl rfl ?_
                      refine S_calli X (kX5_fail_2 l h0 ht hb f ft T n (sk T n a2_58) w (x + ((ts_59).length : Int)) hf0 hf1 hf2) (is := [0, 1, 2]) rfl (run_U X lkX2_36_2 0 rfl rfl (is := [0, 1, 2]) (avs := []) (rest := []) rfl rfl (nle rfl) ⟨by simp only [rmD]; omega, by simp only [rmD]; omega⟩ ⟨nle rfl, nle rfl⟩ dX2_atom_135 (by decide) rfl) (fun z_77 u_75 hp_76 => ?_)
                      obtain ⟨hz_78, hu_79⟩ := hp_76
                      subst hz_78
                      subst hu_79
                      refine ⟨rfl, ?_⟩
                      refine S_w (ws' := [(h0, ob 2 (uF (uF (uF f 1 (iv (sk T n a2_58))) 2 (iv (sk T n a2_58))) 4 (iv (x + ((ts_59).length : Int))))), (ht, ob 6 ft), (hb, ar 160 T), (hc, ar 160 (wrL C x (ts_59)))]) rfl ?_
                      refine S_if_eq (tgt := 145) X dX2_atom_138 (by decide) (by decide) (fun _ => ?_) (fun h9 => absurd h9 (by decide))
                      refine S_iconst X dX2_atom_145 ?_
                      exact S_zret X (Or.inl rfl) (nle rfl) (nle rfl) dX2_atom_146 (hPo _ _ (Or.inl ⟨_, _, _, _, rfl, rfl, by rw [hK2]; exact (pAtom_br (by assumption) hq_62).trans (if_neg hq_70)⟩))
                    ·
                      subst hz_71
                      subst hu_72
                      refine ⟨rfl, ?_⟩
                      refine S_w (ws' := [(h0, ob 2 (uF (uF (uF f 1 (iv (sk T n a2_58 + 1))) 2 (iv w)) 4 (iv (x + ((ts_59).length : Int))))), (ht, ob 6 ft), (hb, ar 160 T), (hc, ar 160 (wrL C x (ts_59)))]) rfl ?_
                      refine S_if_ne (tgt := 141) X dX2_atom_131 (by decide) (by decide) (fun _ => ?_) (fun h9 => absurd h9 (by decide))
                      refine S_iconst X dX2_atom_141 ?_
                      refine S_goto (tgt := 146) X dX2_atom_142 (by decide) ?_
                      exact S_zret X (Or.inr rfl) (nle rfl) (nle rfl) dX2_atom_146 (hPo _ _ (Or.inr ⟨_, ts_59, rfl, rfl, by rw [hK2]; exact (pAtom_br (by assumption) hq_62).trans (if_pos hq_73)⟩))
                ·
                  refine S_aload_n X dX2_atom_100 rfl rfl ?_
                  refine S_calli X (kX5_fail_2 l h0 ht hb f ft T n (sk T n a) w x hf0 hf1 hf2) (is := [0, 1, 2]) rfl (run_U X lkX2_36_2 0 rfl rfl (is := [0, 1, 2]) (avs := []) (rest := []) rfl rfl (nle rfl) ⟨by simp only [rmD]; omega, by simp only [rmD]; omega⟩ ⟨nle rfl, nle rfl⟩ dX2_atom_101 (by decide) rfl) (fun z_84 u_82 hp_83 => ?_)
                  obtain ⟨hz_85, hu_86⟩ := hp_83
                  subst hz_85
                  subst hu_86
                  refine ⟨rfl, ?_⟩
                  refine S_w (ws' := [(h0, ob 2 (uF (uF (uF f 1 (iv (sk T n a))) 2 (iv (sk T n a))) 4 (iv x))), (ht, ob 6 ft), (hb, ar 160 T), (hc, ar 160 C)]) rfl ?_
                  exact S_zret X (Or.inl rfl) (nle rfl) (nle rfl) dX2_atom_104 (hPo _ _ (Or.inl ⟨_, _, _, _, rfl, rfl, pAtom_no (by assumption) (by omega) (by omega)⟩))
            ·
              have hlt : sk T n a < n := ch_lt (T := T) (by omega)
              refine S_aload_n X dX2_atom_71 rfl rfl ?_
              refine S_dup X dX2_atom_72 ?_
              refine S_get (v := iv (sk T n a)) X fgX2_68_2 0 rfl rfl dX2_atom_73 ?_
              refine S_iconst X dX2_atom_76 ?_
              refine S_iadd X dX2_atom_77 ?_
              refine S_put X fpX2_68_2 0 rfl FT_i dX2_atom_78 ?_
              refine S_w (ws' := [(h0, ob 2 (uF (uF (uF f 1 (iv ((sk T n a) + 1))) 2 (iv w)) 4 (iv x))), (ht, ob 6 ft), (hb, ar 160 T), (hc, ar 160 C)]) (by simp only [List.set]; rw [uF_mv (j := 4) (k := 1) (by decide), uF_mv (j := 2) (k := 1) (by decide), uF_same (k := 1)]) ?_
              refine S_aload_n X dX2_atom_81 rfl rfl ?_
              refine S_iload_n X dX2_atom_82 rfl rfl ?_
              refine S_ineg X dX2_atom_83 ?_
              refine S_calli X (kX2_emit l h0 f ((sk T n a) + 1) w x hc C (-(ch T n (sk T n a))) hf3 (by (try simp only [List.length_append, List.length_singleton, Int.natCast_add, Int.natCast_one]); omega)) (is := [0, 3]) rfl (run_V X lkX2_56 0 rfl rfl (is := [0, 3]) (avs := [iv (-(ch T n (sk T n a)))]) (rest := []) rfl rfl (nle rfl) ⟨by simp only [rmD]; omega, by simp only [rmD]; omega⟩ ⟨nle rfl, nle rfl⟩ dX2_atom_84 (by decide) rfl) (fun z_89 u_87 hp_88 => ?_)
              obtain ⟨hz_90, hu_91⟩ := hp_88
              subst hz_90
              subst hu_91
              refine ⟨rfl, ?_⟩
              refine S_w (ws' := [(h0, ob 2 (uF (uF (uF f 1 (iv ((sk T n a) + 1))) 2 (iv w)) 4 (iv (x + 1)))), (ht, ob 6 ft), (hb, ar 160 T), (hc, ar 160 (uZ C x (-(ch T n (sk T n a)))))]) rfl ?_
              refine S_w (ws' := [(h0, ob 2 (uF (uF (uF f 1 (iv ((sk T n a) + 1))) 2 (iv w)) 4 (iv (x + (([-ch T n (sk T n a)]).length : Int))))), (ht, ob 6 ft), (hb, ar 160 T), (hc, ar 160 (wrL C x ([-ch T n (sk T n a)])))]) (by simp only [wrL_app, wrL, List.length_append, List.length_singleton, Int.natCast_add, Int.natCast_one, Int.add_assoc, List.append_assoc]) ?_
              exact S_zret X (Or.inr rfl) (nle rfl) (nle rfl) dX2_atom_87 (hPo _ _ (Or.inr ⟨_, [-ch T n (sk T n a)], rfl, rfl, pAtom_let (by assumption) (by omega)⟩))
  ·
    subst hz_12
    subst hu_13
    refine ⟨rfl, ?_⟩
    refine S_w (ws' := [(h0, ob 2 (uF (uF (uF f 1 (iv (sk T n a))) 2 (iv w)) 4 (iv x))), (ht, ob 6 ft), (hb, ar 160 T), (hc, ar 160 C)]) rfl ?_
    refine S_if_eq (tgt := 41) X dX2_atom_9 (by decide) (by decide) (fun h9 => absurd h9 (by decide)) (fun _ => ?_)
    refine S_aload_n X dX2_atom_12 rfl rfl ?_
    refine S_iconst X dX2_atom_13 ?_
    refine S_iconst X dX2_atom_14 ?_
    refine S_sipush X dX2_atom_15 rfl ?_
    refine S_calli X (kX5_readNumber_2 l h0 ht hb f ft T n (sk T n a) w x 4 0 9999 hf0 hf1 hf2 (by omega) (by omega) (by omega)) (is := [0, 1, 2]) rfl (run_U X lkX2_80_2 0 rfl rfl (is := [0, 1, 2]) (avs := [iv 4, iv 0, iv 9999]) (rest := []) rfl rfl (nle rfl) ⟨by simp only [rmD]; omega, by simp only [rmD]; omega⟩ ⟨nle rfl, nle rfl⟩ dX2_atom_18 (by decide) rfl) (fun z_95 u_93 hp_94 => ?_)
    rcases hp_94 with ⟨a2_96, fl_97, hz_98, hu_99, hq_100, hr_101⟩ | ⟨a2_102, v2_103, hz_104, hu_105, hq_106⟩
    ·
      subst hz_98
      subst hu_99
      refine ⟨rfl, ?_⟩
      refine S_w (ws' := [(h0, ob 2 (uF (uF (uF f 1 (iv a2_96)) 2 (iv fl_97)) 4 (iv x))), (ht, ob 6 ft), (hb, ar 160 T), (hc, ar 160 C)]) rfl ?_
      refine S_istore_n X dX2_atom_21 rfl (nle rfl) ?_
      refine S_iload_n X dX2_atom_22 rfl rfl ?_
      refine S_iconst X dX2_atom_23 ?_
      refine S_icmp_eq (tgt := 39) X dX2_atom_24 (by decide) (by decide) (by decide) (fun _ => ?_) (fun h9 => absurd h9 (by decide))
      refine S_iconst X dX2_atom_39 ?_
      exact S_zret X (Or.inl rfl) (nle rfl) (nle rfl) dX2_atom_40 (hPo _ _ (Or.inl ⟨_, _, _, _, rfl, rfl, by rw [pAtom_num (by assumption), hq_100]⟩))
    ·
      subst hz_104
      subst hu_105
      refine ⟨rfl, ?_⟩
      refine S_w (ws' := [(h0, ob 2 (uF (uF (uF f 1 (iv a2_102)) 2 (iv w)) 4 (iv x))), (ht, ob 6 ft), (hb, ar 160 T), (hc, ar 160 C)]) rfl ?_
      have hpn := (pNum_in (T := T) (n := n) (dg := 4) (lo := 0) (hi := 9999) (a := sk T n a) (by omega) (by decide) hn1 (by omega)).2 _ hq_106
      dsimp only at hpn
      refine S_istore_n X dX2_atom_21 rfl (nle rfl) ?_
      refine S_iload_n X dX2_atom_22 rfl rfl ?_
      refine S_iconst X dX2_atom_23 ?_
      refine S_icmp_eq (tgt := 39) X dX2_atom_24 (by decide) (by omega) (by decide) (fun c_108 => by exfalso; omega) (fun c_108 => ?_)
      refine S_aload_n X dX2_atom_27 rfl rfl ?_
      refine S_iload_n X dX2_atom_28 rfl rfl ?_
      refine S_calli X (kX2_emit l h0 f a2_102 w x hc C z_95 hf3 (by (try simp only [List.length_append, List.length_singleton, Int.natCast_add, Int.natCast_one]); omega)) (is := [0, 3]) rfl (run_V X lkX2_56 0 rfl rfl (is := [0, 3]) (avs := [iv z_95]) (rest := []) rfl rfl (nle rfl) ⟨by simp only [rmD]; omega, by simp only [rmD]; omega⟩ ⟨nle rfl, nle rfl⟩ dX2_atom_29 (by decide) rfl) (fun z_111 u_109 hp_110 => ?_)
      obtain ⟨hz_112, hu_113⟩ := hp_110
      subst hz_112
      subst hu_113
      refine ⟨rfl, ?_⟩
      refine S_w (ws' := [(h0, ob 2 (uF (uF (uF f 1 (iv a2_102)) 2 (iv w)) 4 (iv (x + 1)))), (ht, ob 6 ft), (hb, ar 160 T), (hc, ar 160 (uZ C x z_95))]) rfl ?_
      refine S_w (ws' := [(h0, ob 2 (uF (uF (uF f 1 (iv a2_102)) 2 (iv w)) 4 (iv (x + (([z_95]).length : Int))))), (ht, ob 6 ft), (hb, ar 160 T), (hc, ar 160 (wrL C x ([z_95])))]) (by simp only [wrL_app, wrL, List.length_append, List.length_singleton, Int.natCast_add, Int.natCast_one, Int.add_assoc, List.append_assoc]) ?_
      refine S_if_eq (tgt := 39) X dX2_atom_32 (by decide) (by decide) (fun h9 => absurd h9 (by decide)) (fun _ => ?_)
      refine S_iconst X dX2_atom_35 ?_
      refine S_goto (tgt := 40) X dX2_atom_36 (by decide) ?_
      exact S_zret X (Or.inr rfl) (nle rfl) (nle rfl) dX2_atom_40 (hPo _ _ (Or.inr ⟨_, [z_95], rfl, rfl, by rw [pAtom_num (by assumption), hq_106]⟩))
set_option maxHeartbeats 4000000 in
set_option maxRecDepth 100000 in
theorem kX2_sum (l : Launch) (K : Nat) (d : Nat) (hd : 5 ≤ d) (hat : C_X2_atom l K d) : C_X2_sum l K (d + 1) := by
  intro h0 ht hb f ft T n a w x hc C wi hf0 hf1 hf2 hf3 hT ha hx hw h6
  refine AMi.of2 rfl (nle rfl) ?_
  intro D G A p e s m args below meth c Po hPo X
  obtain ⟨hn0, hn1, hT2⟩ := id hT
  have hsk := sk_in (T := T) ha.2
  have hch := ch_in (a := sk T n a) hT (by omega)
  refine S_iconst X dX2_sum_0 ?_
  refine S_istore_n X dX2_sum_1 rfl (nle rfl) ?_
  refine S_aload_n X dX2_sum_2 rfl rfl ?_
  refine S_iload_n X dX2_sum_3 rfl rfl ?_
  refine S_calli X (hat h0 ht hb f ft T n a w x hc C wi hf0 hf1 hf2 hf3 (by omega) (by omega) (by (try simp only [List.length_append, List.length_singleton, Int.natCast_add, Int.natCast_one]); omega) (by omega) (by omega)) (is := [0, 1, 2, 3]) rfl (run_V X lkX2_74 0 rfl rfl (is := [0, 1, 2, 3]) (avs := [iv wi]) (rest := []) rfl rfl (nle rfl) ⟨by simp only [rmD]; omega, by simp only [rmD]; omega⟩ ⟨nle rfl, nle rfl⟩ dX2_sum_4 (by decide) rfl) (fun z_3 u_1 hp_2 => ?_)
  rcases hp_2 with ⟨a2_4, fl_5, x2_6, C2_7, hz_8, hu_9, hq_10⟩ | ⟨a2_11, ts_12, hz_13, hu_14, hq_15⟩
  ·
    subst hz_8
    subst hu_9
    refine ⟨rfl, ?_⟩
    refine S_w (ws' := [(h0, ob 2 (uF (uF (uF f 1 (iv a2_4)) 2 (iv fl_5)) 4 (iv x2_6))), (ht, ob 6 ft), (hb, ar 160 T), (hc, ar 160 C2_7)]) rfl ?_
    refine S_if_ne (tgt := 12) X dX2_sum_7 (by decide) (by decide) (fun h9 => absurd h9 (by decide)) (fun _ => ?_)
    refine S_iconst X dX2_sum_10 ?_
    exact S_zret X (Or.inl rfl) (nle rfl) (nle rfl) dX2_sum_11 (hPo _ _ (Or.inl ⟨_, _, _, _, rfl, rfl, pSum_f hq_10⟩))
  ·
    subst hz_13
    subst hu_14
    refine ⟨rfl, ?_⟩
    refine S_w (ws' := [(h0, ob 2 (uF (uF (uF f 1 (iv a2_11)) 2 (iv w)) 4 (iv (x + (ts_12.length : Int))))), (ht, ob 6 ft), (hb, ar 160 T), (hc, ar 160 (wrL C x ts_12))]) rfl ?_
    refine S_w (ws' := [(h0, ob 2 (uF (uF (uF f 1 (iv a2_11)) 2 (iv w)) 4 (iv (x + ((ts_12).length : Int))))), (ht, ob 6 ft), (hb, ar 160 T), (hc, ar 160 (wrL C x (ts_12)))]) (by simp only [wrL_app, wrL, List.length_append, List.length_singleton, Int.natCast_add, Int.natCast_one, Int.add_assoc, List.append_assoc]) ?_
    have ho_16 := ((pAS_ok (T := T) hn1 K).1 a ha.1 ha.2).2 _ hq_15
    dsimp only at ho_16
    refine S_if_ne (tgt := 12) X dX2_sum_7 (by decide) (by decide) (fun _ => ?_) (fun h9 => absurd h9 (by decide))
    refine S_iconst X dX2_sum_12 ?_
    refine S_istore_n X dX2_sum_13 rfl (nle rfl) ?_
    have lp14_1 : ∀ (N : Nat) (i : Int) (a1 : Int) (w1 : Int) (acc : List Int) (L : Nat → Option AV), 0 ≤ i ∧ i ≤ 161 ∧ a < a1 ∧ a1 ≤ n → (w1 = 0 ∧ x + (acc.length : Int) < a1) ∨ ((w1 = 43 ∨ w1 = 45) ∧ x + (acc.length : Int) + 1 < a1) → (∀ z9, sumL T n (pAtom T n K) (161 - i.toNat) w1 a1 acc = z9 → pSum T n K a = z9) → L 0 = some (rv h0) → L 1 = some (iv wi) → L 2 = some (iv w1) → L 3 = some (iv i) → 162 - i < (N : Int) → S_ p l e (rmD (d + 1) 0 0) s m args below meth c (MQ below (QcI D G A Po) args s 0 0 A) D G A 6 0 0 14 L [] [(h0, ob 2 (uF (uF (uF f 1 (iv a1)) 2 (iv w)) 4 (iv (x + ((acc).length : Int))))), (ht, ob 6 ft), (hb, ar 160 T), (hc, ar 160 (wrL C x (acc)))] := by
      intro N
      induction N with
      | zero =>
        intro i a1 w1 acc L14 hi hbd hk hL14_0 hL14_1 hL14_2 hL14_3 hN14
        exfalso; omega
      | succ N ih14 =>
        intro i a1 w1 acc L14 hi hbd hk hL14_0 hL14_1 hL14_2 hL14_3 hN14
        refine S_iload_n X dX2_sum_14 rfl hL14_3 ?_
        refine S_sipush X dX2_sum_15 rfl ?_
        refine S_icmp_gt (tgt := 153) X dX2_sum_18 (by decide) (by omega) (by decide) (fun c_18 => ?_) (fun c_18 => ?_)
        ·
          refine S_aload_n X dX2_sum_153 rfl hL14_0 ?_
          refine S_calli X (kX5_fail_2 l h0 ht hb f ft T n a1 w (x + ((acc).length : Int)) hf0 hf1 hf2) (is := [0, 1, 2]) rfl (run_U X lkX2_36_2 0 rfl rfl (is := [0, 1, 2]) (avs := []) (rest := []) rfl rfl (nle rfl) ⟨by simp only [rmD]; omega, by simp only [rmD]; omega⟩ ⟨nle rfl, nle rfl⟩ dX2_sum_154 (by decide) rfl) (fun z_21 u_19 hp_20 => ?_)
          obtain ⟨hz_22, hu_23⟩ := hp_20
          subst hz_22
          subst hu_23
          refine ⟨rfl, ?_⟩
          refine S_w (ws' := [(h0, ob 2 (uF (uF (uF f 1 (iv a1)) 2 (iv a1)) 4 (iv (x + ((acc).length : Int))))), (ht, ob 6 ft), (hb, ar 160 T), (hc, ar 160 (wrL C x (acc)))]) rfl ?_
          exact S_zret X (Or.inl rfl) (nle rfl) (nle rfl) dX2_sum_157 (hPo _ _ (Or.inl ⟨_, _, _, _, rfl, rfl, hk _ (by rw [show 161 - i.toNat = 0 by omega]; rfl)⟩))
        ·
          refine S_aload_n X dX2_sum_21 rfl hL14_0 ?_
          refine S_calli X (kX5_peek_2 l h0 ht hb f ft T n a1 w (x + ((acc).length : Int)) hf0 hf1 hf2 (by omega) (by omega)) (is := [0, 1, 2]) rfl (run_U X lkX2_40_2 0 rfl rfl (is := [0, 1, 2]) (avs := []) (rest := []) rfl rfl (nle rfl) ⟨by simp only [rmD]; omega, by simp only [rmD]; omega⟩ ⟨nle rfl, nle rfl⟩ dX2_sum_22 (by decide) rfl) (fun z_26 u_24 hp_25 => ?_)
          obtain ⟨hz_27, hu_28⟩ := hp_25
          subst hz_27
          subst hu_28
          refine ⟨rfl, ?_⟩
          refine S_w (ws' := [(h0, ob 2 (uF (uF (uF f 1 (iv (sk T n a1))) 2 (iv w)) 4 (iv (x + ((acc).length : Int))))), (ht, ob 6 ft), (hb, ar 160 T), (hc, ar 160 (wrL C x (acc)))]) rfl ?_
          have hsk1 := sk_in (T := T) (n := n) (a := a1) (by omega)
          have hch1 := ch_in (a := sk T n a1) hT (by omega)
          refine S_istore X dX2_sum_25 (nle rfl) ?_
          refine S_iload X dX2_sum_27 rfl ?_
          refine S_bipush X dX2_sum_29 rfl ?_
          refine S_icmp_eq (tgt := 41) X dX2_sum_31 (by decide) (by omega) (by decide) (fun c_29 => ?_) (fun c_29 => ?_)
          ·
            refine S_iconst X dX2_sum_41 ?_
            refine S_goto (tgt := 46) X dX2_sum_42 (by decide) ?_
            refine S_istore X dX2_sum_46 (nle rfl) ?_
            refine S_iload X dX2_sum_48 rfl ?_
            refine S_if_ne (tgt := 86) X dX2_sum_50 (by decide) (by decide) (fun _ => ?_) (fun h9 => absurd h9 (by decide))
            refine S_iload X dX2_sum_86 rfl ?_
            refine S_if_eq (tgt := 102) X dX2_sum_88 (by decide) (by decide) (fun h9 => absurd h9 (by decide)) (fun _ => ?_)
            refine S_iload_n X dX2_sum_91 rfl hL14_2 ?_
            refine S_if_eq (tgt := 102) X dX2_sum_92 (by decide) (by omega) (fun c_32 => ?_) (fun c_32 => ?_)
            ·
              refine S_iload X dX2_sum_102 rfl ?_
              refine S_if_eq (tgt := 112) X dX2_sum_104 (by decide) (by decide) (fun h9 => absurd h9 (by decide)) (fun _ => ?_)
              refine S_iload X dX2_sum_107 rfl ?_
              refine S_goto (tgt := 113) X dX2_sum_109 (by decide) ?_
              refine S_istore_n X dX2_sum_113 rfl (nle rfl) ?_
              have hlt1 : sk T n a1 < n := ch_lt (T := T) (by omega)
              refine S_aload_n X dX2_sum_114 rfl hL14_0 ?_
              refine S_dup X dX2_sum_115 ?_
              refine S_get (v := iv (sk T n a1)) X fgX2_68_2 0 rfl rfl dX2_sum_116 ?_
              refine S_iconst X dX2_sum_119 ?_
              refine S_iadd X dX2_sum_120 ?_
              refine S_put X fpX2_68_2 0 rfl FT_i dX2_sum_121 ?_
              refine S_w (ws' := [(h0, ob 2 (uF (uF (uF f 1 (iv ((sk T n a1) + 1))) 2 (iv w)) 4 (iv (x + ((acc).length : Int))))), (ht, ob 6 ft), (hb, ar 160 T), (hc, ar 160 (wrL C x (acc)))]) (by simp only [List.set]; rw [uF_mv (j := 4) (k := 1) (by decide), uF_mv (j := 2) (k := 1) (by decide), uF_same (k := 1)]) ?_
              refine S_aload_n X dX2_sum_124 rfl hL14_0 ?_
              refine S_iload_n X dX2_sum_125 rfl hL14_1 ?_
              refine S_calli X (hat h0 ht hb f ft T n ((sk T n a1) + 1) w (x + ((acc).length : Int)) hc (wrL C x (acc)) wi hf0 hf1 hf2 hf3 (by omega) (by omega) (by (try simp only [List.length_append, List.length_singleton, Int.natCast_add, Int.natCast_one]); omega) (by omega) (by omega)) (is := [0, 1, 2, 3]) rfl (run_V X lkX2_74 0 rfl rfl (is := [0, 1, 2, 3]) (avs := [iv wi]) (rest := []) rfl rfl (nle rfl) ⟨by simp only [rmD]; omega, by simp only [rmD]; omega⟩ ⟨nle rfl, nle rfl⟩ dX2_sum_126 (by decide) rfl) (fun z_36 u_34 hp_35 => ?_)
              rcases hp_35 with ⟨a2_37, fl_38, x2_39, C2_40, hz_41, hu_42, hq_43⟩ | ⟨a2_44, ts_45, hz_46, hu_47, hq_48⟩
              ·
                subst hz_41
                subst hu_42
                refine ⟨rfl, ?_⟩
                refine S_w (ws' := [(h0, ob 2 (uF (uF (uF f 1 (iv a2_37)) 2 (iv fl_38)) 4 (iv x2_39))), (ht, ob 6 ft), (hb, ar 160 T), (hc, ar 160 C2_40)]) rfl ?_
                refine S_if_ne (tgt := 134) X dX2_sum_129 (by decide) (by decide) (fun h9 => absurd h9 (by decide)) (fun _ => ?_)
                refine S_iconst X dX2_sum_132 ?_
                exact S_zret X (Or.inl rfl) (nle rfl) (nle rfl) dX2_sum_133 (hPo _ _ (Or.inl ⟨_, _, _, _, rfl, rfl, hk _ (by rw [fuel161 (by omega) (by omega)]; exact sumL_af (by omega) hq_43)⟩))
              ·
                subst hz_46
                subst hu_47
                refine ⟨rfl, ?_⟩
                refine S_w (ws' := [(h0, ob 2 (uF (uF (uF f 1 (iv a2_44)) 2 (iv w)) 4 (iv ((x + ((acc).length : Int)) + (ts_45.length : Int))))), (ht, ob 6 ft), (hb, ar 160 T), (hc, ar 160 (wrL (wrL C x (acc)) (x + ((acc).length : Int)) ts_45))]) rfl ?_
                refine S_w (ws' := [(h0, ob 2 (uF (uF (uF f 1 (iv a2_44)) 2 (iv w)) 4 (iv (x + ((acc ++ ts_45).length : Int))))), (ht, ob 6 ft), (hb, ar 160 T), (hc, ar 160 (wrL C x (acc ++ ts_45)))]) (by simp only [wrL_app, wrL, List.length_append, List.length_singleton, Int.natCast_add, Int.natCast_one, Int.add_assoc, List.append_assoc]) ?_
                have ho_49 := ((pAS_ok (T := T) hn1 K).1 (sk T n a1 + 1) (by omega) (by omega)).2 _ hq_48
                dsimp only at ho_49
                refine S_if_ne (tgt := 134) X dX2_sum_129 (by decide) (by decide) (fun _ => ?_) (fun h9 => absurd h9 (by decide))
                refine S_iload X dX2_sum_134 rfl ?_
                refine S_if_ne (tgt := 147) X dX2_sum_136 (by decide) (by decide) (fun _ => ?_) (fun h9 => absurd h9 (by decide))
                refine S_iinc X dX2_sum_147 (nle rfl) hL14_3 ?_
                refine S_goto (tgt := 14) X dX2_sum_150 (by decide) ?_
                exact ih14 (i + 1) a2_44 (ch T n (sk T n a1)) (acc ++ ts_45) _ (by omega) (by simp only [List.length_append, List.length_singleton, Int.natCast_add, Int.natCast_one]; omega) (fun z9 h9 => hk z9 (by rw [fuel161 (by omega) (by omega), sumL_a (by omega) hq_48, if_pos c_32]; exact h9)) hL14_0 hL14_1 rfl rfl (by omega)
            ·
              refine S_aload_n X dX2_sum_95 rfl hL14_0 ?_
              refine S_iload_n X dX2_sum_96 rfl hL14_2 ?_
              refine S_ineg X dX2_sum_97 ?_
              refine S_calli X (kX2_emit l h0 f (sk T n a1) w (x + ((acc).length : Int)) hc (wrL C x (acc)) (-w1) hf3 (by (try simp only [List.length_append, List.length_singleton, Int.natCast_add, Int.natCast_one]); omega)) (is := [0, 3]) rfl (run_V X lkX2_56 0 rfl rfl (is := [0, 3]) (avs := [iv (-w1)]) (rest := []) rfl rfl (nle rfl) ⟨by simp only [rmD]; omega, by simp only [rmD]; omega⟩ ⟨nle rfl, nle rfl⟩ dX2_sum_98 (by decide) rfl) (fun z_54 u_52 hp_53 => ?_)
              obtain ⟨hz_55, hu_56⟩ := hp_53
              subst hz_55
              subst hu_56
              refine ⟨rfl, ?_⟩
              refine S_w (ws' := [(h0, ob 2 (uF (uF (uF f 1 (iv (sk T n a1))) 2 (iv w)) 4 (iv ((x + ((acc).length : Int)) + 1)))), (ht, ob 6 ft), (hb, ar 160 T), (hc, ar 160 (uZ (wrL C x (acc)) (x + ((acc).length : Int)) (-w1)))]) rfl ?_
              refine S_w (ws' := [(h0, ob 2 (uF (uF (uF f 1 (iv (sk T n a1))) 2 (iv w)) 4 (iv (x + ((acc ++ [-w1]).length : Int))))), (ht, ob 6 ft), (hb, ar 160 T), (hc, ar 160 (wrL C x (acc ++ [-w1])))]) (by simp only [wrL_app, wrL, List.length_append, List.length_singleton, Int.natCast_add, Int.natCast_one, Int.add_assoc, List.append_assoc]) ?_
              refine S_pop X dX2_sum_101 ?_
              refine S_iload X dX2_sum_102 rfl ?_
              refine S_if_eq (tgt := 112) X dX2_sum_104 (by decide) (by decide) (fun h9 => absurd h9 (by decide)) (fun _ => ?_)
              refine S_iload X dX2_sum_107 rfl ?_
              refine S_goto (tgt := 113) X dX2_sum_109 (by decide) ?_
              refine S_istore_n X dX2_sum_113 rfl (nle rfl) ?_
              have hlt1 : sk T n a1 < n := ch_lt (T := T) (by omega)
              refine S_aload_n X dX2_sum_114 rfl hL14_0 ?_
              refine S_dup X dX2_sum_115 ?_
              refine S_get (v := iv (sk T n a1)) X fgX2_68_2 0 rfl rfl dX2_sum_116 ?_
              refine S_iconst X dX2_sum_119 ?_
              refine S_iadd X dX2_sum_120 ?_
              refine S_put X fpX2_68_2 0 rfl FT_i dX2_sum_121 ?_
              refine S_w (ws' := [(h0, ob 2 (uF (uF (uF f 1 (iv ((sk T n a1) + 1))) 2 (iv w)) 4 (iv (x + ((acc ++ [-w1]).length : Int))))), (ht, ob 6 ft), (hb, ar 160 T), (hc, ar 160 (wrL C x (acc ++ [-w1])))]) (by simp only [List.set]; rw [uF_mv (j := 4) (k := 1) (by decide), uF_mv (j := 2) (k := 1) (by decide), uF_same (k := 1)]) ?_
              refine S_aload_n X dX2_sum_124 rfl hL14_0 ?_
              refine S_iload_n X dX2_sum_125 rfl hL14_1 ?_
              refine S_calli X (hat h0 ht hb f ft T n ((sk T n a1) + 1) w (x + ((acc ++ [-w1]).length : Int)) hc (wrL C x (acc ++ [-w1])) wi hf0 hf1 hf2 hf3 (by omega) (by omega) (by (try simp only [List.length_append, List.length_singleton, Int.natCast_add, Int.natCast_one]); omega) (by omega) (by omega)) (is := [0, 1, 2, 3]) rfl (run_V X lkX2_74 0 rfl rfl (is := [0, 1, 2, 3]) (avs := [iv wi]) (rest := []) rfl rfl (nle rfl) ⟨by simp only [rmD]; omega, by simp only [rmD]; omega⟩ ⟨nle rfl, nle rfl⟩ dX2_sum_126 (by decide) rfl) (fun z_60 u_58 hp_59 => ?_)
              rcases hp_59 with ⟨a2_61, fl_62, x2_63, C2_64, hz_65, hu_66, hq_67⟩ | ⟨a2_68, ts_69, hz_70, hu_71, hq_72⟩
              ·
                subst hz_65
                subst hu_66
                refine ⟨rfl, ?_⟩
                refine S_w (ws' := [(h0, ob 2 (uF (uF (uF f 1 (iv a2_61)) 2 (iv fl_62)) 4 (iv x2_63))), (ht, ob 6 ft), (hb, ar 160 T), (hc, ar 160 C2_64)]) rfl ?_
                refine S_if_ne (tgt := 134) X dX2_sum_129 (by decide) (by decide) (fun h9 => absurd h9 (by decide)) (fun _ => ?_)
                refine S_iconst X dX2_sum_132 ?_
                exact S_zret X (Or.inl rfl) (nle rfl) (nle rfl) dX2_sum_133 (hPo _ _ (Or.inl ⟨_, _, _, _, rfl, rfl, hk _ (by rw [fuel161 (by omega) (by omega)]; exact sumL_af (by omega) hq_67)⟩))
              ·
                subst hz_70
                subst hu_71
                refine ⟨rfl, ?_⟩
                refine S_w (ws' := [(h0, ob 2 (uF (uF (uF f 1 (iv a2_68)) 2 (iv w)) 4 (iv ((x + ((acc ++ [-w1]).length : Int)) + (ts_69.length : Int))))), (ht, ob 6 ft), (hb, ar 160 T), (hc, ar 160 (wrL (wrL C x (acc ++ [-w1])) (x + ((acc ++ [-w1]).length : Int)) ts_69))]) rfl ?_
                refine S_w (ws' := [(h0, ob 2 (uF (uF (uF f 1 (iv a2_68)) 2 (iv w)) 4 (iv (x + ((acc ++ [-w1] ++ ts_69).length : Int))))), (ht, ob 6 ft), (hb, ar 160 T), (hc, ar 160 (wrL C x (acc ++ [-w1] ++ ts_69)))]) (by simp only [wrL_app, wrL, List.length_append, List.length_singleton, Int.natCast_add, Int.natCast_one, Int.add_assoc, List.append_assoc]) ?_
                have ho_73 := ((pAS_ok (T := T) hn1 K).1 (sk T n a1 + 1) (by omega) (by omega)).2 _ hq_72
                dsimp only at ho_73
                refine S_if_ne (tgt := 134) X dX2_sum_129 (by decide) (by decide) (fun _ => ?_) (fun h9 => absurd h9 (by decide))
                refine S_iload X dX2_sum_134 rfl ?_
                refine S_if_ne (tgt := 147) X dX2_sum_136 (by decide) (by decide) (fun _ => ?_) (fun h9 => absurd h9 (by decide))
                refine S_iinc X dX2_sum_147 (nle rfl) hL14_3 ?_
                refine S_goto (tgt := 14) X dX2_sum_150 (by decide) ?_
                exact ih14 (i + 1) a2_68 (ch T n (sk T n a1)) (acc ++ [-w1] ++ ts_69) _ (by omega) (by simp only [List.length_append, List.length_singleton, Int.natCast_add, Int.natCast_one]; omega) (fun z9 h9 => hk z9 (by rw [fuel161 (by omega) (by omega), sumL_a (by omega) hq_72, if_neg c_32]; exact h9)) hL14_0 hL14_1 rfl rfl (by omega)
          ·
            refine S_iload X dX2_sum_34 rfl ?_
            refine S_bipush X dX2_sum_36 rfl ?_
            refine S_icmp_ne (tgt := 45) X dX2_sum_38 (by decide) (by omega) (by decide) (fun c_76 => ?_) (fun c_76 => ?_)
            ·
              refine S_iconst X dX2_sum_45 ?_
              refine S_istore X dX2_sum_46 (nle rfl) ?_
              refine S_iload X dX2_sum_48 rfl ?_
              refine S_if_ne (tgt := 86) X dX2_sum_50 (by decide) (by decide) (fun h9 => absurd h9 (by decide)) (fun _ => ?_)
              refine S_iload X dX2_sum_53 rfl ?_
              refine S_bipush X dX2_sum_55 rfl ?_
              refine S_icmp_eq (tgt := 86) X dX2_sum_57 (by decide) (by omega) (by decide) (fun c_78 => ?_) (fun c_78 => ?_)
              ·
                refine S_iload X dX2_sum_86 rfl ?_
                refine S_if_eq (tgt := 102) X dX2_sum_88 (by decide) (by decide) (fun _ => ?_) (fun h9 => absurd h9 (by decide))
                refine S_iload X dX2_sum_102 rfl ?_
                refine S_if_eq (tgt := 112) X dX2_sum_104 (by decide) (by decide) (fun _ => ?_) (fun h9 => absurd h9 (by decide))
                refine S_iload_n X dX2_sum_112 rfl hL14_2 ?_
                refine S_istore_n X dX2_sum_113 rfl (nle rfl) ?_
                have hlt1 : sk T n a1 < n := ch_lt (T := T) (by omega)
                refine S_aload_n X dX2_sum_114 rfl hL14_0 ?_
                refine S_dup X dX2_sum_115 ?_
                refine S_get (v := iv (sk T n a1)) X fgX2_68_2 0 rfl rfl dX2_sum_116 ?_
                refine S_iconst X dX2_sum_119 ?_
                refine S_iadd X dX2_sum_120 ?_
                refine S_put X fpX2_68_2 0 rfl FT_i dX2_sum_121 ?_
                refine S_w (ws' := [(h0, ob 2 (uF (uF (uF f 1 (iv ((sk T n a1) + 1))) 2 (iv w)) 4 (iv (x + ((acc).length : Int))))), (ht, ob 6 ft), (hb, ar 160 T), (hc, ar 160 (wrL C x (acc)))]) (by simp only [List.set]; rw [uF_mv (j := 4) (k := 1) (by decide), uF_mv (j := 2) (k := 1) (by decide), uF_same (k := 1)]) ?_
                refine S_aload_n X dX2_sum_124 rfl hL14_0 ?_
                refine S_iload_n X dX2_sum_125 rfl hL14_1 ?_
                refine S_calli X (hat h0 ht hb f ft T n ((sk T n a1) + 1) w (x + ((acc).length : Int)) hc (wrL C x (acc)) wi hf0 hf1 hf2 hf3 (by omega) (by omega) (by (try simp only [List.length_append, List.length_singleton, Int.natCast_add, Int.natCast_one]); omega) (by omega) (by omega)) (is := [0, 1, 2, 3]) rfl (run_V X lkX2_74 0 rfl rfl (is := [0, 1, 2, 3]) (avs := [iv wi]) (rest := []) rfl rfl (nle rfl) ⟨by simp only [rmD]; omega, by simp only [rmD]; omega⟩ ⟨nle rfl, nle rfl⟩ dX2_sum_126 (by decide) rfl) (fun z_83 u_81 hp_82 => ?_)
                rcases hp_82 with ⟨a2_84, fl_85, x2_86, C2_87, hz_88, hu_89, hq_90⟩ | ⟨a2_91, ts_92, hz_93, hu_94, hq_95⟩
                ·
                  subst hz_88
                  subst hu_89
                  refine ⟨rfl, ?_⟩
                  refine S_w (ws' := [(h0, ob 2 (uF (uF (uF f 1 (iv a2_84)) 2 (iv fl_85)) 4 (iv x2_86))), (ht, ob 6 ft), (hb, ar 160 T), (hc, ar 160 C2_87)]) rfl ?_
                  refine S_if_ne (tgt := 134) X dX2_sum_129 (by decide) (by decide) (fun h9 => absurd h9 (by decide)) (fun _ => ?_)
                  refine S_iconst X dX2_sum_132 ?_
                  exact S_zret X (Or.inl rfl) (nle rfl) (nle rfl) dX2_sum_133 (hPo _ _ (Or.inl ⟨_, _, _, _, rfl, rfl, hk _ (by rw [fuel161 (by omega) (by omega)]; exact sumL_mf (by omega) hq_90)⟩))
                ·
                  subst hz_93
                  subst hu_94
                  refine ⟨rfl, ?_⟩
                  refine S_w (ws' := [(h0, ob 2 (uF (uF (uF f 1 (iv a2_91)) 2 (iv w)) 4 (iv ((x + ((acc).length : Int)) + (ts_92.length : Int))))), (ht, ob 6 ft), (hb, ar 160 T), (hc, ar 160 (wrL (wrL C x (acc)) (x + ((acc).length : Int)) ts_92))]) rfl ?_
                  refine S_w (ws' := [(h0, ob 2 (uF (uF (uF f 1 (iv a2_91)) 2 (iv w)) 4 (iv (x + ((acc ++ ts_92).length : Int))))), (ht, ob 6 ft), (hb, ar 160 T), (hc, ar 160 (wrL C x (acc ++ ts_92)))]) (by simp only [wrL_app, wrL, List.length_append, List.length_singleton, Int.natCast_add, Int.natCast_one, Int.add_assoc, List.append_assoc]) ?_
                  have ho_96 := ((pAS_ok (T := T) hn1 K).1 (sk T n a1 + 1) (by omega) (by omega)).2 _ hq_95
                  dsimp only at ho_96
                  refine S_if_ne (tgt := 134) X dX2_sum_129 (by decide) (by decide) (fun _ => ?_) (fun h9 => absurd h9 (by decide))
                  refine S_iload X dX2_sum_134 rfl ?_
                  refine S_if_ne (tgt := 147) X dX2_sum_136 (by decide) (by decide) (fun h9 => absurd h9 (by decide)) (fun _ => ?_)
                  refine S_aload_n X dX2_sum_139 rfl hL14_0 ?_
                  refine S_iload X dX2_sum_140 rfl ?_
                  refine S_ineg X dX2_sum_142 ?_
                  refine S_calli X (kX2_emit l h0 f a2_91 w (x + ((acc ++ ts_92).length : Int)) hc (wrL C x (acc ++ ts_92)) (-(ch T n (sk T n a1))) hf3 (by (try simp only [List.length_append, List.length_singleton, Int.natCast_add, Int.natCast_one]); omega)) (is := [0, 3]) rfl (run_V X lkX2_56 0 rfl rfl (is := [0, 3]) (avs := [iv (-(ch T n (sk T n a1)))]) (rest := []) rfl rfl (nle rfl) ⟨by simp only [rmD]; omega, by simp only [rmD]; omega⟩ ⟨nle rfl, nle rfl⟩ dX2_sum_143 (by decide) rfl) (fun z_101 u_99 hp_100 => ?_)
                  obtain ⟨hz_102, hu_103⟩ := hp_100
                  subst hz_102
                  subst hu_103
                  refine ⟨rfl, ?_⟩
                  refine S_w (ws' := [(h0, ob 2 (uF (uF (uF f 1 (iv a2_91)) 2 (iv w)) 4 (iv ((x + ((acc ++ ts_92).length : Int)) + 1)))), (ht, ob 6 ft), (hb, ar 160 T), (hc, ar 160 (uZ (wrL C x (acc ++ ts_92)) (x + ((acc ++ ts_92).length : Int)) (-(ch T n (sk T n a1)))))]) rfl ?_
                  refine S_w (ws' := [(h0, ob 2 (uF (uF (uF f 1 (iv a2_91)) 2 (iv w)) 4 (iv (x + ((acc ++ ts_92 ++ [-ch T n (sk T n a1)]).length : Int))))), (ht, ob 6 ft), (hb, ar 160 T), (hc, ar 160 (wrL C x (acc ++ ts_92 ++ [-ch T n (sk T n a1)])))]) (by simp only [wrL_app, wrL, List.length_append, List.length_singleton, Int.natCast_add, Int.natCast_one, Int.add_assoc, List.append_assoc]) ?_
                  refine S_pop X dX2_sum_146 ?_
                  refine S_iinc X dX2_sum_147 (nle rfl) hL14_3 ?_
                  refine S_goto (tgt := 14) X dX2_sum_150 (by decide) ?_
                  exact ih14 (i + 1) a2_91 w1 (acc ++ ts_92 ++ [-ch T n (sk T n a1)]) _ (by omega) (by simp only [List.length_append, List.length_singleton, Int.natCast_add, Int.natCast_one]; omega) (fun z9 h9 => hk z9 (by rw [fuel161 (by omega) (by omega), sumL_m (by omega) hq_95]; exact h9)) hL14_0 hL14_1 rfl rfl (by omega)
              ·
                refine S_iload X dX2_sum_60 rfl ?_
                refine S_bipush X dX2_sum_62 rfl ?_
                refine S_icmp_eq (tgt := 86) X dX2_sum_64 (by decide) (by omega) (by decide) (fun c_104 => ?_) (fun c_104 => ?_)
                ·
                  refine S_iload X dX2_sum_86 rfl ?_
                  refine S_if_eq (tgt := 102) X dX2_sum_88 (by decide) (by decide) (fun _ => ?_) (fun h9 => absurd h9 (by decide))
                  refine S_iload X dX2_sum_102 rfl ?_
                  refine S_if_eq (tgt := 112) X dX2_sum_104 (by decide) (by decide) (fun _ => ?_) (fun h9 => absurd h9 (by decide))
                  refine S_iload_n X dX2_sum_112 rfl hL14_2 ?_
                  refine S_istore_n X dX2_sum_113 rfl (nle rfl) ?_
                  have hlt1 : sk T n a1 < n := ch_lt (T := T) (by omega)
                  refine S_aload_n X dX2_sum_114 rfl hL14_0 ?_
                  refine S_dup X dX2_sum_115 ?_
                  refine S_get (v := iv (sk T n a1)) X fgX2_68_2 0 rfl rfl dX2_sum_116 ?_
                  refine S_iconst X dX2_sum_119 ?_
                  refine S_iadd X dX2_sum_120 ?_
                  refine S_put X fpX2_68_2 0 rfl FT_i dX2_sum_121 ?_
                  refine S_w (ws' := [(h0, ob 2 (uF (uF (uF f 1 (iv ((sk T n a1) + 1))) 2 (iv w)) 4 (iv (x + ((acc).length : Int))))), (ht, ob 6 ft), (hb, ar 160 T), (hc, ar 160 (wrL C x (acc)))]) (by simp only [List.set]; rw [uF_mv (j := 4) (k := 1) (by decide), uF_mv (j := 2) (k := 1) (by decide), uF_same (k := 1)]) ?_
                  refine S_aload_n X dX2_sum_124 rfl hL14_0 ?_
                  refine S_iload_n X dX2_sum_125 rfl hL14_1 ?_
                  refine S_calli X (hat h0 ht hb f ft T n ((sk T n a1) + 1) w (x + ((acc).length : Int)) hc (wrL C x (acc)) wi hf0 hf1 hf2 hf3 (by omega) (by omega) (by (try simp only [List.length_append, List.length_singleton, Int.natCast_add, Int.natCast_one]); omega) (by omega) (by omega)) (is := [0, 1, 2, 3]) rfl (run_V X lkX2_74 0 rfl rfl (is := [0, 1, 2, 3]) (avs := [iv wi]) (rest := []) rfl rfl (nle rfl) ⟨by simp only [rmD]; omega, by simp only [rmD]; omega⟩ ⟨nle rfl, nle rfl⟩ dX2_sum_126 (by decide) rfl) (fun z_109 u_107 hp_108 => ?_)
                  rcases hp_108 with ⟨a2_110, fl_111, x2_112, C2_113, hz_114, hu_115, hq_116⟩ | ⟨a2_117, ts_118, hz_119, hu_120, hq_121⟩
                  ·
                    subst hz_114
                    subst hu_115
                    refine ⟨rfl, ?_⟩
                    refine S_w (ws' := [(h0, ob 2 (uF (uF (uF f 1 (iv a2_110)) 2 (iv fl_111)) 4 (iv x2_112))), (ht, ob 6 ft), (hb, ar 160 T), (hc, ar 160 C2_113)]) rfl ?_
                    refine S_if_ne (tgt := 134) X dX2_sum_129 (by decide) (by decide) (fun h9 => absurd h9 (by decide)) (fun _ => ?_)
                    refine S_iconst X dX2_sum_132 ?_
                    exact S_zret X (Or.inl rfl) (nle rfl) (nle rfl) dX2_sum_133 (hPo _ _ (Or.inl ⟨_, _, _, _, rfl, rfl, hk _ (by rw [fuel161 (by omega) (by omega)]; exact sumL_mf (by omega) hq_116)⟩))
                  ·
                    subst hz_119
                    subst hu_120
                    refine ⟨rfl, ?_⟩
                    refine S_w (ws' := [(h0, ob 2 (uF (uF (uF f 1 (iv a2_117)) 2 (iv w)) 4 (iv ((x + ((acc).length : Int)) + (ts_118.length : Int))))), (ht, ob 6 ft), (hb, ar 160 T), (hc, ar 160 (wrL (wrL C x (acc)) (x + ((acc).length : Int)) ts_118))]) rfl ?_
                    refine S_w (ws' := [(h0, ob 2 (uF (uF (uF f 1 (iv a2_117)) 2 (iv w)) 4 (iv (x + ((acc ++ ts_118).length : Int))))), (ht, ob 6 ft), (hb, ar 160 T), (hc, ar 160 (wrL C x (acc ++ ts_118)))]) (by simp only [wrL_app, wrL, List.length_append, List.length_singleton, Int.natCast_add, Int.natCast_one, Int.add_assoc, List.append_assoc]) ?_
                    have ho_122 := ((pAS_ok (T := T) hn1 K).1 (sk T n a1 + 1) (by omega) (by omega)).2 _ hq_121
                    dsimp only at ho_122
                    refine S_if_ne (tgt := 134) X dX2_sum_129 (by decide) (by decide) (fun _ => ?_) (fun h9 => absurd h9 (by decide))
                    refine S_iload X dX2_sum_134 rfl ?_
                    refine S_if_ne (tgt := 147) X dX2_sum_136 (by decide) (by decide) (fun h9 => absurd h9 (by decide)) (fun _ => ?_)
                    refine S_aload_n X dX2_sum_139 rfl hL14_0 ?_
                    refine S_iload X dX2_sum_140 rfl ?_
                    refine S_ineg X dX2_sum_142 ?_
                    refine S_calli X (kX2_emit l h0 f a2_117 w (x + ((acc ++ ts_118).length : Int)) hc (wrL C x (acc ++ ts_118)) (-(ch T n (sk T n a1))) hf3 (by (try simp only [List.length_append, List.length_singleton, Int.natCast_add, Int.natCast_one]); omega)) (is := [0, 3]) rfl (run_V X lkX2_56 0 rfl rfl (is := [0, 3]) (avs := [iv (-(ch T n (sk T n a1)))]) (rest := []) rfl rfl (nle rfl) ⟨by simp only [rmD]; omega, by simp only [rmD]; omega⟩ ⟨nle rfl, nle rfl⟩ dX2_sum_143 (by decide) rfl) (fun z_127 u_125 hp_126 => ?_)
                    obtain ⟨hz_128, hu_129⟩ := hp_126
                    subst hz_128
                    subst hu_129
                    refine ⟨rfl, ?_⟩
                    refine S_w (ws' := [(h0, ob 2 (uF (uF (uF f 1 (iv a2_117)) 2 (iv w)) 4 (iv ((x + ((acc ++ ts_118).length : Int)) + 1)))), (ht, ob 6 ft), (hb, ar 160 T), (hc, ar 160 (uZ (wrL C x (acc ++ ts_118)) (x + ((acc ++ ts_118).length : Int)) (-(ch T n (sk T n a1)))))]) rfl ?_
                    refine S_w (ws' := [(h0, ob 2 (uF (uF (uF f 1 (iv a2_117)) 2 (iv w)) 4 (iv (x + ((acc ++ ts_118 ++ [-ch T n (sk T n a1)]).length : Int))))), (ht, ob 6 ft), (hb, ar 160 T), (hc, ar 160 (wrL C x (acc ++ ts_118 ++ [-ch T n (sk T n a1)])))]) (by simp only [wrL_app, wrL, List.length_append, List.length_singleton, Int.natCast_add, Int.natCast_one, Int.add_assoc, List.append_assoc]) ?_
                    refine S_pop X dX2_sum_146 ?_
                    refine S_iinc X dX2_sum_147 (nle rfl) hL14_3 ?_
                    refine S_goto (tgt := 14) X dX2_sum_150 (by decide) ?_
                    exact ih14 (i + 1) a2_117 w1 (acc ++ ts_118 ++ [-ch T n (sk T n a1)]) _ (by omega) (by simp only [List.length_append, List.length_singleton, Int.natCast_add, Int.natCast_one]; omega) (fun z9 h9 => hk z9 (by rw [fuel161 (by omega) (by omega), sumL_m (by omega) hq_121]; exact h9)) hL14_0 hL14_1 rfl rfl (by omega)
                ·
                  refine S_iload_n X dX2_sum_67 rfl hL14_2 ?_
                  refine S_if_eq (tgt := 80) X dX2_sum_68 (by decide) (by omega) (fun c_130 => ?_) (fun c_130 => ?_)
                  ·
                    refine S_iconst X dX2_sum_80 ?_
                    refine S_goto (tgt := 85) X dX2_sum_81 (by decide) ?_
                    exact S_zret X (Or.inr rfl) (nle rfl) (nle rfl) dX2_sum_85 (hPo _ _ (Or.inr ⟨_, acc, rfl, rfl, (hk (.inr (sk T n a1, if w1 = 0 then acc else acc ++ [-w1])) (by rw [fuel161 (by omega) (by omega)]; exact sumL_e (by omega) (by omega))).trans (by rw [if_pos c_130])⟩))
                  ·
                    refine S_aload_n X dX2_sum_71 rfl hL14_0 ?_
                    refine S_iload_n X dX2_sum_72 rfl hL14_2 ?_
                    refine S_ineg X dX2_sum_73 ?_
                    refine S_calli X (kX2_emit l h0 f (sk T n a1) w (x + ((acc).length : Int)) hc (wrL C x (acc)) (-w1) hf3 (by (try simp only [List.length_append, List.length_singleton, Int.natCast_add, Int.natCast_one]); omega)) (is := [0, 3]) rfl (run_V X lkX2_56 0 rfl rfl (is := [0, 3]) (avs := [iv (-w1)]) (rest := []) rfl rfl (nle rfl) ⟨by simp only [rmD]; omega, by simp only [rmD]; omega⟩ ⟨nle rfl, nle rfl⟩ dX2_sum_74 (by decide) rfl) (fun z_133 u_131 hp_132 => ?_)
                    obtain ⟨hz_134, hu_135⟩ := hp_132
                    subst hz_134
                    subst hu_135
                    refine ⟨rfl, ?_⟩
                    refine S_w (ws' := [(h0, ob 2 (uF (uF (uF f 1 (iv (sk T n a1))) 2 (iv w)) 4 (iv ((x + ((acc).length : Int)) + 1)))), (ht, ob 6 ft), (hb, ar 160 T), (hc, ar 160 (uZ (wrL C x (acc)) (x + ((acc).length : Int)) (-w1)))]) rfl ?_
                    refine S_w (ws' := [(h0, ob 2 (uF (uF (uF f 1 (iv (sk T n a1))) 2 (iv w)) 4 (iv (x + ((acc ++ [-w1]).length : Int))))), (ht, ob 6 ft), (hb, ar 160 T), (hc, ar 160 (wrL C x (acc ++ [-w1])))]) (by simp only [wrL_app, wrL, List.length_append, List.length_singleton, Int.natCast_add, Int.natCast_one, Int.add_assoc, List.append_assoc]) ?_
                    refine S_if_eq (tgt := 84) X dX2_sum_77 (by decide) (by decide) (fun h9 => absurd h9 (by decide)) (fun _ => ?_)
                    refine S_iconst X dX2_sum_80 ?_
                    refine S_goto (tgt := 85) X dX2_sum_81 (by decide) ?_
                    exact S_zret X (Or.inr rfl) (nle rfl) (nle rfl) dX2_sum_85 (hPo _ _ (Or.inr ⟨_, acc ++ [-w1], rfl, rfl, (hk (.inr (sk T n a1, if w1 = 0 then acc else acc ++ [-w1])) (by rw [fuel161 (by omega) (by omega)]; exact sumL_e (by omega) (by omega))).trans (by rw [if_neg c_130])⟩))
            ·
              refine S_iconst X dX2_sum_41 ?_
              refine S_goto (tgt := 46) X dX2_sum_42 (by decide) ?_
              refine S_istore X dX2_sum_46 (nle rfl) ?_
              refine S_iload X dX2_sum_48 rfl ?_
              refine S_if_ne (tgt := 86) X dX2_sum_50 (by decide) (by decide) (fun _ => ?_) (fun h9 => absurd h9 (by decide))
              refine S_iload X dX2_sum_86 rfl ?_
              refine S_if_eq (tgt := 102) X dX2_sum_88 (by decide) (by decide) (fun h9 => absurd h9 (by decide)) (fun _ => ?_)
              refine S_iload_n X dX2_sum_91 rfl hL14_2 ?_
              refine S_if_eq (tgt := 102) X dX2_sum_92 (by decide) (by omega) (fun c_139 => ?_) (fun c_139 => ?_)
              ·
                refine S_iload X dX2_sum_102 rfl ?_
                refine S_if_eq (tgt := 112) X dX2_sum_104 (by decide) (by decide) (fun h9 => absurd h9 (by decide)) (fun _ => ?_)
                refine S_iload X dX2_sum_107 rfl ?_
                refine S_goto (tgt := 113) X dX2_sum_109 (by decide) ?_
                refine S_istore_n X dX2_sum_113 rfl (nle rfl) ?_
                have hlt1 : sk T n a1 < n := ch_lt (T := T) (by omega)
                refine S_aload_n X dX2_sum_114 rfl hL14_0 ?_
                refine S_dup X dX2_sum_115 ?_
                refine S_get (v := iv (sk T n a1)) X fgX2_68_2 0 rfl rfl dX2_sum_116 ?_
                refine S_iconst X dX2_sum_119 ?_
                refine S_iadd X dX2_sum_120 ?_
                refine S_put X fpX2_68_2 0 rfl FT_i dX2_sum_121 ?_
                refine S_w (ws' := [(h0, ob 2 (uF (uF (uF f 1 (iv ((sk T n a1) + 1))) 2 (iv w)) 4 (iv (x + ((acc).length : Int))))), (ht, ob 6 ft), (hb, ar 160 T), (hc, ar 160 (wrL C x (acc)))]) (by simp only [List.set]; rw [uF_mv (j := 4) (k := 1) (by decide), uF_mv (j := 2) (k := 1) (by decide), uF_same (k := 1)]) ?_
                refine S_aload_n X dX2_sum_124 rfl hL14_0 ?_
                refine S_iload_n X dX2_sum_125 rfl hL14_1 ?_
                refine S_calli X (hat h0 ht hb f ft T n ((sk T n a1) + 1) w (x + ((acc).length : Int)) hc (wrL C x (acc)) wi hf0 hf1 hf2 hf3 (by omega) (by omega) (by (try simp only [List.length_append, List.length_singleton, Int.natCast_add, Int.natCast_one]); omega) (by omega) (by omega)) (is := [0, 1, 2, 3]) rfl (run_V X lkX2_74 0 rfl rfl (is := [0, 1, 2, 3]) (avs := [iv wi]) (rest := []) rfl rfl (nle rfl) ⟨by simp only [rmD]; omega, by simp only [rmD]; omega⟩ ⟨nle rfl, nle rfl⟩ dX2_sum_126 (by decide) rfl) (fun z_143 u_141 hp_142 => ?_)
                rcases hp_142 with ⟨a2_144, fl_145, x2_146, C2_147, hz_148, hu_149, hq_150⟩ | ⟨a2_151, ts_152, hz_153, hu_154, hq_155⟩
                ·
                  subst hz_148
                  subst hu_149
                  refine ⟨rfl, ?_⟩
                  refine S_w (ws' := [(h0, ob 2 (uF (uF (uF f 1 (iv a2_144)) 2 (iv fl_145)) 4 (iv x2_146))), (ht, ob 6 ft), (hb, ar 160 T), (hc, ar 160 C2_147)]) rfl ?_
                  refine S_if_ne (tgt := 134) X dX2_sum_129 (by decide) (by decide) (fun h9 => absurd h9 (by decide)) (fun _ => ?_)
                  refine S_iconst X dX2_sum_132 ?_
                  exact S_zret X (Or.inl rfl) (nle rfl) (nle rfl) dX2_sum_133 (hPo _ _ (Or.inl ⟨_, _, _, _, rfl, rfl, hk _ (by rw [fuel161 (by omega) (by omega)]; exact sumL_af (by omega) hq_150)⟩))
                ·
                  subst hz_153
                  subst hu_154
                  refine ⟨rfl, ?_⟩
                  refine S_w (ws' := [(h0, ob 2 (uF (uF (uF f 1 (iv a2_151)) 2 (iv w)) 4 (iv ((x + ((acc).length : Int)) + (ts_152.length : Int))))), (ht, ob 6 ft), (hb, ar 160 T), (hc, ar 160 (wrL (wrL C x (acc)) (x + ((acc).length : Int)) ts_152))]) rfl ?_
                  refine S_w (ws' := [(h0, ob 2 (uF (uF (uF f 1 (iv a2_151)) 2 (iv w)) 4 (iv (x + ((acc ++ ts_152).length : Int))))), (ht, ob 6 ft), (hb, ar 160 T), (hc, ar 160 (wrL C x (acc ++ ts_152)))]) (by simp only [wrL_app, wrL, List.length_append, List.length_singleton, Int.natCast_add, Int.natCast_one, Int.add_assoc, List.append_assoc]) ?_
                  have ho_156 := ((pAS_ok (T := T) hn1 K).1 (sk T n a1 + 1) (by omega) (by omega)).2 _ hq_155
                  dsimp only at ho_156
                  refine S_if_ne (tgt := 134) X dX2_sum_129 (by decide) (by decide) (fun _ => ?_) (fun h9 => absurd h9 (by decide))
                  refine S_iload X dX2_sum_134 rfl ?_
                  refine S_if_ne (tgt := 147) X dX2_sum_136 (by decide) (by decide) (fun _ => ?_) (fun h9 => absurd h9 (by decide))
                  refine S_iinc X dX2_sum_147 (nle rfl) hL14_3 ?_
                  refine S_goto (tgt := 14) X dX2_sum_150 (by decide) ?_
                  exact ih14 (i + 1) a2_151 (ch T n (sk T n a1)) (acc ++ ts_152) _ (by omega) (by simp only [List.length_append, List.length_singleton, Int.natCast_add, Int.natCast_one]; omega) (fun z9 h9 => hk z9 (by rw [fuel161 (by omega) (by omega), sumL_a (by omega) hq_155, if_pos c_139]; exact h9)) hL14_0 hL14_1 rfl rfl (by omega)
              ·
                refine S_aload_n X dX2_sum_95 rfl hL14_0 ?_
                refine S_iload_n X dX2_sum_96 rfl hL14_2 ?_
                refine S_ineg X dX2_sum_97 ?_
                refine S_calli X (kX2_emit l h0 f (sk T n a1) w (x + ((acc).length : Int)) hc (wrL C x (acc)) (-w1) hf3 (by (try simp only [List.length_append, List.length_singleton, Int.natCast_add, Int.natCast_one]); omega)) (is := [0, 3]) rfl (run_V X lkX2_56 0 rfl rfl (is := [0, 3]) (avs := [iv (-w1)]) (rest := []) rfl rfl (nle rfl) ⟨by simp only [rmD]; omega, by simp only [rmD]; omega⟩ ⟨nle rfl, nle rfl⟩ dX2_sum_98 (by decide) rfl) (fun z_161 u_159 hp_160 => ?_)
                obtain ⟨hz_162, hu_163⟩ := hp_160
                subst hz_162
                subst hu_163
                refine ⟨rfl, ?_⟩
                refine S_w (ws' := [(h0, ob 2 (uF (uF (uF f 1 (iv (sk T n a1))) 2 (iv w)) 4 (iv ((x + ((acc).length : Int)) + 1)))), (ht, ob 6 ft), (hb, ar 160 T), (hc, ar 160 (uZ (wrL C x (acc)) (x + ((acc).length : Int)) (-w1)))]) rfl ?_
                refine S_w (ws' := [(h0, ob 2 (uF (uF (uF f 1 (iv (sk T n a1))) 2 (iv w)) 4 (iv (x + ((acc ++ [-w1]).length : Int))))), (ht, ob 6 ft), (hb, ar 160 T), (hc, ar 160 (wrL C x (acc ++ [-w1])))]) (by simp only [wrL_app, wrL, List.length_append, List.length_singleton, Int.natCast_add, Int.natCast_one, Int.add_assoc, List.append_assoc]) ?_
                refine S_pop X dX2_sum_101 ?_
                refine S_iload X dX2_sum_102 rfl ?_
                refine S_if_eq (tgt := 112) X dX2_sum_104 (by decide) (by decide) (fun h9 => absurd h9 (by decide)) (fun _ => ?_)
                refine S_iload X dX2_sum_107 rfl ?_
                refine S_goto (tgt := 113) X dX2_sum_109 (by decide) ?_
                refine S_istore_n X dX2_sum_113 rfl (nle rfl) ?_
                have hlt1 : sk T n a1 < n := ch_lt (T := T) (by omega)
                refine S_aload_n X dX2_sum_114 rfl hL14_0 ?_
                refine S_dup X dX2_sum_115 ?_
                refine S_get (v := iv (sk T n a1)) X fgX2_68_2 0 rfl rfl dX2_sum_116 ?_
                refine S_iconst X dX2_sum_119 ?_
                refine S_iadd X dX2_sum_120 ?_
                refine S_put X fpX2_68_2 0 rfl FT_i dX2_sum_121 ?_
                refine S_w (ws' := [(h0, ob 2 (uF (uF (uF f 1 (iv ((sk T n a1) + 1))) 2 (iv w)) 4 (iv (x + ((acc ++ [-w1]).length : Int))))), (ht, ob 6 ft), (hb, ar 160 T), (hc, ar 160 (wrL C x (acc ++ [-w1])))]) (by simp only [List.set]; rw [uF_mv (j := 4) (k := 1) (by decide), uF_mv (j := 2) (k := 1) (by decide), uF_same (k := 1)]) ?_
                refine S_aload_n X dX2_sum_124 rfl hL14_0 ?_
                refine S_iload_n X dX2_sum_125 rfl hL14_1 ?_
                refine S_calli X (hat h0 ht hb f ft T n ((sk T n a1) + 1) w (x + ((acc ++ [-w1]).length : Int)) hc (wrL C x (acc ++ [-w1])) wi hf0 hf1 hf2 hf3 (by omega) (by omega) (by (try simp only [List.length_append, List.length_singleton, Int.natCast_add, Int.natCast_one]); omega) (by omega) (by omega)) (is := [0, 1, 2, 3]) rfl (run_V X lkX2_74 0 rfl rfl (is := [0, 1, 2, 3]) (avs := [iv wi]) (rest := []) rfl rfl (nle rfl) ⟨by simp only [rmD]; omega, by simp only [rmD]; omega⟩ ⟨nle rfl, nle rfl⟩ dX2_sum_126 (by decide) rfl) (fun z_167 u_165 hp_166 => ?_)
                rcases hp_166 with ⟨a2_168, fl_169, x2_170, C2_171, hz_172, hu_173, hq_174⟩ | ⟨a2_175, ts_176, hz_177, hu_178, hq_179⟩
                ·
                  subst hz_172
                  subst hu_173
                  refine ⟨rfl, ?_⟩
                  refine S_w (ws' := [(h0, ob 2 (uF (uF (uF f 1 (iv a2_168)) 2 (iv fl_169)) 4 (iv x2_170))), (ht, ob 6 ft), (hb, ar 160 T), (hc, ar 160 C2_171)]) rfl ?_
                  refine S_if_ne (tgt := 134) X dX2_sum_129 (by decide) (by decide) (fun h9 => absurd h9 (by decide)) (fun _ => ?_)
                  refine S_iconst X dX2_sum_132 ?_
                  exact S_zret X (Or.inl rfl) (nle rfl) (nle rfl) dX2_sum_133 (hPo _ _ (Or.inl ⟨_, _, _, _, rfl, rfl, hk _ (by rw [fuel161 (by omega) (by omega)]; exact sumL_af (by omega) hq_174)⟩))
                ·
                  subst hz_177
                  subst hu_178
                  refine ⟨rfl, ?_⟩
                  refine S_w (ws' := [(h0, ob 2 (uF (uF (uF f 1 (iv a2_175)) 2 (iv w)) 4 (iv ((x + ((acc ++ [-w1]).length : Int)) + (ts_176.length : Int))))), (ht, ob 6 ft), (hb, ar 160 T), (hc, ar 160 (wrL (wrL C x (acc ++ [-w1])) (x + ((acc ++ [-w1]).length : Int)) ts_176))]) rfl ?_
                  refine S_w (ws' := [(h0, ob 2 (uF (uF (uF f 1 (iv a2_175)) 2 (iv w)) 4 (iv (x + ((acc ++ [-w1] ++ ts_176).length : Int))))), (ht, ob 6 ft), (hb, ar 160 T), (hc, ar 160 (wrL C x (acc ++ [-w1] ++ ts_176)))]) (by simp only [wrL_app, wrL, List.length_append, List.length_singleton, Int.natCast_add, Int.natCast_one, Int.add_assoc, List.append_assoc]) ?_
                  have ho_180 := ((pAS_ok (T := T) hn1 K).1 (sk T n a1 + 1) (by omega) (by omega)).2 _ hq_179
                  dsimp only at ho_180
                  refine S_if_ne (tgt := 134) X dX2_sum_129 (by decide) (by decide) (fun _ => ?_) (fun h9 => absurd h9 (by decide))
                  refine S_iload X dX2_sum_134 rfl ?_
                  refine S_if_ne (tgt := 147) X dX2_sum_136 (by decide) (by decide) (fun _ => ?_) (fun h9 => absurd h9 (by decide))
                  refine S_iinc X dX2_sum_147 (nle rfl) hL14_3 ?_
                  refine S_goto (tgt := 14) X dX2_sum_150 (by decide) ?_
                  exact ih14 (i + 1) a2_175 (ch T n (sk T n a1)) (acc ++ [-w1] ++ ts_176) _ (by omega) (by simp only [List.length_append, List.length_singleton, Int.natCast_add, Int.natCast_one]; omega) (fun z9 h9 => hk z9 (by rw [fuel161 (by omega) (by omega), sumL_a (by omega) hq_179, if_neg c_139]; exact h9)) hL14_0 hL14_1 rfl rfl (by omega)
    exact lp14_1 (Int.toNat (162 - 0) + 1) 0 a2_11 0 ts_12 _ (by omega) (by omega) (fun z9 h9 => (pSum_r hq_15).trans h9) rfl rfl rfl rfl (by omega)
set_option maxHeartbeats 4000000 in
set_option maxRecDepth 100000 in
theorem kX2_comparison (l : Launch) (K : Nat) (d : Nat) (hd : 5 ≤ d) (hsu : C_X2_sum l K d) : C_X2_comparison l K (d + 1) := by
  intro h0 ht hb f ft T n a w x hc C wi hf0 hf1 hf2 hf3 hT ha hx hw h6
  refine AMi.of2 rfl (nle rfl) ?_
  intro D G A p e s m args below meth c Po hPo X
  obtain ⟨hn0, hn1, hT2⟩ := id hT
  have hsk := sk_in (T := T) ha.2
  have hch := ch_in (a := sk T n a) hT (by omega)
  refine S_aload_n X dX2_comparison_0 rfl rfl ?_
  refine S_calli X (kX5_peek_2 l h0 ht hb f ft T n a w x hf0 hf1 hf2 (by omega) (by omega)) (is := [0, 1, 2]) rfl (run_U X lkX2_40_2 0 rfl rfl (is := [0, 1, 2]) (avs := []) (rest := []) rfl rfl (nle rfl) ⟨by simp only [rmD]; omega, by simp only [rmD]; omega⟩ ⟨nle rfl, nle rfl⟩ dX2_comparison_1 (by decide) rfl) (fun z_3 u_1 hp_2 => ?_)
  obtain ⟨hz_4, hu_5⟩ := hp_2
  subst hz_4
  subst hu_5
  refine ⟨rfl, ?_⟩
  refine S_w (ws' := [(h0, ob 2 (uF (uF (uF f 1 (iv (sk T n a))) 2 (iv w)) 4 (iv x))), (ht, ob 6 ft), (hb, ar 160 T), (hc, ar 160 C)]) rfl ?_
  refine S_istore_n X dX2_comparison_4 rfl (nle rfl) ?_
  refine S_iload_n X dX2_comparison_5 rfl rfl ?_
  refine S_calli X (kX2_isComparison l (ch T n (sk T n a)) (by omega)) (is := []) rfl (run_S X lkX2_53 (is := []) (avs := [iv (ch T n (sk T n a))]) (rest := []) rfl rfl (nle rfl) ⟨by simp only [rmD]; omega, by simp only [rmD]; omega⟩ ⟨nle rfl, nle rfl⟩ dX2_comparison_6 (by decide) rfl) (fun z_8 u_6 hp_7 => ?_)
  rcases hp_7 with ⟨hz_9, hu_10, hq_11⟩ | ⟨hz_12, hu_13, hq_14⟩
  ·
    subst hz_9
    subst hu_10
    refine ⟨rfl, ?_⟩
    refine S_w (ws' := [(h0, ob 2 (uF (uF (uF f 1 (iv (sk T n a))) 2 (iv w)) 4 (iv x))), (ht, ob 6 ft), (hb, ar 160 T), (hc, ar 160 C)]) rfl ?_
    refine S_if_ne (tgt := 17) X dX2_comparison_9 (by decide) (by decide) (fun h9 => absurd h9 (by decide)) (fun _ => ?_)
    refine S_aload_n X dX2_comparison_12 rfl rfl ?_
    refine S_calli X (kX5_fail_2 l h0 ht hb f ft T n (sk T n a) w x hf0 hf1 hf2) (is := [0, 1, 2]) rfl (run_U X lkX2_36_2 0 rfl rfl (is := [0, 1, 2]) (avs := []) (rest := []) rfl rfl (nle rfl) ⟨by simp only [rmD]; omega, by simp only [rmD]; omega⟩ ⟨nle rfl, nle rfl⟩ dX2_comparison_13 (by decide) rfl) (fun z_18 u_16 hp_17 => ?_)
    obtain ⟨hz_19, hu_20⟩ := hp_17
    subst hz_19
    subst hu_20
    refine ⟨rfl, ?_⟩
    refine S_w (ws' := [(h0, ob 2 (uF (uF (uF f 1 (iv (sk T n a))) 2 (iv (sk T n a))) 4 (iv x))), (ht, ob 6 ft), (hb, ar 160 T), (hc, ar 160 C)]) rfl ?_
    exact S_zret X (Or.inl rfl) (nle rfl) (nle rfl) dX2_comparison_16 (hPo _ _ (Or.inl ⟨_, _, _, _, rfl, rfl, cmp_n (by assumption)⟩))
  ·
    subst hz_12
    subst hu_13
    refine ⟨rfl, ?_⟩
    refine S_w (ws' := [(h0, ob 2 (uF (uF (uF f 1 (iv (sk T n a))) 2 (iv w)) 4 (iv x))), (ht, ob 6 ft), (hb, ar 160 T), (hc, ar 160 C)]) rfl ?_
    refine S_if_ne (tgt := 17) X dX2_comparison_9 (by decide) (by decide) (fun _ => ?_) (fun h9 => absurd h9 (by decide))
    have hlt : sk T n a < n := ch_lt (T := T) (by omega)
    refine S_aload_n X dX2_comparison_17 rfl rfl ?_
    refine S_dup X dX2_comparison_18 ?_
    refine S_get (v := iv (sk T n a)) X fgX2_68_2 0 rfl rfl dX2_comparison_19 ?_
    refine S_iconst X dX2_comparison_22 ?_
    refine S_iadd X dX2_comparison_23 ?_
    refine S_put X fpX2_68_2 0 rfl FT_i dX2_comparison_24 ?_
    refine S_w (ws' := [(h0, ob 2 (uF (uF (uF f 1 (iv ((sk T n a) + 1))) 2 (iv w)) 4 (iv x))), (ht, ob 6 ft), (hb, ar 160 T), (hc, ar 160 C)]) (by simp only [List.set]; rw [uF_mv (j := 4) (k := 1) (by decide), uF_mv (j := 2) (k := 1) (by decide), uF_same (k := 1)]) ?_
    refine S_aload_n X dX2_comparison_27 rfl rfl ?_
    refine S_iload_n X dX2_comparison_28 rfl rfl ?_
    refine S_calli X (hsu h0 ht hb f ft T n ((sk T n a) + 1) w x hc C wi hf0 hf1 hf2 hf3 (by omega) (by omega) (by (try simp only [List.length_append, List.length_singleton, Int.natCast_add, Int.natCast_one]); omega) (by omega) (by omega)) (is := [0, 1, 2, 3]) rfl (run_V X lkX2_50 0 rfl rfl (is := [0, 1, 2, 3]) (avs := [iv wi]) (rest := []) rfl rfl (nle rfl) ⟨by simp only [rmD]; omega, by simp only [rmD]; omega⟩ ⟨nle rfl, nle rfl⟩ dX2_comparison_29 (by decide) rfl) (fun z_24 u_22 hp_23 => ?_)
    rcases hp_23 with ⟨a2_25, fl_26, x2_27, C2_28, hz_29, hu_30, hq_31⟩ | ⟨a2_32, ts_33, hz_34, hu_35, hq_36⟩
    ·
      subst hz_29
      subst hu_30
      refine ⟨rfl, ?_⟩
      refine S_w (ws' := [(h0, ob 2 (uF (uF (uF f 1 (iv a2_25)) 2 (iv fl_26)) 4 (iv x2_27))), (ht, ob 6 ft), (hb, ar 160 T), (hc, ar 160 C2_28)]) rfl ?_
      refine S_if_eq (tgt := 48) X dX2_comparison_32 (by decide) (by decide) (fun _ => ?_) (fun h9 => absurd h9 (by decide))
      refine S_iconst X dX2_comparison_48 ?_
      exact S_zret X (Or.inl rfl) (nle rfl) (nle rfl) dX2_comparison_49 (hPo _ _ (Or.inl ⟨_, _, _, _, rfl, rfl, cmp_f (by assumption) hq_31⟩))
    ·
      subst hz_34
      subst hu_35
      refine ⟨rfl, ?_⟩
      refine S_w (ws' := [(h0, ob 2 (uF (uF (uF f 1 (iv a2_32)) 2 (iv w)) 4 (iv (x + (ts_33.length : Int))))), (ht, ob 6 ft), (hb, ar 160 T), (hc, ar 160 (wrL C x ts_33))]) rfl ?_
      refine S_w (ws' := [(h0, ob 2 (uF (uF (uF f 1 (iv a2_32)) 2 (iv w)) 4 (iv (x + ((ts_33).length : Int))))), (ht, ob 6 ft), (hb, ar 160 T), (hc, ar 160 (wrL C x (ts_33)))]) (by simp only [wrL_app, wrL, List.length_append, List.length_singleton, Int.natCast_add, Int.natCast_one, Int.add_assoc, List.append_assoc]) ?_
      have ho_37 := ((pAS_ok (T := T) hn1 K).2 (sk T n a + 1) (by omega) (by omega)).2 _ hq_36
      dsimp only at ho_37
      refine S_if_eq (tgt := 48) X dX2_comparison_32 (by decide) (by decide) (fun h9 => absurd h9 (by decide)) (fun _ => ?_)
      refine S_aload_n X dX2_comparison_35 rfl rfl ?_
      refine S_iload_n X dX2_comparison_36 rfl rfl ?_
      refine S_ineg X dX2_comparison_37 ?_
      refine S_calli X (kX2_emit l h0 f a2_32 w (x + ((ts_33).length : Int)) hc (wrL C x (ts_33)) (-(ch T n (sk T n a))) hf3 (by (try simp only [List.length_append, List.length_singleton, Int.natCast_add, Int.natCast_one]); omega)) (is := [0, 3]) rfl (run_V X lkX2_56 0 rfl rfl (is := [0, 3]) (avs := [iv (-(ch T n (sk T n a)))]) (rest := []) rfl rfl (nle rfl) ⟨by simp only [rmD]; omega, by simp only [rmD]; omega⟩ ⟨nle rfl, nle rfl⟩ dX2_comparison_38 (by decide) rfl) (fun z_41 u_39 hp_40 => ?_)
      obtain ⟨hz_42, hu_43⟩ := hp_40
      subst hz_42
      subst hu_43
      refine ⟨rfl, ?_⟩
      refine S_w (ws' := [(h0, ob 2 (uF (uF (uF f 1 (iv a2_32)) 2 (iv w)) 4 (iv ((x + ((ts_33).length : Int)) + 1)))), (ht, ob 6 ft), (hb, ar 160 T), (hc, ar 160 (uZ (wrL C x (ts_33)) (x + ((ts_33).length : Int)) (-(ch T n (sk T n a)))))]) rfl ?_
      refine S_w (ws' := [(h0, ob 2 (uF (uF (uF f 1 (iv a2_32)) 2 (iv w)) 4 (iv (x + ((ts_33 ++ [-ch T n (sk T n a)]).length : Int))))), (ht, ob 6 ft), (hb, ar 160 T), (hc, ar 160 (wrL C x (ts_33 ++ [-ch T n (sk T n a)])))]) (by simp only [wrL_app, wrL, List.length_append, List.length_singleton, Int.natCast_add, Int.natCast_one, Int.add_assoc, List.append_assoc]) ?_
      refine S_if_eq (tgt := 48) X dX2_comparison_41 (by decide) (by decide) (fun h9 => absurd h9 (by decide)) (fun _ => ?_)
      refine S_iconst X dX2_comparison_44 ?_
      refine S_goto (tgt := 49) X dX2_comparison_45 (by decide) ?_
      exact S_zret X (Or.inr rfl) (nle rfl) (nle rfl) dX2_comparison_49 (hPo _ _ (Or.inr ⟨_, ts_33 ++ [-ch T n (sk T n a)], rfl, rfl, cmp_r (by assumption) hq_36⟩))
end pt_14law1
/- 15.law2.lean.txt -/
section pt_15law2
theorem moreL_o {T : Int → Int} {n a b : Int} {unit : Int → LR} {f : Nat} {w : Bool} {acc ts : List Int} (h : ch T n (sk T n a) = 124) (h2 : unit (sk T n a + 1) = .inr (b, ts)) : moreL T n unit (f + 1) w a acc = moreL T n unit f true b ((if w then acc ++ [-124] else acc) ++ ts) := by rw [moreL, if_pos h, h2]
theorem moreL_of {T : Int → Int} {n a g : Int} {unit : Int → LR} {f : Nat} {w : Bool} {acc : List Int} (h : ch T n (sk T n a) = 124) (h2 : unit (sk T n a + 1) = .inl g) : moreL T n unit (f + 1) w a acc = .inl g := by rw [moreL, if_pos h, h2]
theorem moreL_a {T : Int → Int} {n a b : Int} {unit : Int → LR} {f : Nat} {w : Bool} {acc ts : List Int} (h : ch T n (sk T n a) = 38) (h2 : unit (sk T n a + 1) = .inr (b, ts)) : moreL T n unit (f + 1) w a acc = moreL T n unit f w b (acc ++ ts ++ [-38]) := by rw [moreL, if_neg (by omega), if_pos h, h2]
theorem moreL_af {T : Int → Int} {n a g : Int} {unit : Int → LR} {f : Nat} {w : Bool} {acc : List Int} (h : ch T n (sk T n a) = 38) (h2 : unit (sk T n a + 1) = .inl g) : moreL T n unit (f + 1) w a acc = .inl g := by rw [moreL, if_neg (by omega), if_pos h, h2]
theorem moreL_e {T : Int → Int} {n a : Int} {unit : Int → LR} {f : Nat} {w : Bool} {acc : List Int} (h : ¬ ch T n (sk T n a) = 124) (h2 : ¬ ch T n (sk T n a) = 38) : moreL T n unit (f + 1) w a acc = .inr (sk T n a, if w then acc ++ [-124] else acc) := by rw [moreL, if_neg h, if_neg h2]
theorem pCond_f {T : Int → Int} {n a f : Int} {k : Nat} (h : pUnit T n k a = .inl f) : pCond T n k a = .inl f := by unfold pCond condG; rw [h]
theorem pCond_r {T : Int → Int} {n a b : Int} {k : Nat} {ts : List Int} (h : pUnit T n k a = .inr (b, ts)) : pCond T n k a = moreL T n (pUnit T n k) 161 false b ts := by unfold pCond condG; rw [h]
theorem pUnit_0 (T : Int → Int) (n : Int) : pUnit T n 0 = unitG T n (fun _ => .inl 0) (fun _ => .inl 0) 0 := rfl
theorem pUnit_s (T : Int → Int) (n : Int) (k : Nat) : pUnit T n (k + 1) = unitG T n (pCond T n k) (pUnit T n k) (k + 1) := rfl
theorem unit_sf {T : Int → Int} {n a f : Int} {k : Nat} (h : ch T n (sk T n a) ≠ 33 ∧ ch T n (sk T n a) ≠ 40) (h2 : pSum T n k (sk T n a) = .inl f) : pUnit T n k a = .inl f := by
  cases k with
  | zero => rw [pUnit_0, unitG, if_pos h, h2]
  | succ k => rw [pUnit_s, unitG, if_pos h, h2]
theorem unit_cf {T : Int → Int} {n a b f : Int} {k : Nat} {ts : List Int} (h : ch T n (sk T n a) ≠ 33 ∧ ch T n (sk T n a) ≠ 40) (h2 : pSum T n k (sk T n a) = .inr (b, ts)) (h3 : cmpG T n k b = .inl f) : pUnit T n k a = .inl f := by
  cases k with
  | zero => rw [pUnit_0, unitG, if_pos h, h2]; show (match cmpG T n 0 b with | .inl f => (.inl f : LR) | .inr r => .inr (r.1, ts ++ r.2)) = _; rw [h3]
  | succ k => rw [pUnit_s, unitG, if_pos h, h2]; show (match cmpG T n (k + 1) b with | .inl f => (.inl f : LR) | .inr r => .inr (r.1, ts ++ r.2)) = _; rw [h3]
theorem unit_c {T : Int → Int} {n a b b2 : Int} {k : Nat} {ts ts2 : List Int} (h : ch T n (sk T n a) ≠ 33 ∧ ch T n (sk T n a) ≠ 40) (h2 : pSum T n k (sk T n a) = .inr (b, ts)) (h3 : cmpG T n k b = .inr (b2, ts2)) : pUnit T n k a = .inr (b2, ts ++ ts2) := by
  cases k with
  | zero => rw [pUnit_0, unitG, if_pos h, h2]; show (match cmpG T n 0 b with | .inl f => (.inl f : LR) | .inr r => .inr (r.1, ts ++ r.2)) = _; rw [h3]
  | succ k => rw [pUnit_s, unitG, if_pos h, h2]; show (match cmpG T n (k + 1) b with | .inl f => (.inl f : LR) | .inr r => .inr (r.1, ts ++ r.2)) = _; rw [h3]
theorem unit_d {T : Int → Int} {n a : Int} {k : Nat} (h : ¬ (ch T n (sk T n a) ≠ 33 ∧ ch T n (sk T n a) ≠ 40)) (hk : k = 0) : pUnit T n k a = .inl (sk T n a) := by
  subst hk
  rw [pUnit_0, unitG, if_neg h, if_pos rfl]
theorem unit_nf {T : Int → Int} {n a f : Int} {k : Nat} (h : ch T n (sk T n a) = 33) (h2 : pUnit T n k (sk T n a + 1) = .inl f) : pUnit T n (k + 1) a = .inl f := by
  rw [pUnit_s, unitG, if_neg (by omega), if_neg (by omega), if_pos h, h2]
theorem unit_n {T : Int → Int} {n a b : Int} {k : Nat} {ts : List Int} (h : ch T n (sk T n a) = 33) (h2 : pUnit T n k (sk T n a + 1) = .inr (b, ts)) : pUnit T n (k + 1) a = .inr (b, ts ++ [-33]) := by
  rw [pUnit_s, unitG, if_neg (by omega), if_neg (by omega), if_pos h, h2]
theorem unit_pf {T : Int → Int} {n a f : Int} {k : Nat} (h : ch T n (sk T n a) = 40) (h2 : pCond T n k (sk T n a + 1) = .inl f) : pUnit T n (k + 1) a = .inl f := by
  rw [pUnit_s, unitG, if_neg (by omega), if_neg (by omega), if_neg (by omega), h2]
theorem unit_p {T : Int → Int} {n a b : Int} {k : Nat} {ts : List Int} (h : ch T n (sk T n a) = 40) (h2 : pCond T n k (sk T n a + 1) = .inr (b, ts)) : pUnit T n (k + 1) a = if ch T n (sk T n b) = 41 then .inr (sk T n b + 1, ts) else .inl (sk T n b) := by
  rw [pUnit_s, unitG, if_neg (by omega), if_neg (by omega), if_neg (by omega), h2]
def negG (T : Int → Int) (n : Int) (k : Nat) (a : Int) : LR := match pUnit T n k a with
  | .inl f => .inl f
  | .inr q => .inr (q.1, q.2 ++ [-33])
theorem neg_f {T : Int → Int} {n a f : Int} {k : Nat} (h2 : pUnit T n k a = .inl f) : negG T n k a = .inl f := by rw [negG, h2]
theorem neg_r {T : Int → Int} {n a b : Int} {k : Nat} {ts : List Int} (h2 : pUnit T n k a = .inr (b, ts)) : negG T n k a = .inr (b, ts ++ [-33]) := by rw [negG, h2]
theorem unit_ng {T : Int → Int} {n a : Int} {k : Nat} (h : ch T n (sk T n a) = 33) : pUnit T n (k + 1) a = negG T n k (sk T n a + 1) := by
  rw [pUnit_s, unitG, if_neg (by omega), if_neg (by omega), if_pos h]
  rfl
theorem negG_ok {T : Int → Int} {n : Int} (hn : n ≤ 160) (k : Nat) (a : Int) (h0 : 0 ≤ a) (ha : a ≤ n) : (∀ f, negG T n k a = .inl f → 0 ≤ f ∧ f ≤ n) ∧ (∀ q, negG T n k a = .inr q → a < q.1 ∧ q.1 ≤ n ∧ (q.2.length : Int) ≤ q.1 - a + 1 ∧ 0 < q.2.length ∧ ∀ t ∈ q.2, -200 ≤ t ∧ t ≤ 9999) := by
  have h1 := pUnit_ok (T := T) hn k a h0 ha
  cases hp : pUnit T n k a with
  | inl f => rw [neg_f hp]; exact ⟨fun f' e => (by cases e; exact h1.1 f hp), fun q e => (by cases e)⟩
  | inr q =>
    obtain ⟨b, ts⟩ := q
    have h2 := h1.2 _ hp
    dsimp only at h2
    rw [neg_r hp]
    refine ⟨fun f' e => (by cases e), fun q e => ?_⟩
    cases e
    exact ⟨h2.1, h2.2.1, by simp only [List.length_append, List.length_singleton]; omega, by simp, ok_app h2.2.2.2.2 (ok_one (by decide))⟩
def C_X2_unit (l : Launch) (K : Nat) (d : Nat) : Prop := ∀ (h0 : Nat) (ht : Nat) (hb : Nat) (f : Nat → AV) (ft : Nat → AV) (T : Int → Int) (n : Int) (a : Int) (w : Int) (x : Int) (hc : Nat) (C : Int → Int) (wi : Int), (f 0 = rv ht) → (ft 0 = rv hb) → (ft 1 = iv n) → (f 3 = rv hc) → (okT T n) → (0 ≤ a ∧ a ≤ n) → (0 ≤ x ∧ x < a) → (wi + K = 6) → (0 ≤ wi) → AMi l yX2_unit cX2_unit 3 .boolean d 0 0 [rv h0, iv wi] [(h0, ob 2 (uF (uF (uF f 1 (iv a)) 2 (iv w)) 4 (iv x))), (ht, ob 6 ft), (hb, ar 160 T), (hc, ar 160 C)] (fun z u => (∃ a2 : Int, ∃ fl : Int, ∃ x2 : Int, ∃ C2 : Int → Int, z = 0 ∧ u = [(h0, ob 2 (uF (uF (uF f 1 (iv a2)) 2 (iv fl)) 4 (iv x2))), (ht, ob 6 ft), (hb, ar 160 T), (hc, ar 160 C2)] ∧ pUnit T n K a = .inl fl) ∨ (∃ a2 : Int, ∃ ts : List Int, z = 1 ∧ u = [(h0, ob 2 (uF (uF (uF f 1 (iv a2)) 2 (iv w)) 4 (iv (x + (ts.length : Int))))), (ht, ob 6 ft), (hb, ar 160 T), (hc, ar 160 (wrL C x ts))] ∧ pUnit T n K a = .inr (a2, ts)))
def C_X2_negated (l : Launch) (K : Nat) (d : Nat) : Prop := ∀ (h0 : Nat) (ht : Nat) (hb : Nat) (f : Nat → AV) (ft : Nat → AV) (T : Int → Int) (n : Int) (a : Int) (w : Int) (x : Int) (hc : Nat) (C : Int → Int) (wi : Int), (f 0 = rv ht) → (ft 0 = rv hb) → (ft 1 = iv n) → (f 3 = rv hc) → (okT T n) → (0 ≤ a ∧ a ≤ n) → (0 ≤ x ∧ x < a) → (wi + K = 6) → (0 ≤ wi) → AMi l yX2_negated cX2_negated 2 .boolean d 0 0 [rv h0, iv wi] [(h0, ob 2 (uF (uF (uF f 1 (iv a)) 2 (iv w)) 4 (iv x))), (ht, ob 6 ft), (hb, ar 160 T), (hc, ar 160 C)] (fun z u => (∃ a2 : Int, ∃ fl : Int, ∃ x2 : Int, ∃ C2 : Int → Int, z = 0 ∧ u = [(h0, ob 2 (uF (uF (uF f 1 (iv a2)) 2 (iv fl)) 4 (iv x2))), (ht, ob 6 ft), (hb, ar 160 T), (hc, ar 160 C2)] ∧ negG T n K a = .inl fl) ∨ (∃ a2 : Int, ∃ ts : List Int, z = 1 ∧ u = [(h0, ob 2 (uF (uF (uF f 1 (iv a2)) 2 (iv w)) 4 (iv (x + (ts.length : Int))))), (ht, ob 6 ft), (hb, ar 160 T), (hc, ar 160 (wrL C x ts))] ∧ negG T n K a = .inr (a2, ts)))
def C_X2_moreUnits (l : Launch) (K : Nat) (d : Nat) : Prop := ∀ (h0 : Nat) (ht : Nat) (hb : Nat) (f : Nat → AV) (ft : Nat → AV) (T : Int → Int) (n : Int) (a : Int) (w : Int) (x : Int) (hc : Nat) (C : Int → Int) (wi : Int) (tl : List Int), (f 0 = rv ht) → (ft 0 = rv hb) → (ft 1 = iv n) → (f 3 = rv hc) → (okT T n) → (0 ≤ a ∧ a ≤ n) → (0 ≤ x ∧ x + (tl.length : Int) < a) → (wi + K = 6) → (0 ≤ wi) → AMi l yX2_moreUnits cX2_moreUnits 6 .boolean d 0 0 [rv h0, iv wi] [(h0, ob 2 (uF (uF (uF f 1 (iv a)) 2 (iv w)) 4 (iv (x + ((tl).length : Int))))), (ht, ob 6 ft), (hb, ar 160 T), (hc, ar 160 (wrL C x (tl)))] (fun z u => (∃ a2 : Int, ∃ fl : Int, ∃ x2 : Int, ∃ C2 : Int → Int, z = 0 ∧ u = [(h0, ob 2 (uF (uF (uF f 1 (iv a2)) 2 (iv fl)) 4 (iv x2))), (ht, ob 6 ft), (hb, ar 160 T), (hc, ar 160 C2)] ∧ moreL T n (pUnit T n K) 161 false a tl = .inl fl) ∨ (∃ a2 : Int, ∃ ts : List Int, z = 1 ∧ u = [(h0, ob 2 (uF (uF (uF f 1 (iv a2)) 2 (iv w)) 4 (iv (x + ((ts).length : Int))))), (ht, ob 6 ft), (hb, ar 160 T), (hc, ar 160 (wrL C x (ts)))] ∧ moreL T n (pUnit T n K) 161 false a tl = .inr (a2, ts)))
def C_X2_condition (l : Launch) (K : Nat) (d : Nat) : Prop := ∀ (h0 : Nat) (ht : Nat) (hb : Nat) (f : Nat → AV) (ft : Nat → AV) (T : Int → Int) (n : Int) (a : Int) (w : Int) (x : Int) (hc : Nat) (C : Int → Int) (wi : Int), (f 0 = rv ht) → (ft 0 = rv hb) → (ft 1 = iv n) → (f 3 = rv hc) → (okT T n) → (0 ≤ a ∧ a ≤ n) → (0 ≤ x ∧ x < a) → (wi + K = 6) → (0 ≤ wi) → AMi l yX2_condition cX2_condition 2 .boolean d 0 0 [rv h0, iv wi] [(h0, ob 2 (uF (uF (uF f 1 (iv a)) 2 (iv w)) 4 (iv x))), (ht, ob 6 ft), (hb, ar 160 T), (hc, ar 160 C)] (fun z u => (∃ a2 : Int, ∃ fl : Int, ∃ x2 : Int, ∃ C2 : Int → Int, z = 0 ∧ u = [(h0, ob 2 (uF (uF (uF f 1 (iv a2)) 2 (iv fl)) 4 (iv x2))), (ht, ob 6 ft), (hb, ar 160 T), (hc, ar 160 C2)] ∧ pCond T n K a = .inl fl) ∨ (∃ a2 : Int, ∃ ts : List Int, z = 1 ∧ u = [(h0, ob 2 (uF (uF (uF f 1 (iv a2)) 2 (iv w)) 4 (iv (x + (ts.length : Int))))), (ht, ob 6 ft), (hb, ar 160 T), (hc, ar 160 (wrL C x ts))] ∧ pCond T n K a = .inr (a2, ts)))
set_option maxHeartbeats 4000000 in
set_option maxRecDepth 100000 in
theorem kX2_negated (l : Launch) (K : Nat) (d : Nat) (hd : 5 ≤ d) (hun : C_X2_unit l K d) : C_X2_negated l K (d + 1) := by
  intro h0 ht hb f ft T n a w x hc C wi hf0 hf1 hf2 hf3 hT ha hx hw h6
  refine AMi.of2 rfl (nle rfl) ?_
  intro D G A p e s m args below meth c Po hPo X
  obtain ⟨hn0, hn1, hT2⟩ := id hT
  have hsk := sk_in (T := T) ha.2
  have hch := ch_in (a := sk T n a) hT (by omega)
  refine S_aload_n X dX2_negated_0 rfl rfl ?_
  refine S_iload_n X dX2_negated_1 rfl rfl ?_
  refine S_calli X (hun h0 ht hb f ft T n a w x hc C wi hf0 hf1 hf2 hf3 (by omega) (by omega) (by (try simp only [List.length_append, List.length_singleton, Int.natCast_add, Int.natCast_one]); omega) (by omega) (by omega)) (is := [0, 1, 2, 3]) rfl (run_V X lkX2_65 0 rfl rfl (is := [0, 1, 2, 3]) (avs := [iv wi]) (rest := []) rfl rfl (nle rfl) ⟨by simp only [rmD]; omega, by simp only [rmD]; omega⟩ ⟨nle rfl, nle rfl⟩ dX2_negated_2 (by decide) rfl) (fun z_3 u_1 hp_2 => ?_)
  rcases hp_2 with ⟨a2_4, fl_5, x2_6, C2_7, hz_8, hu_9, hq_10⟩ | ⟨a2_11, ts_12, hz_13, hu_14, hq_15⟩
  ·
    subst hz_8
    subst hu_9
    refine ⟨rfl, ?_⟩
    refine S_w (ws' := [(h0, ob 2 (uF (uF (uF f 1 (iv a2_4)) 2 (iv fl_5)) 4 (iv x2_6))), (ht, ob 6 ft), (hb, ar 160 T), (hc, ar 160 C2_7)]) rfl ?_
    refine S_if_eq (tgt := 21) X dX2_negated_5 (by decide) (by decide) (fun _ => ?_) (fun h9 => absurd h9 (by decide))
    refine S_iconst X dX2_negated_21 ?_
    exact S_zret X (Or.inl rfl) (nle rfl) (nle rfl) dX2_negated_22 (hPo _ _ (Or.inl ⟨_, _, _, _, rfl, rfl, neg_f hq_10⟩))
  ·
    subst hz_13
    subst hu_14
    refine ⟨rfl, ?_⟩
    refine S_w (ws' := [(h0, ob 2 (uF (uF (uF f 1 (iv a2_11)) 2 (iv w)) 4 (iv (x + (ts_12.length : Int))))), (ht, ob 6 ft), (hb, ar 160 T), (hc, ar 160 (wrL C x ts_12))]) rfl ?_
    refine S_w (ws' := [(h0, ob 2 (uF (uF (uF f 1 (iv a2_11)) 2 (iv w)) 4 (iv (x + ((ts_12).length : Int))))), (ht, ob 6 ft), (hb, ar 160 T), (hc, ar 160 (wrL C x (ts_12)))]) (by simp only [wrL_app, wrL, List.length_append, List.length_singleton, Int.natCast_add, Int.natCast_one, Int.add_assoc, List.append_assoc]) ?_
    have ho_16 := (pUnit_ok (T := T) hn1 K (a) (by omega) (by omega)).2 _ hq_15
    dsimp only at ho_16
    refine S_if_eq (tgt := 21) X dX2_negated_5 (by decide) (by decide) (fun h9 => absurd h9 (by decide)) (fun _ => ?_)
    refine S_aload_n X dX2_negated_8 rfl rfl ?_
    refine S_bipush X dX2_negated_9 rfl ?_
    refine S_calli X (kX2_emit l h0 f a2_11 w (x + ((ts_12).length : Int)) hc (wrL C x (ts_12)) (-33) hf3 (by (try simp only [List.length_append, List.length_singleton, Int.natCast_add, Int.natCast_one]); omega)) (is := [0, 3]) rfl (run_V X lkX2_56 0 rfl rfl (is := [0, 3]) (avs := [iv (-33)]) (rest := []) rfl rfl (nle rfl) ⟨by simp only [rmD]; omega, by simp only [rmD]; omega⟩ ⟨nle rfl, nle rfl⟩ dX2_negated_11 (by decide) rfl) (fun z_20 u_18 hp_19 => ?_)
    obtain ⟨hz_21, hu_22⟩ := hp_19
    subst hz_21
    subst hu_22
    refine ⟨rfl, ?_⟩
    refine S_w (ws' := [(h0, ob 2 (uF (uF (uF f 1 (iv a2_11)) 2 (iv w)) 4 (iv ((x + ((ts_12).length : Int)) + 1)))), (ht, ob 6 ft), (hb, ar 160 T), (hc, ar 160 (uZ (wrL C x (ts_12)) (x + ((ts_12).length : Int)) (-33)))]) rfl ?_
    refine S_w (ws' := [(h0, ob 2 (uF (uF (uF f 1 (iv a2_11)) 2 (iv w)) 4 (iv (x + ((ts_12 ++ [-33]).length : Int))))), (ht, ob 6 ft), (hb, ar 160 T), (hc, ar 160 (wrL C x (ts_12 ++ [-33])))]) (by simp only [wrL_app, wrL, List.length_append, List.length_singleton, Int.natCast_add, Int.natCast_one, Int.add_assoc, List.append_assoc]) ?_
    refine S_if_eq (tgt := 21) X dX2_negated_14 (by decide) (by decide) (fun h9 => absurd h9 (by decide)) (fun _ => ?_)
    refine S_iconst X dX2_negated_17 ?_
    refine S_goto (tgt := 22) X dX2_negated_18 (by decide) ?_
    exact S_zret X (Or.inr rfl) (nle rfl) (nle rfl) dX2_negated_22 (hPo _ _ (Or.inr ⟨_, ts_12 ++ [-33], rfl, rfl, neg_r hq_15⟩))
set_option maxHeartbeats 4000000 in
set_option maxRecDepth 100000 in
theorem kX2_moreUnits (l : Launch) (K : Nat) (d : Nat) (hd : 5 ≤ d) (hun : C_X2_unit l K d) : C_X2_moreUnits l K (d + 1) := by
  intro h0 ht hb f ft T n a w x hc C wi tl hf0 hf1 hf2 hf3 hT ha hx hw h6
  refine AMi.of2 rfl (nle rfl) ?_
  intro D G A p e s m args below meth c Po hPo X
  obtain ⟨hn0, hn1, hT2⟩ := id hT
  have hsk := sk_in (T := T) ha.2
  have hch := ch_in (a := sk T n a) hT (by omega)
  refine S_iconst X dX2_moreUnits_0 ?_
  refine S_istore_n X dX2_moreUnits_1 rfl (nle rfl) ?_
  refine S_iconst X dX2_moreUnits_2 ?_
  refine S_istore_n X dX2_moreUnits_3 rfl (nle rfl) ?_
  have lp4_0 : ∀ (N : Nat) (i : Int) (a1 : Int) (w1 : Int) (wb : Bool) (acc : List Int) (L : Nat → Option AV), 0 ≤ i ∧ i ≤ 161 ∧ a ≤ a1 ∧ a1 ≤ n → (w1 = 0 ∧ wb = false ∧ x + (acc.length : Int) < a1) ∨ (w1 = 1 ∧ wb = true ∧ x + (acc.length : Int) + 1 < a1) → (∀ z9, moreL T n (pUnit T n K) (161 - i.toNat) wb a1 acc = z9 → moreL T n (pUnit T n K) 161 false a tl = z9) → L 0 = some (rv h0) → L 1 = some (iv wi) → L 2 = some (iv w1) → L 3 = some (iv i) → 162 - i < (N : Int) → S_ p l e (rmD (d + 1) 0 0) s m args below meth c (MQ below (QcI D G A Po) args s 0 0 A) D G A 6 0 0 4 L [] [(h0, ob 2 (uF (uF (uF f 1 (iv a1)) 2 (iv w)) 4 (iv (x + ((acc).length : Int))))), (ht, ob 6 ft), (hb, ar 160 T), (hc, ar 160 (wrL C x (acc)))] := by
    intro N
    induction N with
    | zero =>
      intro i a1 w1 wb acc L4 hi hbd hk hL4_0 hL4_1 hL4_2 hL4_3 hN4
      exfalso; omega
    | succ N ih4 =>
      intro i a1 w1 wb acc L4 hi hbd hk hL4_0 hL4_1 hL4_2 hL4_3 hN4
      refine S_iload_n X dX2_moreUnits_4 rfl hL4_3 ?_
      refine S_sipush X dX2_moreUnits_5 rfl ?_
      refine S_icmp_gt (tgt := 133) X dX2_moreUnits_8 (by decide) (by omega) (by decide) (fun c_1 => ?_) (fun c_1 => ?_)
      ·
        refine S_aload_n X dX2_moreUnits_133 rfl hL4_0 ?_
        refine S_calli X (kX5_fail_2 l h0 ht hb f ft T n a1 w (x + ((acc).length : Int)) hf0 hf1 hf2) (is := [0, 1, 2]) rfl (run_U X lkX2_36_2 0 rfl rfl (is := [0, 1, 2]) (avs := []) (rest := []) rfl rfl (nle rfl) ⟨by simp only [rmD]; omega, by simp only [rmD]; omega⟩ ⟨nle rfl, nle rfl⟩ dX2_moreUnits_134 (by decide) rfl) (fun z_4 u_2 hp_3 => ?_)
        obtain ⟨hz_5, hu_6⟩ := hp_3
        subst hz_5
        subst hu_6
        refine ⟨rfl, ?_⟩
        refine S_w (ws' := [(h0, ob 2 (uF (uF (uF f 1 (iv a1)) 2 (iv a1)) 4 (iv (x + ((acc).length : Int))))), (ht, ob 6 ft), (hb, ar 160 T), (hc, ar 160 (wrL C x (acc)))]) rfl ?_
        exact S_zret X (Or.inl rfl) (nle rfl) (nle rfl) dX2_moreUnits_137 (hPo _ _ (Or.inl ⟨_, _, _, _, rfl, rfl, hk (.inl a1) (by rw [show 161 - i.toNat = 0 by omega]; rfl)⟩))
      ·
        refine S_aload_n X dX2_moreUnits_11 rfl hL4_0 ?_
        refine S_calli X (kX5_peek_2 l h0 ht hb f ft T n a1 w (x + ((acc).length : Int)) hf0 hf1 hf2 (by omega) (by omega)) (is := [0, 1, 2]) rfl (run_U X lkX2_40_2 0 rfl rfl (is := [0, 1, 2]) (avs := []) (rest := []) rfl rfl (nle rfl) ⟨by simp only [rmD]; omega, by simp only [rmD]; omega⟩ ⟨nle rfl, nle rfl⟩ dX2_moreUnits_12 (by decide) rfl) (fun z_9 u_7 hp_8 => ?_)
        obtain ⟨hz_10, hu_11⟩ := hp_8
        subst hz_10
        subst hu_11
        refine ⟨rfl, ?_⟩
        refine S_w (ws' := [(h0, ob 2 (uF (uF (uF f 1 (iv (sk T n a1))) 2 (iv w)) 4 (iv (x + ((acc).length : Int))))), (ht, ob 6 ft), (hb, ar 160 T), (hc, ar 160 (wrL C x (acc)))]) rfl ?_
        have hsk1 := sk_in (T := T) (n := n) (a := a1) (by omega)
        have hch1 := ch_in (a := sk T n a1) hT (by omega)
        refine S_istore X dX2_moreUnits_15 (nle rfl) ?_
        refine S_iload X dX2_moreUnits_17 rfl ?_
        refine S_bipush X dX2_moreUnits_19 rfl ?_
        refine S_icmp_eq (tgt := 50) X dX2_moreUnits_21 (by decide) (by omega) (by decide) (fun c_12 => ?_) (fun c_12 => ?_)
        ·
          refine S_iload X dX2_moreUnits_50 rfl ?_
          refine S_bipush X dX2_moreUnits_52 rfl ?_
          refine S_icmp_ne (tgt := 61) X dX2_moreUnits_54 (by decide) (by omega) (by decide) (fun c_13 => by exfalso; omega) (fun c_13 => ?_)
          refine S_iconst X dX2_moreUnits_57 ?_
          refine S_goto (tgt := 62) X dX2_moreUnits_58 (by decide) ?_
          refine S_istore X dX2_moreUnits_62 (nle rfl) ?_
          refine S_iload X dX2_moreUnits_64 rfl ?_
          refine S_if_eq (tgt := 80) X dX2_moreUnits_66 (by decide) (by decide) (fun h9 => absurd h9 (by decide)) (fun _ => ?_)
          refine S_iload_n X dX2_moreUnits_69 rfl hL4_2 ?_
          refine S_if_eq (tgt := 80) X dX2_moreUnits_70 (by decide) (by omega) (fun c_15 => ?_) (fun c_15 => ?_)
          ·
            have hw_c_15 : wb = false := hbd.elim (fun q9 => q9.2.1) (fun q9 => absurd q9.1 (by omega))
            refine S_iload X dX2_moreUnits_80 rfl ?_
            refine S_if_ne (tgt := 89) X dX2_moreUnits_82 (by decide) (by decide) (fun _ => ?_) (fun h9 => absurd h9 (by decide))
            refine S_iconst X dX2_moreUnits_89 ?_
            refine S_goto (tgt := 94) X dX2_moreUnits_90 (by decide) ?_
            refine S_istore_n X dX2_moreUnits_94 rfl (nle rfl) ?_
            have hlt1 : sk T n a1 < n := ch_lt (T := T) (by omega)
            refine S_aload_n X dX2_moreUnits_95 rfl hL4_0 ?_
            refine S_dup X dX2_moreUnits_96 ?_
            refine S_get (v := iv (sk T n a1)) X fgX2_68_2 0 rfl rfl dX2_moreUnits_97 ?_
            refine S_iconst X dX2_moreUnits_100 ?_
            refine S_iadd X dX2_moreUnits_101 ?_
            refine S_put X fpX2_68_2 0 rfl FT_i dX2_moreUnits_102 ?_
            refine S_w (ws' := [(h0, ob 2 (uF (uF (uF f 1 (iv ((sk T n a1) + 1))) 2 (iv w)) 4 (iv (x + ((acc).length : Int))))), (ht, ob 6 ft), (hb, ar 160 T), (hc, ar 160 (wrL C x (acc)))]) (by simp only [List.set]; rw [uF_mv (j := 4) (k := 1) (by decide), uF_mv (j := 2) (k := 1) (by decide), uF_same (k := 1)]) ?_
            refine S_aload_n X dX2_moreUnits_105 rfl hL4_0 ?_
            refine S_iload_n X dX2_moreUnits_106 rfl hL4_1 ?_
            refine S_calli X (hun h0 ht hb f ft T n ((sk T n a1) + 1) w (x + ((acc).length : Int)) hc (wrL C x (acc)) wi hf0 hf1 hf2 hf3 (by omega) (by omega) (by (try simp only [List.length_append, List.length_singleton, Int.natCast_add, Int.natCast_one]); omega) (by omega) (by omega)) (is := [0, 1, 2, 3]) rfl (run_V X lkX2_65 0 rfl rfl (is := [0, 1, 2, 3]) (avs := [iv wi]) (rest := []) rfl rfl (nle rfl) ⟨by simp only [rmD]; omega, by simp only [rmD]; omega⟩ ⟨nle rfl, nle rfl⟩ dX2_moreUnits_107 (by decide) rfl) (fun z_19 u_17 hp_18 => ?_)
            rcases hp_18 with ⟨a2_20, fl_21, x2_22, C2_23, hz_24, hu_25, hq_26⟩ | ⟨a2_27, ts_28, hz_29, hu_30, hq_31⟩
            ·
              subst hz_24
              subst hu_25
              refine ⟨rfl, ?_⟩
              refine S_w (ws' := [(h0, ob 2 (uF (uF (uF f 1 (iv a2_20)) 2 (iv fl_21)) 4 (iv x2_22))), (ht, ob 6 ft), (hb, ar 160 T), (hc, ar 160 C2_23)]) rfl ?_
              refine S_if_ne (tgt := 115) X dX2_moreUnits_110 (by decide) (by decide) (fun h9 => absurd h9 (by decide)) (fun _ => ?_)
              refine S_iconst X dX2_moreUnits_113 ?_
              exact S_zret X (Or.inl rfl) (nle rfl) (nle rfl) dX2_moreUnits_114 (hPo _ _ (Or.inl ⟨_, _, _, _, rfl, rfl, hk (.inl _) (by rw [fuel161 (by omega) (by omega)]; exact moreL_of (by omega) hq_26)⟩))
            ·
              subst hz_29
              subst hu_30
              refine ⟨rfl, ?_⟩
              refine S_w (ws' := [(h0, ob 2 (uF (uF (uF f 1 (iv a2_27)) 2 (iv w)) 4 (iv ((x + ((acc).length : Int)) + (ts_28.length : Int))))), (ht, ob 6 ft), (hb, ar 160 T), (hc, ar 160 (wrL (wrL C x (acc)) (x + ((acc).length : Int)) ts_28))]) rfl ?_
              refine S_w (ws' := [(h0, ob 2 (uF (uF (uF f 1 (iv a2_27)) 2 (iv w)) 4 (iv (x + ((acc ++ ts_28).length : Int))))), (ht, ob 6 ft), (hb, ar 160 T), (hc, ar 160 (wrL C x (acc ++ ts_28)))]) (by simp only [wrL_app, wrL, List.length_append, List.length_singleton, Int.natCast_add, Int.natCast_one, Int.add_assoc, List.append_assoc]) ?_
              have ho_32 := (pUnit_ok (T := T) hn1 K (sk T n a1 + 1) (by omega) (by omega)).2 _ hq_31
              dsimp only at ho_32
              refine S_if_ne (tgt := 115) X dX2_moreUnits_110 (by decide) (by decide) (fun _ => ?_) (fun h9 => absurd h9 (by decide))
              refine S_iload X dX2_moreUnits_115 rfl ?_
              refine S_if_ne (tgt := 127) X dX2_moreUnits_117 (by decide) (by decide) (fun _ => ?_) (fun h9 => absurd h9 (by decide))
              refine S_iinc X dX2_moreUnits_127 (nle rfl) hL4_3 ?_
              refine S_goto (tgt := 4) X dX2_moreUnits_130 (by decide) ?_
              exact ih4 (i + 1) a2_27 1 true (acc ++ ts_28) _ (by omega) (Or.inr ⟨rfl, rfl, by simp only [List.length_append, List.length_singleton, Int.natCast_add, Int.natCast_one]; omega⟩) (fun z9 h9 => hk z9 (by rw [fuel161 (by omega) (by omega), moreL_o (by omega) hq_31]; simp only [hw_c_15, Bool.false_eq_true, if_true, if_false]; exact h9)) hL4_0 hL4_1 rfl rfl (by omega)
          ·
            have hw_c_15 : wb = true := hbd.elim (fun q9 => absurd q9.1 c_15) (fun q9 => q9.2.1)
            have hw1 : w1 = 1 := by omega
            refine S_aload_n X dX2_moreUnits_73 rfl hL4_0 ?_
            refine S_bipush X dX2_moreUnits_74 rfl ?_
            refine S_calli X (kX2_emit l h0 f (sk T n a1) w (x + ((acc).length : Int)) hc (wrL C x (acc)) (-124) hf3 (by (try simp only [List.length_append, List.length_singleton, Int.natCast_add, Int.natCast_one]); omega)) (is := [0, 3]) rfl (run_V X lkX2_56 0 rfl rfl (is := [0, 3]) (avs := [iv (-124)]) (rest := []) rfl rfl (nle rfl) ⟨by simp only [rmD]; omega, by simp only [rmD]; omega⟩ ⟨nle rfl, nle rfl⟩ dX2_moreUnits_76 (by decide) rfl) (fun z_37 u_35 hp_36 => ?_)
            obtain ⟨hz_38, hu_39⟩ := hp_36
            subst hz_38
            subst hu_39
            refine ⟨rfl, ?_⟩
            refine S_w (ws' := [(h0, ob 2 (uF (uF (uF f 1 (iv (sk T n a1))) 2 (iv w)) 4 (iv ((x + ((acc).length : Int)) + 1)))), (ht, ob 6 ft), (hb, ar 160 T), (hc, ar 160 (uZ (wrL C x (acc)) (x + ((acc).length : Int)) (-124)))]) rfl ?_
            refine S_w (ws' := [(h0, ob 2 (uF (uF (uF f 1 (iv (sk T n a1))) 2 (iv w)) 4 (iv (x + ((acc ++ [-124]).length : Int))))), (ht, ob 6 ft), (hb, ar 160 T), (hc, ar 160 (wrL C x (acc ++ [-124])))]) (by simp only [wrL_app, wrL, List.length_append, List.length_singleton, Int.natCast_add, Int.natCast_one, Int.add_assoc, List.append_assoc]) ?_
            refine S_pop X dX2_moreUnits_79 ?_
            refine S_iload X dX2_moreUnits_80 rfl ?_
            refine S_if_ne (tgt := 89) X dX2_moreUnits_82 (by decide) (by decide) (fun _ => ?_) (fun h9 => absurd h9 (by decide))
            refine S_iconst X dX2_moreUnits_89 ?_
            refine S_goto (tgt := 94) X dX2_moreUnits_90 (by decide) ?_
            refine S_istore_n X dX2_moreUnits_94 rfl (nle rfl) ?_
            have hlt1 : sk T n a1 < n := ch_lt (T := T) (by omega)
            refine S_aload_n X dX2_moreUnits_95 rfl hL4_0 ?_
            refine S_dup X dX2_moreUnits_96 ?_
            refine S_get (v := iv (sk T n a1)) X fgX2_68_2 0 rfl rfl dX2_moreUnits_97 ?_
            refine S_iconst X dX2_moreUnits_100 ?_
            refine S_iadd X dX2_moreUnits_101 ?_
            refine S_put X fpX2_68_2 0 rfl FT_i dX2_moreUnits_102 ?_
            refine S_w (ws' := [(h0, ob 2 (uF (uF (uF f 1 (iv ((sk T n a1) + 1))) 2 (iv w)) 4 (iv (x + ((acc ++ [-124]).length : Int))))), (ht, ob 6 ft), (hb, ar 160 T), (hc, ar 160 (wrL C x (acc ++ [-124])))]) (by simp only [List.set]; rw [uF_mv (j := 4) (k := 1) (by decide), uF_mv (j := 2) (k := 1) (by decide), uF_same (k := 1)]) ?_
            refine S_aload_n X dX2_moreUnits_105 rfl hL4_0 ?_
            refine S_iload_n X dX2_moreUnits_106 rfl hL4_1 ?_
            refine S_calli X (hun h0 ht hb f ft T n ((sk T n a1) + 1) w (x + ((acc ++ [-124]).length : Int)) hc (wrL C x (acc ++ [-124])) wi hf0 hf1 hf2 hf3 (by omega) (by omega) (by (try simp only [List.length_append, List.length_singleton, Int.natCast_add, Int.natCast_one]); omega) (by omega) (by omega)) (is := [0, 1, 2, 3]) rfl (run_V X lkX2_65 0 rfl rfl (is := [0, 1, 2, 3]) (avs := [iv wi]) (rest := []) rfl rfl (nle rfl) ⟨by simp only [rmD]; omega, by simp only [rmD]; omega⟩ ⟨nle rfl, nle rfl⟩ dX2_moreUnits_107 (by decide) rfl) (fun z_43 u_41 hp_42 => ?_)
            rcases hp_42 with ⟨a2_44, fl_45, x2_46, C2_47, hz_48, hu_49, hq_50⟩ | ⟨a2_51, ts_52, hz_53, hu_54, hq_55⟩
            ·
              subst hz_48
              subst hu_49
              refine ⟨rfl, ?_⟩
              refine S_w (ws' := [(h0, ob 2 (uF (uF (uF f 1 (iv a2_44)) 2 (iv fl_45)) 4 (iv x2_46))), (ht, ob 6 ft), (hb, ar 160 T), (hc, ar 160 C2_47)]) rfl ?_
              refine S_if_ne (tgt := 115) X dX2_moreUnits_110 (by decide) (by decide) (fun h9 => absurd h9 (by decide)) (fun _ => ?_)
              refine S_iconst X dX2_moreUnits_113 ?_
              exact S_zret X (Or.inl rfl) (nle rfl) (nle rfl) dX2_moreUnits_114 (hPo _ _ (Or.inl ⟨_, _, _, _, rfl, rfl, hk (.inl _) (by rw [fuel161 (by omega) (by omega)]; exact moreL_of (by omega) hq_50)⟩))
            ·
              subst hz_53
              subst hu_54
              refine ⟨rfl, ?_⟩
              refine S_w (ws' := [(h0, ob 2 (uF (uF (uF f 1 (iv a2_51)) 2 (iv w)) 4 (iv ((x + ((acc ++ [-124]).length : Int)) + (ts_52.length : Int))))), (ht, ob 6 ft), (hb, ar 160 T), (hc, ar 160 (wrL (wrL C x (acc ++ [-124])) (x + ((acc ++ [-124]).length : Int)) ts_52))]) rfl ?_
              refine S_w (ws' := [(h0, ob 2 (uF (uF (uF f 1 (iv a2_51)) 2 (iv w)) 4 (iv (x + ((acc ++ [-124] ++ ts_52).length : Int))))), (ht, ob 6 ft), (hb, ar 160 T), (hc, ar 160 (wrL C x (acc ++ [-124] ++ ts_52)))]) (by simp only [wrL_app, wrL, List.length_append, List.length_singleton, Int.natCast_add, Int.natCast_one, Int.add_assoc, List.append_assoc]) ?_
              have ho_56 := (pUnit_ok (T := T) hn1 K (sk T n a1 + 1) (by omega) (by omega)).2 _ hq_55
              dsimp only at ho_56
              refine S_if_ne (tgt := 115) X dX2_moreUnits_110 (by decide) (by decide) (fun _ => ?_) (fun h9 => absurd h9 (by decide))
              refine S_iload X dX2_moreUnits_115 rfl ?_
              refine S_if_ne (tgt := 127) X dX2_moreUnits_117 (by decide) (by decide) (fun _ => ?_) (fun h9 => absurd h9 (by decide))
              refine S_iinc X dX2_moreUnits_127 (nle rfl) hL4_3 ?_
              refine S_goto (tgt := 4) X dX2_moreUnits_130 (by decide) ?_
              exact ih4 (i + 1) a2_51 1 true (acc ++ [-124] ++ ts_52) _ (by omega) (Or.inr ⟨rfl, rfl, by simp only [List.length_append, List.length_singleton, Int.natCast_add, Int.natCast_one]; omega⟩) (fun z9 h9 => hk z9 (by rw [fuel161 (by omega) (by omega), moreL_o (by omega) hq_55]; simp only [hw_c_15, Bool.false_eq_true, if_true, if_false]; exact h9)) hL4_0 hL4_1 rfl rfl (by omega)
        ·
          refine S_iload X dX2_moreUnits_24 rfl ?_
          refine S_bipush X dX2_moreUnits_26 rfl ?_
          refine S_icmp_eq (tgt := 50) X dX2_moreUnits_28 (by decide) (by omega) (by decide) (fun c_59 => ?_) (fun c_59 => ?_)
          ·
            refine S_iload X dX2_moreUnits_50 rfl ?_
            refine S_bipush X dX2_moreUnits_52 rfl ?_
            refine S_icmp_ne (tgt := 61) X dX2_moreUnits_54 (by decide) (by omega) (by decide) (fun c_60 => ?_) (fun c_60 => by exfalso; omega)
            refine S_iconst X dX2_moreUnits_61 ?_
            refine S_istore X dX2_moreUnits_62 (nle rfl) ?_
            refine S_iload X dX2_moreUnits_64 rfl ?_
            refine S_if_eq (tgt := 80) X dX2_moreUnits_66 (by decide) (by decide) (fun _ => ?_) (fun h9 => absurd h9 (by decide))
            refine S_iload X dX2_moreUnits_80 rfl ?_
            refine S_if_ne (tgt := 89) X dX2_moreUnits_82 (by decide) (by decide) (fun h9 => absurd h9 (by decide)) (fun _ => ?_)
            refine S_iload_n X dX2_moreUnits_85 rfl hL4_2 ?_
            refine S_if_eq (tgt := 93) X dX2_moreUnits_86 (by decide) (by omega) (fun c_63 => ?_) (fun c_63 => ?_)
            ·
              have hw_c_63 : wb = false := hbd.elim (fun q9 => q9.2.1) (fun q9 => absurd q9.1 (by omega))
              refine S_iconst X dX2_moreUnits_93 ?_
              refine S_istore_n X dX2_moreUnits_94 rfl (nle rfl) ?_
              have hlt1 : sk T n a1 < n := ch_lt (T := T) (by omega)
              refine S_aload_n X dX2_moreUnits_95 rfl hL4_0 ?_
              refine S_dup X dX2_moreUnits_96 ?_
              refine S_get (v := iv (sk T n a1)) X fgX2_68_2 0 rfl rfl dX2_moreUnits_97 ?_
              refine S_iconst X dX2_moreUnits_100 ?_
              refine S_iadd X dX2_moreUnits_101 ?_
              refine S_put X fpX2_68_2 0 rfl FT_i dX2_moreUnits_102 ?_
              refine S_w (ws' := [(h0, ob 2 (uF (uF (uF f 1 (iv ((sk T n a1) + 1))) 2 (iv w)) 4 (iv (x + ((acc).length : Int))))), (ht, ob 6 ft), (hb, ar 160 T), (hc, ar 160 (wrL C x (acc)))]) (by simp only [List.set]; rw [uF_mv (j := 4) (k := 1) (by decide), uF_mv (j := 2) (k := 1) (by decide), uF_same (k := 1)]) ?_
              refine S_aload_n X dX2_moreUnits_105 rfl hL4_0 ?_
              refine S_iload_n X dX2_moreUnits_106 rfl hL4_1 ?_
              refine S_calli X (hun h0 ht hb f ft T n ((sk T n a1) + 1) w (x + ((acc).length : Int)) hc (wrL C x (acc)) wi hf0 hf1 hf2 hf3 (by omega) (by omega) (by (try simp only [List.length_append, List.length_singleton, Int.natCast_add, Int.natCast_one]); omega) (by omega) (by omega)) (is := [0, 1, 2, 3]) rfl (run_V X lkX2_65 0 rfl rfl (is := [0, 1, 2, 3]) (avs := [iv wi]) (rest := []) rfl rfl (nle rfl) ⟨by simp only [rmD]; omega, by simp only [rmD]; omega⟩ ⟨nle rfl, nle rfl⟩ dX2_moreUnits_107 (by decide) rfl) (fun z_66 u_64 hp_65 => ?_)
              rcases hp_65 with ⟨a2_67, fl_68, x2_69, C2_70, hz_71, hu_72, hq_73⟩ | ⟨a2_74, ts_75, hz_76, hu_77, hq_78⟩
              ·
                subst hz_71
                subst hu_72
                refine ⟨rfl, ?_⟩
                refine S_w (ws' := [(h0, ob 2 (uF (uF (uF f 1 (iv a2_67)) 2 (iv fl_68)) 4 (iv x2_69))), (ht, ob 6 ft), (hb, ar 160 T), (hc, ar 160 C2_70)]) rfl ?_
                refine S_if_ne (tgt := 115) X dX2_moreUnits_110 (by decide) (by decide) (fun h9 => absurd h9 (by decide)) (fun _ => ?_)
                refine S_iconst X dX2_moreUnits_113 ?_
                exact S_zret X (Or.inl rfl) (nle rfl) (nle rfl) dX2_moreUnits_114 (hPo _ _ (Or.inl ⟨_, _, _, _, rfl, rfl, hk (.inl _) (by rw [fuel161 (by omega) (by omega)]; exact moreL_af (by omega) hq_73)⟩))
              ·
                subst hz_76
                subst hu_77
                refine ⟨rfl, ?_⟩
                refine S_w (ws' := [(h0, ob 2 (uF (uF (uF f 1 (iv a2_74)) 2 (iv w)) 4 (iv ((x + ((acc).length : Int)) + (ts_75.length : Int))))), (ht, ob 6 ft), (hb, ar 160 T), (hc, ar 160 (wrL (wrL C x (acc)) (x + ((acc).length : Int)) ts_75))]) rfl ?_
                refine S_w (ws' := [(h0, ob 2 (uF (uF (uF f 1 (iv a2_74)) 2 (iv w)) 4 (iv (x + ((acc ++ ts_75).length : Int))))), (ht, ob 6 ft), (hb, ar 160 T), (hc, ar 160 (wrL C x (acc ++ ts_75)))]) (by simp only [wrL_app, wrL, List.length_append, List.length_singleton, Int.natCast_add, Int.natCast_one, Int.add_assoc, List.append_assoc]) ?_
                have ho_79 := (pUnit_ok (T := T) hn1 K (sk T n a1 + 1) (by omega) (by omega)).2 _ hq_78
                dsimp only at ho_79
                refine S_if_ne (tgt := 115) X dX2_moreUnits_110 (by decide) (by decide) (fun _ => ?_) (fun h9 => absurd h9 (by decide))
                refine S_iload X dX2_moreUnits_115 rfl ?_
                refine S_if_ne (tgt := 127) X dX2_moreUnits_117 (by decide) (by decide) (fun h9 => absurd h9 (by decide)) (fun _ => ?_)
                refine S_aload_n X dX2_moreUnits_120 rfl hL4_0 ?_
                refine S_bipush X dX2_moreUnits_121 rfl ?_
                refine S_calli X (kX2_emit l h0 f a2_74 w (x + ((acc ++ ts_75).length : Int)) hc (wrL C x (acc ++ ts_75)) (-38) hf3 (by (try simp only [List.length_append, List.length_singleton, Int.natCast_add, Int.natCast_one]); omega)) (is := [0, 3]) rfl (run_V X lkX2_56 0 rfl rfl (is := [0, 3]) (avs := [iv (-38)]) (rest := []) rfl rfl (nle rfl) ⟨by simp only [rmD]; omega, by simp only [rmD]; omega⟩ ⟨nle rfl, nle rfl⟩ dX2_moreUnits_123 (by decide) rfl) (fun z_84 u_82 hp_83 => ?_)
                obtain ⟨hz_85, hu_86⟩ := hp_83
                subst hz_85
                subst hu_86
                refine ⟨rfl, ?_⟩
                refine S_w (ws' := [(h0, ob 2 (uF (uF (uF f 1 (iv a2_74)) 2 (iv w)) 4 (iv ((x + ((acc ++ ts_75).length : Int)) + 1)))), (ht, ob 6 ft), (hb, ar 160 T), (hc, ar 160 (uZ (wrL C x (acc ++ ts_75)) (x + ((acc ++ ts_75).length : Int)) (-38)))]) rfl ?_
                refine S_w (ws' := [(h0, ob 2 (uF (uF (uF f 1 (iv a2_74)) 2 (iv w)) 4 (iv (x + ((acc ++ ts_75 ++ [-38]).length : Int))))), (ht, ob 6 ft), (hb, ar 160 T), (hc, ar 160 (wrL C x (acc ++ ts_75 ++ [-38])))]) (by simp only [wrL_app, wrL, List.length_append, List.length_singleton, Int.natCast_add, Int.natCast_one, Int.add_assoc, List.append_assoc]) ?_
                refine S_pop X dX2_moreUnits_126 ?_
                refine S_iinc X dX2_moreUnits_127 (nle rfl) hL4_3 ?_
                refine S_goto (tgt := 4) X dX2_moreUnits_130 (by decide) ?_
                exact ih4 (i + 1) a2_74 0 false (acc ++ ts_75 ++ [-38]) _ (by omega) (Or.inl ⟨rfl, rfl, by simp only [List.length_append, List.length_singleton, Int.natCast_add, Int.natCast_one]; omega⟩) (fun z9 h9 => hk z9 (by rw [fuel161 (by omega) (by omega), moreL_a (by omega) hq_78]; rw [hw_c_63]; exact h9)) hL4_0 hL4_1 rfl rfl (by omega)
            ·
              have hw_c_63 : wb = true := hbd.elim (fun q9 => absurd q9.1 c_63) (fun q9 => q9.2.1)
              have hw1 : w1 = 1 := by omega
              refine S_iconst X dX2_moreUnits_89 ?_
              refine S_goto (tgt := 94) X dX2_moreUnits_90 (by decide) ?_
              refine S_istore_n X dX2_moreUnits_94 rfl (nle rfl) ?_
              have hlt1 : sk T n a1 < n := ch_lt (T := T) (by omega)
              refine S_aload_n X dX2_moreUnits_95 rfl hL4_0 ?_
              refine S_dup X dX2_moreUnits_96 ?_
              refine S_get (v := iv (sk T n a1)) X fgX2_68_2 0 rfl rfl dX2_moreUnits_97 ?_
              refine S_iconst X dX2_moreUnits_100 ?_
              refine S_iadd X dX2_moreUnits_101 ?_
              refine S_put X fpX2_68_2 0 rfl FT_i dX2_moreUnits_102 ?_
              refine S_w (ws' := [(h0, ob 2 (uF (uF (uF f 1 (iv ((sk T n a1) + 1))) 2 (iv w)) 4 (iv (x + ((acc).length : Int))))), (ht, ob 6 ft), (hb, ar 160 T), (hc, ar 160 (wrL C x (acc)))]) (by simp only [List.set]; rw [uF_mv (j := 4) (k := 1) (by decide), uF_mv (j := 2) (k := 1) (by decide), uF_same (k := 1)]) ?_
              refine S_aload_n X dX2_moreUnits_105 rfl hL4_0 ?_
              refine S_iload_n X dX2_moreUnits_106 rfl hL4_1 ?_
              refine S_calli X (hun h0 ht hb f ft T n ((sk T n a1) + 1) w (x + ((acc).length : Int)) hc (wrL C x (acc)) wi hf0 hf1 hf2 hf3 (by omega) (by omega) (by (try simp only [List.length_append, List.length_singleton, Int.natCast_add, Int.natCast_one]); omega) (by omega) (by omega)) (is := [0, 1, 2, 3]) rfl (run_V X lkX2_65 0 rfl rfl (is := [0, 1, 2, 3]) (avs := [iv wi]) (rest := []) rfl rfl (nle rfl) ⟨by simp only [rmD]; omega, by simp only [rmD]; omega⟩ ⟨nle rfl, nle rfl⟩ dX2_moreUnits_107 (by decide) rfl) (fun z_89 u_87 hp_88 => ?_)
              rcases hp_88 with ⟨a2_90, fl_91, x2_92, C2_93, hz_94, hu_95, hq_96⟩ | ⟨a2_97, ts_98, hz_99, hu_100, hq_101⟩
              ·
                subst hz_94
                subst hu_95
                refine ⟨rfl, ?_⟩
                refine S_w (ws' := [(h0, ob 2 (uF (uF (uF f 1 (iv a2_90)) 2 (iv fl_91)) 4 (iv x2_92))), (ht, ob 6 ft), (hb, ar 160 T), (hc, ar 160 C2_93)]) rfl ?_
                refine S_if_ne (tgt := 115) X dX2_moreUnits_110 (by decide) (by decide) (fun h9 => absurd h9 (by decide)) (fun _ => ?_)
                refine S_iconst X dX2_moreUnits_113 ?_
                exact S_zret X (Or.inl rfl) (nle rfl) (nle rfl) dX2_moreUnits_114 (hPo _ _ (Or.inl ⟨_, _, _, _, rfl, rfl, hk (.inl _) (by rw [fuel161 (by omega) (by omega)]; exact moreL_af (by omega) hq_96)⟩))
              ·
                subst hz_99
                subst hu_100
                refine ⟨rfl, ?_⟩
                refine S_w (ws' := [(h0, ob 2 (uF (uF (uF f 1 (iv a2_97)) 2 (iv w)) 4 (iv ((x + ((acc).length : Int)) + (ts_98.length : Int))))), (ht, ob 6 ft), (hb, ar 160 T), (hc, ar 160 (wrL (wrL C x (acc)) (x + ((acc).length : Int)) ts_98))]) rfl ?_
                refine S_w (ws' := [(h0, ob 2 (uF (uF (uF f 1 (iv a2_97)) 2 (iv w)) 4 (iv (x + ((acc ++ ts_98).length : Int))))), (ht, ob 6 ft), (hb, ar 160 T), (hc, ar 160 (wrL C x (acc ++ ts_98)))]) (by simp only [wrL_app, wrL, List.length_append, List.length_singleton, Int.natCast_add, Int.natCast_one, Int.add_assoc, List.append_assoc]) ?_
                have ho_102 := (pUnit_ok (T := T) hn1 K (sk T n a1 + 1) (by omega) (by omega)).2 _ hq_101
                dsimp only at ho_102
                refine S_if_ne (tgt := 115) X dX2_moreUnits_110 (by decide) (by decide) (fun _ => ?_) (fun h9 => absurd h9 (by decide))
                refine S_iload X dX2_moreUnits_115 rfl ?_
                refine S_if_ne (tgt := 127) X dX2_moreUnits_117 (by decide) (by decide) (fun h9 => absurd h9 (by decide)) (fun _ => ?_)
                refine S_aload_n X dX2_moreUnits_120 rfl hL4_0 ?_
                refine S_bipush X dX2_moreUnits_121 rfl ?_
                refine S_calli X (kX2_emit l h0 f a2_97 w (x + ((acc ++ ts_98).length : Int)) hc (wrL C x (acc ++ ts_98)) (-38) hf3 (by (try simp only [List.length_append, List.length_singleton, Int.natCast_add, Int.natCast_one]); omega)) (is := [0, 3]) rfl (run_V X lkX2_56 0 rfl rfl (is := [0, 3]) (avs := [iv (-38)]) (rest := []) rfl rfl (nle rfl) ⟨by simp only [rmD]; omega, by simp only [rmD]; omega⟩ ⟨nle rfl, nle rfl⟩ dX2_moreUnits_123 (by decide) rfl) (fun z_107 u_105 hp_106 => ?_)
                obtain ⟨hz_108, hu_109⟩ := hp_106
                subst hz_108
                subst hu_109
                refine ⟨rfl, ?_⟩
                refine S_w (ws' := [(h0, ob 2 (uF (uF (uF f 1 (iv a2_97)) 2 (iv w)) 4 (iv ((x + ((acc ++ ts_98).length : Int)) + 1)))), (ht, ob 6 ft), (hb, ar 160 T), (hc, ar 160 (uZ (wrL C x (acc ++ ts_98)) (x + ((acc ++ ts_98).length : Int)) (-38)))]) rfl ?_
                refine S_w (ws' := [(h0, ob 2 (uF (uF (uF f 1 (iv a2_97)) 2 (iv w)) 4 (iv (x + ((acc ++ ts_98 ++ [-38]).length : Int))))), (ht, ob 6 ft), (hb, ar 160 T), (hc, ar 160 (wrL C x (acc ++ ts_98 ++ [-38])))]) (by simp only [wrL_app, wrL, List.length_append, List.length_singleton, Int.natCast_add, Int.natCast_one, Int.add_assoc, List.append_assoc]) ?_
                refine S_pop X dX2_moreUnits_126 ?_
                refine S_iinc X dX2_moreUnits_127 (nle rfl) hL4_3 ?_
                refine S_goto (tgt := 4) X dX2_moreUnits_130 (by decide) ?_
                exact ih4 (i + 1) a2_97 1 true (acc ++ ts_98 ++ [-38]) _ (by omega) (Or.inr ⟨rfl, rfl, by simp only [List.length_append, List.length_singleton, Int.natCast_add, Int.natCast_one]; omega⟩) (fun z9 h9 => hk z9 (by rw [fuel161 (by omega) (by omega), moreL_a (by omega) hq_101]; rw [hw_c_63]; exact h9)) hL4_0 hL4_1 rfl rfl (by omega)
          ·
            refine S_iload_n X dX2_moreUnits_31 rfl hL4_2 ?_
            refine S_if_eq (tgt := 44) X dX2_moreUnits_32 (by decide) (by omega) (fun c_110 => ?_) (fun c_110 => ?_)
            ·
              have hw_c_110 : wb = false := hbd.elim (fun q9 => q9.2.1) (fun q9 => absurd q9.1 (by omega))
              refine S_iconst X dX2_moreUnits_44 ?_
              refine S_goto (tgt := 49) X dX2_moreUnits_45 (by decide) ?_
              exact S_zret X (Or.inr rfl) (nle rfl) (nle rfl) dX2_moreUnits_49 (hPo _ _ (Or.inr ⟨_, acc, rfl, rfl, hk (.inr (sk T n a1, acc)) (by rw [fuel161 (by omega) (by omega), moreL_e (by omega) (by omega)]; simp [hw_c_110])⟩))
            ·
              have hw_c_110 : wb = true := hbd.elim (fun q9 => absurd q9.1 c_110) (fun q9 => q9.2.1)
              have hw1 : w1 = 1 := by omega
              refine S_aload_n X dX2_moreUnits_35 rfl hL4_0 ?_
              refine S_bipush X dX2_moreUnits_36 rfl ?_
              refine S_calli X (kX2_emit l h0 f (sk T n a1) w (x + ((acc).length : Int)) hc (wrL C x (acc)) (-124) hf3 (by (try simp only [List.length_append, List.length_singleton, Int.natCast_add, Int.natCast_one]); omega)) (is := [0, 3]) rfl (run_V X lkX2_56 0 rfl rfl (is := [0, 3]) (avs := [iv (-124)]) (rest := []) rfl rfl (nle rfl) ⟨by simp only [rmD]; omega, by simp only [rmD]; omega⟩ ⟨nle rfl, nle rfl⟩ dX2_moreUnits_38 (by decide) rfl) (fun z_113 u_111 hp_112 => ?_)
              obtain ⟨hz_114, hu_115⟩ := hp_112
              subst hz_114
              subst hu_115
              refine ⟨rfl, ?_⟩
              refine S_w (ws' := [(h0, ob 2 (uF (uF (uF f 1 (iv (sk T n a1))) 2 (iv w)) 4 (iv ((x + ((acc).length : Int)) + 1)))), (ht, ob 6 ft), (hb, ar 160 T), (hc, ar 160 (uZ (wrL C x (acc)) (x + ((acc).length : Int)) (-124)))]) rfl ?_
              refine S_w (ws' := [(h0, ob 2 (uF (uF (uF f 1 (iv (sk T n a1))) 2 (iv w)) 4 (iv (x + ((acc ++ [-124]).length : Int))))), (ht, ob 6 ft), (hb, ar 160 T), (hc, ar 160 (wrL C x (acc ++ [-124])))]) (by simp only [wrL_app, wrL, List.length_append, List.length_singleton, Int.natCast_add, Int.natCast_one, Int.add_assoc, List.append_assoc]) ?_
              refine S_if_eq (tgt := 48) X dX2_moreUnits_41 (by decide) (by decide) (fun h9 => absurd h9 (by decide)) (fun _ => ?_)
              refine S_iconst X dX2_moreUnits_44 ?_
              refine S_goto (tgt := 49) X dX2_moreUnits_45 (by decide) ?_
              exact S_zret X (Or.inr rfl) (nle rfl) (nle rfl) dX2_moreUnits_49 (hPo _ _ (Or.inr ⟨_, acc ++ [-124], rfl, rfl, hk (.inr (sk T n a1, acc ++ [-124])) (by rw [fuel161 (by omega) (by omega), moreL_e (by omega) (by omega)]; simp [hw_c_110])⟩))
  exact lp4_0 (Int.toNat (162 - 0) + 1) 0 a 0 false tl _ (by omega) (Or.inl ⟨rfl, rfl, by omega⟩) (fun z9 h9 => h9) rfl rfl rfl rfl (by omega)
set_option maxHeartbeats 4000000 in
set_option maxRecDepth 100000 in
theorem kX2_condition (l : Launch) (K : Nat) (d : Nat) (hd : 5 ≤ d) (d1 : Nat) (hd1 : d1 ≤ d) (hun : C_X2_unit l K d1) (d2 : Nat) (hd2 : d2 ≤ d) (hmo : C_X2_moreUnits l K d2) : C_X2_condition l K (d + 1) := by
  intro h0 ht hb f ft T n a w x hc C wi hf0 hf1 hf2 hf3 hT ha hx hw h6
  refine AMi.of2 rfl (nle rfl) ?_
  intro D G A p e s m args below meth c Po hPo X
  obtain ⟨hn0, hn1, hT2⟩ := id hT
  have hsk := sk_in (T := T) ha.2
  have hch := ch_in (a := sk T n a) hT (by omega)
  refine S_aload_n X dX2_condition_0 rfl rfl ?_
  refine S_iload_n X dX2_condition_1 rfl rfl ?_
  refine S_calli X (hun h0 ht hb f ft T n a w x hc C wi hf0 hf1 hf2 hf3 (by omega) (by omega) (by (try simp only [List.length_append, List.length_singleton, Int.natCast_add, Int.natCast_one]); omega) (by omega) (by omega)) (is := [0, 1, 2, 3]) rfl (run_V X lkX2_65 0 rfl rfl (is := [0, 1, 2, 3]) (avs := [iv wi]) (rest := []) rfl rfl (nle rfl) ⟨by simp only [rmD]; omega, by simp only [rmD]; omega⟩ ⟨nle rfl, nle rfl⟩ dX2_condition_2 (by decide) rfl) (fun z_3 u_1 hp_2 => ?_)
  rcases hp_2 with ⟨a2_4, fl_5, x2_6, C2_7, hz_8, hu_9, hq_10⟩ | ⟨a2_11, ts_12, hz_13, hu_14, hq_15⟩
  ·
    subst hz_8
    subst hu_9
    refine ⟨rfl, ?_⟩
    refine S_w (ws' := [(h0, ob 2 (uF (uF (uF f 1 (iv a2_4)) 2 (iv fl_5)) 4 (iv x2_6))), (ht, ob 6 ft), (hb, ar 160 T), (hc, ar 160 C2_7)]) rfl ?_
    refine S_if_eq (tgt := 20) X dX2_condition_5 (by decide) (by decide) (fun _ => ?_) (fun h9 => absurd h9 (by decide))
    refine S_iconst X dX2_condition_20 ?_
    exact S_zret X (Or.inl rfl) (nle rfl) (nle rfl) dX2_condition_21 (hPo _ _ (Or.inl ⟨_, _, _, _, rfl, rfl, pCond_f hq_10⟩))
  ·
    subst hz_13
    subst hu_14
    refine ⟨rfl, ?_⟩
    refine S_w (ws' := [(h0, ob 2 (uF (uF (uF f 1 (iv a2_11)) 2 (iv w)) 4 (iv (x + (ts_12.length : Int))))), (ht, ob 6 ft), (hb, ar 160 T), (hc, ar 160 (wrL C x ts_12))]) rfl ?_
    refine S_w (ws' := [(h0, ob 2 (uF (uF (uF f 1 (iv a2_11)) 2 (iv w)) 4 (iv (x + ((ts_12).length : Int))))), (ht, ob 6 ft), (hb, ar 160 T), (hc, ar 160 (wrL C x (ts_12)))]) (by simp only [wrL_app, wrL, List.length_append, List.length_singleton, Int.natCast_add, Int.natCast_one, Int.add_assoc, List.append_assoc]) ?_
    have ho_16 := (pUnit_ok (T := T) hn1 K (a) (by omega) (by omega)).2 _ hq_15
    dsimp only at ho_16
    refine S_if_eq (tgt := 20) X dX2_condition_5 (by decide) (by decide) (fun h9 => absurd h9 (by decide)) (fun _ => ?_)
    refine S_aload_n X dX2_condition_8 rfl rfl ?_
    refine S_iload_n X dX2_condition_9 rfl rfl ?_
    refine S_calli X (hmo h0 ht hb f ft T n a2_11 w x hc C wi ts_12 hf0 hf1 hf2 hf3 (by omega) (by omega) (by (try simp only [List.length_append, List.length_singleton, Int.natCast_add, Int.natCast_one]); omega) (by omega) (by omega)) (is := [0, 1, 2, 3]) rfl (run_V X lkX2_62 0 rfl rfl (is := [0, 1, 2, 3]) (avs := [iv wi]) (rest := []) rfl rfl (nle rfl) ⟨by simp only [rmD]; omega, by simp only [rmD]; omega⟩ ⟨nle rfl, nle rfl⟩ dX2_condition_10 (by decide) rfl) (fun z_20 u_18 hp_19 => ?_)
    rcases hp_19 with ⟨a2_21, fl_22, x2_23, C2_24, hz_25, hu_26, hq_27⟩ | ⟨a2_28, ts_29, hz_30, hu_31, hq_32⟩
    ·
      subst hz_25
      subst hu_26
      refine ⟨rfl, ?_⟩
      refine S_w (ws' := [(h0, ob 2 (uF (uF (uF f 1 (iv a2_21)) 2 (iv fl_22)) 4 (iv x2_23))), (ht, ob 6 ft), (hb, ar 160 T), (hc, ar 160 C2_24)]) rfl ?_
      refine S_if_eq (tgt := 20) X dX2_condition_13 (by decide) (by decide) (fun _ => ?_) (fun h9 => absurd h9 (by decide))
      refine S_iconst X dX2_condition_20 ?_
      exact S_zret X (Or.inl rfl) (nle rfl) (nle rfl) dX2_condition_21 (hPo _ _ (Or.inl ⟨_, _, _, _, rfl, rfl, (pCond_r hq_15).trans hq_27⟩))
    ·
      subst hz_30
      subst hu_31
      refine ⟨rfl, ?_⟩
      refine S_w (ws' := [(h0, ob 2 (uF (uF (uF f 1 (iv a2_28)) 2 (iv w)) 4 (iv (x + ((ts_29).length : Int))))), (ht, ob 6 ft), (hb, ar 160 T), (hc, ar 160 (wrL C x (ts_29)))]) rfl ?_
      refine S_if_eq (tgt := 20) X dX2_condition_13 (by decide) (by decide) (fun h9 => absurd h9 (by decide)) (fun _ => ?_)
      refine S_iconst X dX2_condition_16 ?_
      refine S_goto (tgt := 21) X dX2_condition_17 (by decide) ?_
      exact S_zret X (Or.inr rfl) (nle rfl) (nle rfl) dX2_condition_21 (hPo _ _ (Or.inr ⟨_, ts_29, rfl, rfl, (pCond_r hq_15).trans hq_32⟩))
set_option maxHeartbeats 4000000 in
set_option maxRecDepth 100000 in
theorem kX2_unit (l : Launch) (K : Nat) (d : Nat) (hd : 5 ≤ d) (d1 : Nat) (hd1 : d1 ≤ d) (hsu : C_X2_sum l K d1) (d2 : Nat) (hd2 : d2 ≤ d) (hcm : C_X2_comparison l K d2) (d3 : Nat) (hd3 : d3 ≤ d) (hne : ∀ K2 : Nat, K = K2 + 1 → C_X2_negated l K2 d3) (d4 : Nat) (hd4 : d4 ≤ d) (hco : ∀ K2 : Nat, K = K2 + 1 → C_X2_condition l K2 d4) : C_X2_unit l K (d + 1) := by
  intro h0 ht hb f ft T n a w x hc C wi hf0 hf1 hf2 hf3 hT ha hx hw h6
  refine AMi.of2 rfl (nle rfl) ?_
  intro D G A p e s m args below meth c Po hPo X
  obtain ⟨hn0, hn1, hT2⟩ := id hT
  have hsk := sk_in (T := T) ha.2
  have hch := ch_in (a := sk T n a) hT (by omega)
  refine S_aload_n X dX2_unit_0 rfl rfl ?_
  refine S_calli X (kX5_peek_2 l h0 ht hb f ft T n a w x hf0 hf1 hf2 (by omega) (by omega)) (is := [0, 1, 2]) rfl (run_U X lkX2_40_2 0 rfl rfl (is := [0, 1, 2]) (avs := []) (rest := []) rfl rfl (nle rfl) ⟨by simp only [rmD]; omega, by simp only [rmD]; omega⟩ ⟨nle rfl, nle rfl⟩ dX2_unit_1 (by decide) rfl) (fun z_3 u_1 hp_2 => ?_)
  obtain ⟨hz_4, hu_5⟩ := hp_2
  subst hz_4
  subst hu_5
  refine ⟨rfl, ?_⟩
  refine S_w (ws' := [(h0, ob 2 (uF (uF (uF f 1 (iv (sk T n a))) 2 (iv w)) 4 (iv x))), (ht, ob 6 ft), (hb, ar 160 T), (hc, ar 160 C)]) rfl ?_
  refine S_istore_n X dX2_unit_4 rfl (nle rfl) ?_
  refine S_iload_n X dX2_unit_5 rfl rfl ?_
  refine S_bipush X dX2_unit_6 rfl ?_
  refine S_icmp_eq (tgt := 39) X dX2_unit_8 (by decide) (by omega) (by decide) (fun c_6 => ?_) (fun c_6 => ?_)
  ·
    refine S_iload_n X dX2_unit_39 rfl rfl ?_
    refine S_bipush X dX2_unit_40 rfl ?_
    refine S_icmp_lt (tgt := 50) X dX2_unit_42 (by decide) (by omega) (by decide) (fun c_7 => ?_) (fun c_7 => ?_)
    ·
      have hlt : sk T n a < n := ch_lt (T := T) (by omega)
      obtain ⟨K2, hK2⟩ : ∃ K2 : Nat, K = K2 + 1 := ⟨K - 1, by omega⟩
      refine S_aload_n X dX2_unit_50 rfl rfl ?_
      refine S_dup X dX2_unit_51 ?_
      refine S_get (v := iv (sk T n a)) X fgX2_68_2 0 rfl rfl dX2_unit_52 ?_
      refine S_iconst X dX2_unit_55 ?_
      refine S_iadd X dX2_unit_56 ?_
      refine S_put X fpX2_68_2 0 rfl FT_i dX2_unit_57 ?_
      refine S_w (ws' := [(h0, ob 2 (uF (uF (uF f 1 (iv ((sk T n a) + 1))) 2 (iv w)) 4 (iv x))), (ht, ob 6 ft), (hb, ar 160 T), (hc, ar 160 C)]) (by simp only [List.set]; rw [uF_mv (j := 4) (k := 1) (by decide), uF_mv (j := 2) (k := 1) (by decide), uF_same (k := 1)]) ?_
      refine S_iload_n X dX2_unit_60 rfl rfl ?_
      refine S_bipush X dX2_unit_61 rfl ?_
      refine S_icmp_ne (tgt := 74) X dX2_unit_63 (by decide) (by omega) (by decide) (fun c_8 => ?_) (fun c_8 => ?_)
      ·
        refine S_aload_n X dX2_unit_74 rfl rfl ?_
        refine S_iload_n X dX2_unit_75 rfl rfl ?_
        refine S_iconst X dX2_unit_76 ?_
        refine S_iadd X dX2_unit_77 ?_
        refine S_calli X ((hco K2 hK2) h0 ht hb f ft T n ((sk T n a) + 1) w x hc C (wi + 1) hf0 hf1 hf2 hf3 (by omega) (by omega) (by (try simp only [List.length_append, List.length_singleton, Int.natCast_add, Int.natCast_one]); omega) (by omega) (by omega)) (is := [0, 1, 2, 3]) rfl (run_V X lkX2_44 0 rfl rfl (is := [0, 1, 2, 3]) (avs := [iv (wi + 1)]) (rest := []) rfl rfl (nle rfl) ⟨by simp only [rmD]; omega, by simp only [rmD]; omega⟩ ⟨nle rfl, nle rfl⟩ dX2_unit_78 (by decide) rfl) (fun z_11 u_9 hp_10 => ?_)
        rcases hp_10 with ⟨a2_12, fl_13, x2_14, C2_15, hz_16, hu_17, hq_18⟩ | ⟨a2_19, ts_20, hz_21, hu_22, hq_23⟩
        ·
          subst hz_16
          subst hu_17
          refine ⟨rfl, ?_⟩
          refine S_w (ws' := [(h0, ob 2 (uF (uF (uF f 1 (iv a2_12)) 2 (iv fl_13)) 4 (iv x2_14))), (ht, ob 6 ft), (hb, ar 160 T), (hc, ar 160 C2_15)]) rfl ?_
          refine S_if_eq (tgt := 104) X dX2_unit_81 (by decide) (by decide) (fun _ => ?_) (fun h9 => absurd h9 (by decide))
          refine S_iconst X dX2_unit_104 ?_
          exact S_zret X (Or.inl rfl) (nle rfl) (nle rfl) dX2_unit_105 (hPo _ _ (Or.inl ⟨_, _, _, _, rfl, rfl, by rw [hK2]; exact unit_pf (by omega) hq_18⟩))
        ·
          subst hz_21
          subst hu_22
          refine ⟨rfl, ?_⟩
          refine S_w (ws' := [(h0, ob 2 (uF (uF (uF f 1 (iv a2_19)) 2 (iv w)) 4 (iv (x + (ts_20.length : Int))))), (ht, ob 6 ft), (hb, ar 160 T), (hc, ar 160 (wrL C x ts_20))]) rfl ?_
          refine S_w (ws' := [(h0, ob 2 (uF (uF (uF f 1 (iv a2_19)) 2 (iv w)) 4 (iv (x + ((ts_20).length : Int))))), (ht, ob 6 ft), (hb, ar 160 T), (hc, ar 160 (wrL C x (ts_20)))]) (by simp only [wrL_app, wrL, List.length_append, List.length_singleton, Int.natCast_add, Int.natCast_one, Int.add_assoc, List.append_assoc]) ?_
          have ho_24 := (pCond_ok (T := T) hn1 K2 (sk T n a + 1) (by omega) (by omega)).2 _ hq_23
          dsimp only at ho_24
          refine S_if_eq (tgt := 104) X dX2_unit_81 (by decide) (by decide) (fun h9 => absurd h9 (by decide)) (fun _ => ?_)
          refine S_aload_n X dX2_unit_84 rfl rfl ?_
          refine S_bipush X dX2_unit_85 rfl ?_
          refine S_calli X (kX5_take_2 l h0 ht hb f ft T n a2_19 w (x + ((ts_20).length : Int)) 41 hf0 hf1 hf2 (by omega) (by omega) (by omega)) (is := [0, 1, 2]) rfl (run_U X lkX2_32_2 0 rfl rfl (is := [0, 1, 2]) (avs := [iv 41]) (rest := []) rfl rfl (nle rfl) ⟨by simp only [rmD]; omega, by simp only [rmD]; omega⟩ ⟨nle rfl, nle rfl⟩ dX2_unit_87 (by decide) rfl) (fun z_28 u_26 hp_27 => ?_)
          rcases hp_27 with ⟨hz_29, hu_30, hq_31⟩ | ⟨hz_32, hu_33, hq_34⟩
          ·
            subst hz_29
            subst hu_30
            refine ⟨rfl, ?_⟩
            refine S_w (ws' := [(h0, ob 2 (uF (uF (uF f 1 (iv (sk T n a2_19))) 2 (iv w)) 4 (iv (x + ((ts_20).length : Int))))), (ht, ob 6 ft), (hb, ar 160 T), (hc, ar 160 (wrL C x (ts_20)))]) rfl ?_
            refine S_if_ne (tgt := 100) X dX2_unit_90 (by decide) (by decide) (fun h9 => absurd h9 (by decide)) (fun _ => ?_)
            refine S_aload_n X dX2_unit_93 rfl rfl ?_
            refine S_calli X (kX5_fail_2 l h0 ht hb f ft T n (sk T n a2_19) w (x + ((ts_20).length : Int)) hf0 hf1 hf2) (is := [0, 1, 2]) rfl (run_U X lkX2_36_2 0 rfl rfl (is := [0, 1, 2]) (avs := []) (rest := []) rfl rfl (nle rfl) ⟨by simp only [rmD]; omega, by simp only [rmD]; omega⟩ ⟨nle rfl, nle rfl⟩ dX2_unit_94 (by decide) rfl) (fun z_38 u_36 hp_37 => ?_)
            obtain ⟨hz_39, hu_40⟩ := hp_37
            subst hz_39
            subst hu_40
            refine ⟨rfl, ?_⟩
            refine S_w (ws' := [(h0, ob 2 (uF (uF (uF f 1 (iv (sk T n a2_19))) 2 (iv (sk T n a2_19))) 4 (iv (x + ((ts_20).length : Int))))), (ht, ob 6 ft), (hb, ar 160 T), (hc, ar 160 (wrL C x (ts_20)))]) rfl ?_
            refine S_if_eq (tgt := 104) X dX2_unit_97 (by decide) (by decide) (fun _ => ?_) (fun h9 => absurd h9 (by decide))
            refine S_iconst X dX2_unit_104 ?_
            exact S_zret X (Or.inl rfl) (nle rfl) (nle rfl) dX2_unit_105 (hPo _ _ (Or.inl ⟨_, _, _, _, rfl, rfl, by rw [hK2]; exact (unit_p (by omega) hq_23).trans (if_neg hq_31)⟩))
          ·
            subst hz_32
            subst hu_33
            refine ⟨rfl, ?_⟩
            refine S_w (ws' := [(h0, ob 2 (uF (uF (uF f 1 (iv (sk T n a2_19 + 1))) 2 (iv w)) 4 (iv (x + ((ts_20).length : Int))))), (ht, ob 6 ft), (hb, ar 160 T), (hc, ar 160 (wrL C x (ts_20)))]) rfl ?_
            refine S_if_ne (tgt := 100) X dX2_unit_90 (by decide) (by decide) (fun _ => ?_) (fun h9 => absurd h9 (by decide))
            refine S_iconst X dX2_unit_100 ?_
            refine S_goto (tgt := 105) X dX2_unit_101 (by decide) ?_
            exact S_zret X (Or.inr rfl) (nle rfl) (nle rfl) dX2_unit_105 (hPo _ _ (Or.inr ⟨_, ts_20, rfl, rfl, by rw [hK2]; exact (unit_p (by omega) hq_23).trans (if_pos hq_34)⟩))
      ·
        refine S_aload_n X dX2_unit_66 rfl rfl ?_
        refine S_iload_n X dX2_unit_67 rfl rfl ?_
        refine S_iconst X dX2_unit_68 ?_
        refine S_iadd X dX2_unit_69 ?_
        refine S_calli X ((hne K2 hK2) h0 ht hb f ft T n ((sk T n a) + 1) w x hc C (wi + 1) hf0 hf1 hf2 hf3 (by omega) (by omega) (by (try simp only [List.length_append, List.length_singleton, Int.natCast_add, Int.natCast_one]); omega) (by omega) (by omega)) (is := [0, 1, 2, 3]) rfl (run_V X lkX2_71 0 rfl rfl (is := [0, 1, 2, 3]) (avs := [iv (wi + 1)]) (rest := []) rfl rfl (nle rfl) ⟨by simp only [rmD]; omega, by simp only [rmD]; omega⟩ ⟨nle rfl, nle rfl⟩ dX2_unit_70 (by decide) rfl) (fun z_45 u_43 hp_44 => ?_)
        rcases hp_44 with ⟨a2_46, fl_47, x2_48, C2_49, hz_50, hu_51, hq_52⟩ | ⟨a2_53, ts_54, hz_55, hu_56, hq_57⟩
        ·
          subst hz_50
          subst hu_51
          refine ⟨rfl, ?_⟩
          refine S_w (ws' := [(h0, ob 2 (uF (uF (uF f 1 (iv a2_46)) 2 (iv fl_47)) 4 (iv x2_48))), (ht, ob 6 ft), (hb, ar 160 T), (hc, ar 160 C2_49)]) rfl ?_
          exact S_zret X (Or.inl rfl) (nle rfl) (nle rfl) dX2_unit_73 (hPo _ _ (Or.inl ⟨_, _, _, _, rfl, rfl, by rw [hK2, unit_ng (by omega)]; exact hq_52⟩))
        ·
          subst hz_55
          subst hu_56
          refine ⟨rfl, ?_⟩
          refine S_w (ws' := [(h0, ob 2 (uF (uF (uF f 1 (iv a2_53)) 2 (iv w)) 4 (iv (x + (ts_54.length : Int))))), (ht, ob 6 ft), (hb, ar 160 T), (hc, ar 160 (wrL C x ts_54))]) rfl ?_
          refine S_w (ws' := [(h0, ob 2 (uF (uF (uF f 1 (iv a2_53)) 2 (iv w)) 4 (iv (x + ((ts_54).length : Int))))), (ht, ob 6 ft), (hb, ar 160 T), (hc, ar 160 (wrL C x (ts_54)))]) (by simp only [wrL_app, wrL, List.length_append, List.length_singleton, Int.natCast_add, Int.natCast_one, Int.add_assoc, List.append_assoc]) ?_
          exact S_zret X (Or.inr rfl) (nle rfl) (nle rfl) dX2_unit_73 (hPo _ _ (Or.inr ⟨_, ts_54, rfl, rfl, by rw [hK2, unit_ng (by omega)]; exact hq_57⟩))
    ·
      refine S_aload_n X dX2_unit_45 rfl rfl ?_
      refine S_calli X (kX5_fail_2 l h0 ht hb f ft T n (sk T n a) w x hf0 hf1 hf2) (is := [0, 1, 2]) rfl (run_U X lkX2_36_2 0 rfl rfl (is := [0, 1, 2]) (avs := []) (rest := []) rfl rfl (nle rfl) ⟨by simp only [rmD]; omega, by simp only [rmD]; omega⟩ ⟨nle rfl, nle rfl⟩ dX2_unit_46 (by decide) rfl) (fun z_60 u_58 hp_59 => ?_)
      obtain ⟨hz_61, hu_62⟩ := hp_59
      subst hz_61
      subst hu_62
      refine ⟨rfl, ?_⟩
      refine S_w (ws' := [(h0, ob 2 (uF (uF (uF f 1 (iv (sk T n a))) 2 (iv (sk T n a))) 4 (iv x))), (ht, ob 6 ft), (hb, ar 160 T), (hc, ar 160 C)]) rfl ?_
      exact S_zret X (Or.inl rfl) (nle rfl) (nle rfl) dX2_unit_49 (hPo _ _ (Or.inl ⟨_, _, _, _, rfl, rfl, unit_d (by omega) (by omega)⟩))
  ·
    refine S_iload_n X dX2_unit_11 rfl rfl ?_
    refine S_bipush X dX2_unit_12 rfl ?_
    refine S_icmp_eq (tgt := 39) X dX2_unit_14 (by decide) (by omega) (by decide) (fun c_63 => ?_) (fun c_63 => ?_)
    ·
      refine S_iload_n X dX2_unit_39 rfl rfl ?_
      refine S_bipush X dX2_unit_40 rfl ?_
      refine S_icmp_lt (tgt := 50) X dX2_unit_42 (by decide) (by omega) (by decide) (fun c_64 => ?_) (fun c_64 => ?_)
      ·
        have hlt : sk T n a < n := ch_lt (T := T) (by omega)
        obtain ⟨K2, hK2⟩ : ∃ K2 : Nat, K = K2 + 1 := ⟨K - 1, by omega⟩
        refine S_aload_n X dX2_unit_50 rfl rfl ?_
        refine S_dup X dX2_unit_51 ?_
        refine S_get (v := iv (sk T n a)) X fgX2_68_2 0 rfl rfl dX2_unit_52 ?_
        refine S_iconst X dX2_unit_55 ?_
        refine S_iadd X dX2_unit_56 ?_
        refine S_put X fpX2_68_2 0 rfl FT_i dX2_unit_57 ?_
        refine S_w (ws' := [(h0, ob 2 (uF (uF (uF f 1 (iv ((sk T n a) + 1))) 2 (iv w)) 4 (iv x))), (ht, ob 6 ft), (hb, ar 160 T), (hc, ar 160 C)]) (by simp only [List.set]; rw [uF_mv (j := 4) (k := 1) (by decide), uF_mv (j := 2) (k := 1) (by decide), uF_same (k := 1)]) ?_
        refine S_iload_n X dX2_unit_60 rfl rfl ?_
        refine S_bipush X dX2_unit_61 rfl ?_
        refine S_icmp_ne (tgt := 74) X dX2_unit_63 (by decide) (by omega) (by decide) (fun c_65 => ?_) (fun c_65 => ?_)
        ·
          refine S_aload_n X dX2_unit_74 rfl rfl ?_
          refine S_iload_n X dX2_unit_75 rfl rfl ?_
          refine S_iconst X dX2_unit_76 ?_
          refine S_iadd X dX2_unit_77 ?_
          refine S_calli X ((hco K2 hK2) h0 ht hb f ft T n ((sk T n a) + 1) w x hc C (wi + 1) hf0 hf1 hf2 hf3 (by omega) (by omega) (by (try simp only [List.length_append, List.length_singleton, Int.natCast_add, Int.natCast_one]); omega) (by omega) (by omega)) (is := [0, 1, 2, 3]) rfl (run_V X lkX2_44 0 rfl rfl (is := [0, 1, 2, 3]) (avs := [iv (wi + 1)]) (rest := []) rfl rfl (nle rfl) ⟨by simp only [rmD]; omega, by simp only [rmD]; omega⟩ ⟨nle rfl, nle rfl⟩ dX2_unit_78 (by decide) rfl) (fun z_68 u_66 hp_67 => ?_)
          rcases hp_67 with ⟨a2_69, fl_70, x2_71, C2_72, hz_73, hu_74, hq_75⟩ | ⟨a2_76, ts_77, hz_78, hu_79, hq_80⟩
          ·
            subst hz_73
            subst hu_74
            refine ⟨rfl, ?_⟩
            refine S_w (ws' := [(h0, ob 2 (uF (uF (uF f 1 (iv a2_69)) 2 (iv fl_70)) 4 (iv x2_71))), (ht, ob 6 ft), (hb, ar 160 T), (hc, ar 160 C2_72)]) rfl ?_
            refine S_if_eq (tgt := 104) X dX2_unit_81 (by decide) (by decide) (fun _ => ?_) (fun h9 => absurd h9 (by decide))
            refine S_iconst X dX2_unit_104 ?_
            exact S_zret X (Or.inl rfl) (nle rfl) (nle rfl) dX2_unit_105 (hPo _ _ (Or.inl ⟨_, _, _, _, rfl, rfl, by rw [hK2]; exact unit_pf (by omega) hq_75⟩))
          ·
            subst hz_78
            subst hu_79
            refine ⟨rfl, ?_⟩
            refine S_w (ws' := [(h0, ob 2 (uF (uF (uF f 1 (iv a2_76)) 2 (iv w)) 4 (iv (x + (ts_77.length : Int))))), (ht, ob 6 ft), (hb, ar 160 T), (hc, ar 160 (wrL C x ts_77))]) rfl ?_
            refine S_w (ws' := [(h0, ob 2 (uF (uF (uF f 1 (iv a2_76)) 2 (iv w)) 4 (iv (x + ((ts_77).length : Int))))), (ht, ob 6 ft), (hb, ar 160 T), (hc, ar 160 (wrL C x (ts_77)))]) (by simp only [wrL_app, wrL, List.length_append, List.length_singleton, Int.natCast_add, Int.natCast_one, Int.add_assoc, List.append_assoc]) ?_
            have ho_81 := (pCond_ok (T := T) hn1 K2 (sk T n a + 1) (by omega) (by omega)).2 _ hq_80
            dsimp only at ho_81
            refine S_if_eq (tgt := 104) X dX2_unit_81 (by decide) (by decide) (fun h9 => absurd h9 (by decide)) (fun _ => ?_)
            refine S_aload_n X dX2_unit_84 rfl rfl ?_
            refine S_bipush X dX2_unit_85 rfl ?_
            refine S_calli X (kX5_take_2 l h0 ht hb f ft T n a2_76 w (x + ((ts_77).length : Int)) 41 hf0 hf1 hf2 (by omega) (by omega) (by omega)) (is := [0, 1, 2]) rfl (run_U X lkX2_32_2 0 rfl rfl (is := [0, 1, 2]) (avs := [iv 41]) (rest := []) rfl rfl (nle rfl) ⟨by simp only [rmD]; omega, by simp only [rmD]; omega⟩ ⟨nle rfl, nle rfl⟩ dX2_unit_87 (by decide) rfl) (fun z_85 u_83 hp_84 => ?_)
            rcases hp_84 with ⟨hz_86, hu_87, hq_88⟩ | ⟨hz_89, hu_90, hq_91⟩
            ·
              subst hz_86
              subst hu_87
              refine ⟨rfl, ?_⟩
              refine S_w (ws' := [(h0, ob 2 (uF (uF (uF f 1 (iv (sk T n a2_76))) 2 (iv w)) 4 (iv (x + ((ts_77).length : Int))))), (ht, ob 6 ft), (hb, ar 160 T), (hc, ar 160 (wrL C x (ts_77)))]) rfl ?_
              refine S_if_ne (tgt := 100) X dX2_unit_90 (by decide) (by decide) (fun h9 => absurd h9 (by decide)) (fun _ => ?_)
              refine S_aload_n X dX2_unit_93 rfl rfl ?_
              refine S_calli X (kX5_fail_2 l h0 ht hb f ft T n (sk T n a2_76) w (x + ((ts_77).length : Int)) hf0 hf1 hf2) (is := [0, 1, 2]) rfl (run_U X lkX2_36_2 0 rfl rfl (is := [0, 1, 2]) (avs := []) (rest := []) rfl rfl (nle rfl) ⟨by simp only [rmD]; omega, by simp only [rmD]; omega⟩ ⟨nle rfl, nle rfl⟩ dX2_unit_94 (by decide) rfl) (fun z_95 u_93 hp_94 => ?_)
              obtain ⟨hz_96, hu_97⟩ := hp_94
              subst hz_96
              subst hu_97
              refine ⟨rfl, ?_⟩
              refine S_w (ws' := [(h0, ob 2 (uF (uF (uF f 1 (iv (sk T n a2_76))) 2 (iv (sk T n a2_76))) 4 (iv (x + ((ts_77).length : Int))))), (ht, ob 6 ft), (hb, ar 160 T), (hc, ar 160 (wrL C x (ts_77)))]) rfl ?_
              refine S_if_eq (tgt := 104) X dX2_unit_97 (by decide) (by decide) (fun _ => ?_) (fun h9 => absurd h9 (by decide))
              refine S_iconst X dX2_unit_104 ?_
              exact S_zret X (Or.inl rfl) (nle rfl) (nle rfl) dX2_unit_105 (hPo _ _ (Or.inl ⟨_, _, _, _, rfl, rfl, by rw [hK2]; exact (unit_p (by omega) hq_80).trans (if_neg hq_88)⟩))
            ·
              subst hz_89
              subst hu_90
              refine ⟨rfl, ?_⟩
              refine S_w (ws' := [(h0, ob 2 (uF (uF (uF f 1 (iv (sk T n a2_76 + 1))) 2 (iv w)) 4 (iv (x + ((ts_77).length : Int))))), (ht, ob 6 ft), (hb, ar 160 T), (hc, ar 160 (wrL C x (ts_77)))]) rfl ?_
              refine S_if_ne (tgt := 100) X dX2_unit_90 (by decide) (by decide) (fun _ => ?_) (fun h9 => absurd h9 (by decide))
              refine S_iconst X dX2_unit_100 ?_
              refine S_goto (tgt := 105) X dX2_unit_101 (by decide) ?_
              exact S_zret X (Or.inr rfl) (nle rfl) (nle rfl) dX2_unit_105 (hPo _ _ (Or.inr ⟨_, ts_77, rfl, rfl, by rw [hK2]; exact (unit_p (by omega) hq_80).trans (if_pos hq_91)⟩))
        ·
          refine S_aload_n X dX2_unit_66 rfl rfl ?_
          refine S_iload_n X dX2_unit_67 rfl rfl ?_
          refine S_iconst X dX2_unit_68 ?_
          refine S_iadd X dX2_unit_69 ?_
          refine S_calli X ((hne K2 hK2) h0 ht hb f ft T n ((sk T n a) + 1) w x hc C (wi + 1) hf0 hf1 hf2 hf3 (by omega) (by omega) (by (try simp only [List.length_append, List.length_singleton, Int.natCast_add, Int.natCast_one]); omega) (by omega) (by omega)) (is := [0, 1, 2, 3]) rfl (run_V X lkX2_71 0 rfl rfl (is := [0, 1, 2, 3]) (avs := [iv (wi + 1)]) (rest := []) rfl rfl (nle rfl) ⟨by simp only [rmD]; omega, by simp only [rmD]; omega⟩ ⟨nle rfl, nle rfl⟩ dX2_unit_70 (by decide) rfl) (fun z_102 u_100 hp_101 => ?_)
          rcases hp_101 with ⟨a2_103, fl_104, x2_105, C2_106, hz_107, hu_108, hq_109⟩ | ⟨a2_110, ts_111, hz_112, hu_113, hq_114⟩
          ·
            subst hz_107
            subst hu_108
            refine ⟨rfl, ?_⟩
            refine S_w (ws' := [(h0, ob 2 (uF (uF (uF f 1 (iv a2_103)) 2 (iv fl_104)) 4 (iv x2_105))), (ht, ob 6 ft), (hb, ar 160 T), (hc, ar 160 C2_106)]) rfl ?_
            exact S_zret X (Or.inl rfl) (nle rfl) (nle rfl) dX2_unit_73 (hPo _ _ (Or.inl ⟨_, _, _, _, rfl, rfl, by rw [hK2, unit_ng (by omega)]; exact hq_109⟩))
          ·
            subst hz_112
            subst hu_113
            refine ⟨rfl, ?_⟩
            refine S_w (ws' := [(h0, ob 2 (uF (uF (uF f 1 (iv a2_110)) 2 (iv w)) 4 (iv (x + (ts_111.length : Int))))), (ht, ob 6 ft), (hb, ar 160 T), (hc, ar 160 (wrL C x ts_111))]) rfl ?_
            refine S_w (ws' := [(h0, ob 2 (uF (uF (uF f 1 (iv a2_110)) 2 (iv w)) 4 (iv (x + ((ts_111).length : Int))))), (ht, ob 6 ft), (hb, ar 160 T), (hc, ar 160 (wrL C x (ts_111)))]) (by simp only [wrL_app, wrL, List.length_append, List.length_singleton, Int.natCast_add, Int.natCast_one, Int.add_assoc, List.append_assoc]) ?_
            exact S_zret X (Or.inr rfl) (nle rfl) (nle rfl) dX2_unit_73 (hPo _ _ (Or.inr ⟨_, ts_111, rfl, rfl, by rw [hK2, unit_ng (by omega)]; exact hq_114⟩))
      ·
        refine S_aload_n X dX2_unit_45 rfl rfl ?_
        refine S_calli X (kX5_fail_2 l h0 ht hb f ft T n (sk T n a) w x hf0 hf1 hf2) (is := [0, 1, 2]) rfl (run_U X lkX2_36_2 0 rfl rfl (is := [0, 1, 2]) (avs := []) (rest := []) rfl rfl (nle rfl) ⟨by simp only [rmD]; omega, by simp only [rmD]; omega⟩ ⟨nle rfl, nle rfl⟩ dX2_unit_46 (by decide) rfl) (fun z_117 u_115 hp_116 => ?_)
        obtain ⟨hz_118, hu_119⟩ := hp_116
        subst hz_118
        subst hu_119
        refine ⟨rfl, ?_⟩
        refine S_w (ws' := [(h0, ob 2 (uF (uF (uF f 1 (iv (sk T n a))) 2 (iv (sk T n a))) 4 (iv x))), (ht, ob 6 ft), (hb, ar 160 T), (hc, ar 160 C)]) rfl ?_
        exact S_zret X (Or.inl rfl) (nle rfl) (nle rfl) dX2_unit_49 (hPo _ _ (Or.inl ⟨_, _, _, _, rfl, rfl, unit_d (by omega) (by omega)⟩))
    ·
      refine S_aload_n X dX2_unit_17 rfl rfl ?_
      refine S_iload_n X dX2_unit_18 rfl rfl ?_
      refine S_calli X (hsu h0 ht hb f ft T n (sk T n a) w x hc C wi hf0 hf1 hf2 hf3 (by omega) (by omega) (by (try simp only [List.length_append, List.length_singleton, Int.natCast_add, Int.natCast_one]); omega) (by omega) (by omega)) (is := [0, 1, 2, 3]) rfl (run_V X lkX2_50 0 rfl rfl (is := [0, 1, 2, 3]) (avs := [iv wi]) (rest := []) rfl rfl (nle rfl) ⟨by simp only [rmD]; omega, by simp only [rmD]; omega⟩ ⟨nle rfl, nle rfl⟩ dX2_unit_19 (by decide) rfl) (fun z_122 u_120 hp_121 => ?_)
      rcases hp_121 with ⟨a2_123, fl_124, x2_125, C2_126, hz_127, hu_128, hq_129⟩ | ⟨a2_130, ts_131, hz_132, hu_133, hq_134⟩
      ·
        subst hz_127
        subst hu_128
        refine ⟨rfl, ?_⟩
        refine S_w (ws' := [(h0, ob 2 (uF (uF (uF f 1 (iv a2_123)) 2 (iv fl_124)) 4 (iv x2_125))), (ht, ob 6 ft), (hb, ar 160 T), (hc, ar 160 C2_126)]) rfl ?_
        refine S_if_eq (tgt := 37) X dX2_unit_22 (by decide) (by decide) (fun _ => ?_) (fun h9 => absurd h9 (by decide))
        refine S_iconst X dX2_unit_37 ?_
        exact S_zret X (Or.inl rfl) (nle rfl) (nle rfl) dX2_unit_38 (hPo _ _ (Or.inl ⟨_, _, _, _, rfl, rfl, unit_sf (by omega) hq_129⟩))
      ·
        subst hz_132
        subst hu_133
        refine ⟨rfl, ?_⟩
        refine S_w (ws' := [(h0, ob 2 (uF (uF (uF f 1 (iv a2_130)) 2 (iv w)) 4 (iv (x + (ts_131.length : Int))))), (ht, ob 6 ft), (hb, ar 160 T), (hc, ar 160 (wrL C x ts_131))]) rfl ?_
        refine S_w (ws' := [(h0, ob 2 (uF (uF (uF f 1 (iv a2_130)) 2 (iv w)) 4 (iv (x + ((ts_131).length : Int))))), (ht, ob 6 ft), (hb, ar 160 T), (hc, ar 160 (wrL C x (ts_131)))]) (by simp only [wrL_app, wrL, List.length_append, List.length_singleton, Int.natCast_add, Int.natCast_one, Int.add_assoc, List.append_assoc]) ?_
        have ho_135 := ((pAS_ok (T := T) hn1 K).2 (sk T n a) (by omega) (by omega)).2 _ hq_134
        dsimp only at ho_135
        refine S_if_eq (tgt := 37) X dX2_unit_22 (by decide) (by decide) (fun h9 => absurd h9 (by decide)) (fun _ => ?_)
        refine S_aload_n X dX2_unit_25 rfl rfl ?_
        refine S_iload_n X dX2_unit_26 rfl rfl ?_
        refine S_calli X (hcm h0 ht hb f ft T n a2_130 w (x + ((ts_131).length : Int)) hc (wrL C x (ts_131)) wi hf0 hf1 hf2 hf3 (by omega) (by omega) (by (try simp only [List.length_append, List.length_singleton, Int.natCast_add, Int.natCast_one]); omega) (by omega) (by omega)) (is := [0, 1, 2, 3]) rfl (run_V X lkX2_59 0 rfl rfl (is := [0, 1, 2, 3]) (avs := [iv wi]) (rest := []) rfl rfl (nle rfl) ⟨by simp only [rmD]; omega, by simp only [rmD]; omega⟩ ⟨nle rfl, nle rfl⟩ dX2_unit_27 (by decide) rfl) (fun z_139 u_137 hp_138 => ?_)
        rcases hp_138 with ⟨a2_140, fl_141, x2_142, C2_143, hz_144, hu_145, hq_146⟩ | ⟨a2_147, ts_148, hz_149, hu_150, hq_151⟩
        ·
          subst hz_144
          subst hu_145
          refine ⟨rfl, ?_⟩
          refine S_w (ws' := [(h0, ob 2 (uF (uF (uF f 1 (iv a2_140)) 2 (iv fl_141)) 4 (iv x2_142))), (ht, ob 6 ft), (hb, ar 160 T), (hc, ar 160 C2_143)]) rfl ?_
          refine S_if_eq (tgt := 37) X dX2_unit_30 (by decide) (by decide) (fun _ => ?_) (fun h9 => absurd h9 (by decide))
          refine S_iconst X dX2_unit_37 ?_
          exact S_zret X (Or.inl rfl) (nle rfl) (nle rfl) dX2_unit_38 (hPo _ _ (Or.inl ⟨_, _, _, _, rfl, rfl, unit_cf (by omega) hq_134 hq_146⟩))
        ·
          subst hz_149
          subst hu_150
          refine ⟨rfl, ?_⟩
          refine S_w (ws' := [(h0, ob 2 (uF (uF (uF f 1 (iv a2_147)) 2 (iv w)) 4 (iv ((x + ((ts_131).length : Int)) + (ts_148.length : Int))))), (ht, ob 6 ft), (hb, ar 160 T), (hc, ar 160 (wrL (wrL C x (ts_131)) (x + ((ts_131).length : Int)) ts_148))]) rfl ?_
          refine S_w (ws' := [(h0, ob 2 (uF (uF (uF f 1 (iv a2_147)) 2 (iv w)) 4 (iv (x + ((ts_131 ++ ts_148).length : Int))))), (ht, ob 6 ft), (hb, ar 160 T), (hc, ar 160 (wrL C x (ts_131 ++ ts_148)))]) (by simp only [wrL_app, wrL, List.length_append, List.length_singleton, Int.natCast_add, Int.natCast_one, Int.add_assoc, List.append_assoc]) ?_
          refine S_if_eq (tgt := 37) X dX2_unit_30 (by decide) (by decide) (fun h9 => absurd h9 (by decide)) (fun _ => ?_)
          refine S_iconst X dX2_unit_33 ?_
          refine S_goto (tgt := 38) X dX2_unit_34 (by decide) ?_
          exact S_zret X (Or.inr rfl) (nle rfl) (nle rfl) dX2_unit_38 (hPo _ _ (Or.inr ⟨_, ts_131 ++ ts_148, rfl, rfl, unit_c (by omega) hq_134 hq_151⟩))
end pt_15law2
/- 16.law3.lean.txt -/
section pt_16law3
theorem law_as (l : Launch) : ∀ K : Nat, C_X2_atom l K (2 * K + 6) ∧ C_X2_sum l K (2 * K + 7) := by
  intro K
  induction K with
  | zero =>
    have h1 := kX2_atom l 0 5 (by omega) (fun K2 h => absurd h (by omega))
    exact ⟨h1, kX2_sum l 0 6 (by omega) h1⟩
  | succ K ih =>
    have h1 := kX2_atom l (K + 1) (2 * K + 7) (by omega) (fun K2 h => by obtain rfl : K = K2 := by omega
                                                                         exact ih.2)
    exact ⟨h1, kX2_sum l (K + 1) (2 * K + 8) (by omega) h1⟩
theorem law_cmp (l : Launch) (K : Nat) : C_X2_comparison l K (2 * K + 8) := kX2_comparison l K (2 * K + 7) (by omega) (law_as l K).2
theorem law_unit (l : Launch) : ∀ K : Nat, C_X2_unit l K (3 * K + 9) := by
  intro K
  induction K with
  | zero => exact kX2_unit l 0 8 (by omega) 7 (by omega) (law_as l 0).2 8 (by omega) (law_cmp l 0) 0 (by omega) (fun K2 h => absurd h (by omega)) 0 (by omega) (fun K2 h => absurd h (by omega))
  | succ K ih =>
    refine kX2_unit l (K + 1) (3 * K + 11) (by omega) (2 * (K + 1) + 7) (by omega) (law_as l (K + 1)).2 (2 * (K + 1) + 8) (by omega) (law_cmp l (K + 1)) (3 * K + 10) (by omega) (fun K2 h => ?_) (3 * K + 11) (by omega) (fun K2 h => ?_)
    · obtain rfl : K = K2 := by omega
      exact kX2_negated l K (3 * K + 9) (by omega) ih
    · obtain rfl : K = K2 := by omega
      exact kX2_condition l K (3 * K + 10) (by omega) (3 * K + 9) (by omega) ih (3 * K + 10) (by omega) (kX2_moreUnits l K (3 * K + 9) (by omega) ih)
theorem law_sum (l : Launch) : C_X2_sum l 6 19 := (law_as l 6).2
theorem law_cm6 (l : Launch) : C_X2_comparison l 6 20 := law_cmp l 6
theorem law_more (l : Launch) : C_X2_moreUnits l 6 28 := kX2_moreUnits l 6 27 (by omega) (law_unit l 6)
theorem law_cond (l : Launch) : C_X2_condition l 6 29 := kX2_condition l 6 28 (by omega) 27 (by omega) (law_unit l 6) 28 (by omega) (law_more l)
theorem sumB_n {T : Int → Int} {n a : Int} {acc : List Int} (h : ¬ ch T n (sk T n a) = 63) : sumB T n a acc = .inl (sk T n a) := by rw [sumB, if_neg h]
theorem sumB_f {T : Int → Int} {n a f : Int} {acc : List Int} (h : ch T n (sk T n a) = 63) (h2 : pSum T n 6 (sk T n a + 1) = .inl f) : sumB T n a acc = .inl f := by rw [sumB, if_pos h, h2]
theorem sumB_r {T : Int → Int} {n a b : Int} {acc ts : List Int} (h : ch T n (sk T n a) = 63) (h2 : pSum T n 6 (sk T n a + 1) = .inr (b, ts)) : sumB T n a acc = .inr (b, acc ++ [-63] ++ ts ++ [-59]) := by rw [sumB, if_pos h, h2]
def okLC (n a0 c : Int) (r : LR) : Prop := (∀ f, r = .inl f → 0 ≤ f ∧ f ≤ n) ∧ (∀ q, r = .inr q → a0 < q.1 ∧ q.1 ≤ n ∧ (q.2.length : Int) + c ≤ q.1 - a0 ∧ ∀ t ∈ q.2, -200 ≤ t ∧ t ≤ 9999)
theorem okLC_l {n a c f : Int} (h : 0 ≤ f ∧ f ≤ n) : okLC n a c (.inl f) := ⟨fun f' e => (by cases e; exact h), fun q e => (by cases e)⟩
theorem okLC_r {n a b c : Int} {ts : List Int} (h : a < b ∧ b ≤ n ∧ (ts.length : Int) + c ≤ b - a ∧ ∀ t ∈ ts, -200 ≤ t ∧ t ≤ 9999) : okLC n a c (.inr (b, ts)) := ⟨fun f' e => (by cases e), fun q e => (by cases e; exact h)⟩
theorem sumB_ok {T : Int → Int} {n a0 a c : Int} {acc : List Int} (hn : n ≤ 160) (h0 : 0 ≤ a0) (h1 : a0 < a) (h2 : a ≤ n) (h3 : (acc.length : Int) + c + 1 ≤ a - a0) (h4 : ∀ t ∈ acc, -200 ≤ t ∧ t ≤ 9999) : okLC n a0 c (sumB T n a acc) := by
  have k1 := sk_in (T := T) h2
  unfold sumB
  split
  · next k2 =>
    have k3 : sk T n a < n := ch_lt (T := T) (by omega)
    have k4 := (pAS_ok (T := T) hn 6).2 (sk T n a + 1) (by omega) (by omega)
    cases hp : pSum T n 6 (sk T n a + 1) with
    | inl f => exact okLC_l (k4.1 f hp)
    | inr q =>
      have k5 := k4.2 q hp
      refine okLC_r ⟨by omega, by omega, ?_, ok_app (ok_app (ok_app h4 (ok_one (by decide))) k5.2.2.2.2) (ok_one (by decide))⟩
      simp only [List.length_append, List.length_singleton, Int.natCast_add, Int.natCast_one]
      omega
  · exact okLC_l ⟨by omega, by omega⟩
theorem pLawC_ok {T : Int → Int} {n a : Int} (hn : n ≤ 160) (h0 : 0 ≤ a) (ha : a ≤ n) : okLC n a 1 (pLawC T n a) := by
  have k1 := sk_in (T := T) ha
  unfold pLawC
  split
  · next c1 =>
    have l1 : sk T n a < n := ch_lt (T := T) (by omega)
    have k2 := sk_in (T := T) (n := n) (a := sk T n a + 1) (by omega)
    split
    · next c2 =>
      have l2 : sk T n (sk T n a + 1) < n := ch_lt (T := T) (by omega)
      have k3 := sk_in (T := T) (n := n) (a := sk T n (sk T n a + 1) + 1) (by omega)
      split
      · have k4 := pCond_ok (T := T) hn 6 (sk T n (sk T n (sk T n a + 1) + 1)) (by omega) (by omega)
        cases hp : pCond T n 6 (sk T n (sk T n (sk T n a + 1) + 1)) with
        | inl f => exact okLC_l (k4.1 f hp)
        | inr q =>
          have k5 := k4.2 q hp
          exact sumB_ok hn h0 (by omega) k5.2.1 (by omega) k5.2.2.2.2
      · have k4 := (pAS_ok (T := T) hn 6).2 (sk T n (sk T n (sk T n a + 1) + 1)) (by omega) (by omega)
        cases hp : pSum T n 6 (sk T n (sk T n (sk T n a + 1) + 1)) with
        | inl f => exact okLC_l (k4.1 f hp)
        | inr q =>
          have k5 := k4.2 q hp
          have k6 := sk_in (T := T) k5.2.1
          show okLC n a 1 (if ch T n (sk T n q.1) = 61 ∨ ch T n (sk T n q.1) = 60 ∨ ch T n (sk T n q.1) = 62 then (match cmpG T n 6 (sk T n q.1) with | .inl f => (.inl f : LR) | .inr r => (match moreL T n (pUnit T n 6) 161 false r.1 (q.2 ++ r.2) with | .inl f => (.inl f : LR) | .inr t => sumB T n t.1 t.2)) else .inr (sk T n q.1, q.2 ++ [-59]))
          split
          · have k7 := cmpG_ok (T := T) hn 6 (sk T n q.1) (by omega) (by omega)
            cases hc : cmpG T n 6 (sk T n q.1) with
            | inl f => exact okLC_l (k7.1 f hc)
            | inr r =>
              have k8 := k7.2 r hc
              have k9 := moreL_ok (T := T) (n := n) (a0 := sk T n (sk T n (sk T n a + 1) + 1)) (pUnit_ok (T := T) hn 6) (by omega) 161 false r.1 (q.2 ++ r.2) (by omega) k8.2.1 (by simp only [List.length_append, Int.natCast_add, Bool.false_eq_true, if_false]; omega) (by simp only [List.length_append]; omega) (ok_app k5.2.2.2.2 k8.2.2.2.2)
              show okLC n a 1 (match moreL T n (pUnit T n 6) 161 false r.1 (q.2 ++ r.2) with | .inl f => (.inl f : LR) | .inr t => sumB T n t.1 t.2)
              cases hm : moreL T n (pUnit T n 6) 161 false r.1 (q.2 ++ r.2) with
              | inl f => exact okLC_l (k9.1 f hm)
              | inr t =>
                have k10 := k9.2 t hm
                exact sumB_ok hn h0 (by omega) k10.2.1 (by omega) k10.2.2.2.2
          · exact okLC_r ⟨by omega, by omega, by simp only [List.length_append, List.length_singleton, Int.natCast_add, Int.natCast_one]; omega, ok_app k5.2.2.2.2 (ok_one (by decide))⟩
    · exact okLC_l ⟨by omega, by omega⟩
  · exact okLC_l ⟨by omega, by omega⟩
theorem lc_y {T : Int → Int} {n a : Int} (h : ¬ ch T n (sk T n a) = 121) : pLawC T n a = .inl (sk T n a) := by rw [pLawC, if_neg h]
theorem lc_c {T : Int → Int} {n a : Int} (h : ch T n (sk T n a) = 121) (h2 : ¬ ch T n (sk T n (sk T n a + 1)) = 58) : pLawC T n a = .inl (sk T n (sk T n a + 1)) := by rw [pLawC, if_pos h, if_neg h2]
theorem lc_kf {T : Int → Int} {n a f : Int} (h : ch T n (sk T n a) = 121) (h2 : ch T n (sk T n (sk T n a + 1)) = 58) (h3 : ch T n (sk T n (sk T n (sk T n a + 1) + 1)) = 33 ∨ ch T n (sk T n (sk T n (sk T n a + 1) + 1)) = 40) (h4 : pCond T n 6 (sk T n (sk T n (sk T n a + 1) + 1)) = .inl f) : pLawC T n a = .inl f := by rw [pLawC, if_pos h, if_pos h2, if_pos h3, h4]
theorem lc_k {T : Int → Int} {n a b : Int} {ts : List Int} (h : ch T n (sk T n a) = 121) (h2 : ch T n (sk T n (sk T n a + 1)) = 58) (h3 : ch T n (sk T n (sk T n (sk T n a + 1) + 1)) = 33 ∨ ch T n (sk T n (sk T n (sk T n a + 1) + 1)) = 40) (h4 : pCond T n 6 (sk T n (sk T n (sk T n a + 1) + 1)) = .inr (b, ts)) : pLawC T n a = sumB T n b ts := by rw [pLawC, if_pos h, if_pos h2, if_pos h3, h4]
theorem lc_sf {T : Int → Int} {n a f : Int} (h : ch T n (sk T n a) = 121) (h2 : ch T n (sk T n (sk T n a + 1)) = 58) (h3 : ¬ (ch T n (sk T n (sk T n (sk T n a + 1) + 1)) = 33 ∨ ch T n (sk T n (sk T n (sk T n a + 1) + 1)) = 40)) (h4 : pSum T n 6 (sk T n (sk T n (sk T n a + 1) + 1)) = .inl f) : pLawC T n a = .inl f := by rw [pLawC, if_pos h, if_pos h2, if_neg h3, h4]
theorem lc_s {T : Int → Int} {n a b : Int} {ts : List Int} (h : ch T n (sk T n a) = 121) (h2 : ch T n (sk T n (sk T n a + 1)) = 58) (h3 : ¬ (ch T n (sk T n (sk T n (sk T n a + 1) + 1)) = 33 ∨ ch T n (sk T n (sk T n (sk T n a + 1) + 1)) = 40)) (h4 : pSum T n 6 (sk T n (sk T n (sk T n a + 1) + 1)) = .inr (b, ts)) (h5 : ¬ (ch T n (sk T n b) = 61 ∨ ch T n (sk T n b) = 60 ∨ ch T n (sk T n b) = 62)) : pLawC T n a = .inr (sk T n b, ts ++ [-59]) := by
  rw [pLawC, if_pos h, if_pos h2, if_neg h3, h4]
  exact if_neg h5
theorem lc_q {T : Int → Int} {n a b : Int} {ts : List Int} (h : ch T n (sk T n a) = 121) (h2 : ch T n (sk T n (sk T n a + 1)) = 58) (h3 : ¬ (ch T n (sk T n (sk T n (sk T n a + 1) + 1)) = 33 ∨ ch T n (sk T n (sk T n (sk T n a + 1) + 1)) = 40)) (h4 : pSum T n 6 (sk T n (sk T n (sk T n a + 1) + 1)) = .inr (b, ts)) (h5 : ch T n (sk T n b) = 61 ∨ ch T n (sk T n b) = 60 ∨ ch T n (sk T n b) = 62) : pLawC T n a = (match cmpG T n 6 (sk T n b) with | .inl f => (.inl f : LR) | .inr r => (match moreL T n (pUnit T n 6) 161 false r.1 (ts ++ r.2) with | .inl f => (.inl f : LR) | .inr t => sumB T n t.1 t.2)) := by
  rw [pLawC, if_pos h, if_pos h2, if_neg h3, h4]
  exact if_pos h5
theorem lc_qf {T : Int → Int} {n b f : Int} {ts : List Int} (h : cmpG T n 6 b = .inl f) : (match cmpG T n 6 b with | .inl f => (.inl f : LR) | .inr r => (match moreL T n (pUnit T n 6) 161 false r.1 (ts ++ r.2) with | .inl f => (.inl f : LR) | .inr t => sumB T n t.1 t.2)) = .inl f := by rw [h]
theorem lc_qm {T : Int → Int} {n b c : Int} {ts t2 : List Int} (h : cmpG T n 6 b = .inr (c, t2)) : (match cmpG T n 6 b with | .inl f => (.inl f : LR) | .inr r => (match moreL T n (pUnit T n 6) 161 false r.1 (ts ++ r.2) with | .inl f => (.inl f : LR) | .inr t => sumB T n t.1 t.2)) = (match moreL T n (pUnit T n 6) 161 false c (ts ++ t2) with | .inl f => (.inl f : LR) | .inr t => sumB T n t.1 t.2) := by rw [h]
theorem lc_mf {T : Int → Int} {n c f : Int} {ts : List Int} (h : moreL T n (pUnit T n 6) 161 false c ts = .inl f) : (match moreL T n (pUnit T n 6) 161 false c ts with | .inl f => (.inl f : LR) | .inr t => sumB T n t.1 t.2) = .inl f := by rw [h]
theorem lc_m {T : Int → Int} {n c d : Int} {ts t2 : List Int} (h : moreL T n (pUnit T n 6) 161 false c ts = .inr (d, t2)) : (match moreL T n (pUnit T n 6) 161 false c ts with | .inl f => (.inl f : LR) | .inr t => sumB T n t.1 t.2) = sumB T n d t2 := by rw [h]
theorem ll_f {T : Int → Int} {n a f : Int} {k : Nat} {acc : List Int} (h : pLawC T n a = .inl f) : pLawL T n (k + 1) a acc = .inl f := by rw [pLawL, h]
theorem ll_e {T : Int → Int} {n a b : Int} {k : Nat} {acc ts : List Int} (h : pLawC T n a = .inr (b, ts)) (h2 : ch T n (sk T n b) = 0) : pLawL T n (k + 1) a acc = .inr (sk T n b, acc ++ ts) := by rw [pLawL, h]; exact if_pos h2
theorem ll_g {T : Int → Int} {n a b : Int} {k : Nat} {acc ts : List Int} (h : pLawC T n a = .inr (b, ts)) (h2 : ch T n (sk T n b) = 59) : pLawL T n (k + 1) a acc = pLawL T n k (sk T n b + 1) (acc ++ ts) := by rw [pLawL, h]; exact (if_neg (by dsimp only; omega)).trans (if_pos h2)
theorem ll_n {T : Int → Int} {n a b : Int} {k : Nat} {acc ts : List Int} (h : pLawC T n a = .inr (b, ts)) (h2 : ¬ ch T n (sk T n b) = 0) (h3 : ¬ ch T n (sk T n b) = 59) : pLawL T n (k + 1) a acc = .inl (sk T n b) := by rw [pLawL, h]; exact (if_neg h2).trans (if_neg h3)
/-- a TEXT as a LAW: its fault, or its signs -/
def lwRes (T : Int → Int) (n : Int) : Int ⊕ List Int := match pLawL T n 161 0 [] with
  | .inl f => .inl f
  | .inr q => .inr q.2
theorem lwRes_f {T : Int → Int} {n f : Int} (h : pLawL T n 161 0 [] = .inl f) : lwRes T n = .inl f := by unfold lwRes; rw [h]
theorem lwRes_r {T : Int → Int} {n b : Int} {ts : List Int} (h : pLawL T n 161 0 [] = .inr (b, ts)) : lwRes T n = .inr ts := by unfold lwRes; rw [h]
set_option maxHeartbeats 4000000 in
set_option maxRecDepth 100000 in
theorem kX2_sumBehindCondition (l : Launch) (h0 : Nat) (ht : Nat) (hb : Nat) (f : Nat → AV) (ft : Nat → AV) (T : Int → Int) (n : Int) (a : Int) (w : Int) (x : Int) (hc : Nat) (C : Int → Int) (tl : List Int) (hf0 : f 0 = rv ht) (hf1 : ft 0 = rv hb) (hf2 : ft 1 = iv n) (hf3 : f 3 = rv hc) (hT : okT T n) (ha : 0 ≤ a ∧ a ≤ n) (hx : 0 ≤ x ∧ x + (tl.length : Int) < a) : AMi l yX2_sumBehindCondition cX2_sumBehindCondition 1 .boolean 20 0 0 [rv h0] [(h0, ob 2 (uF (uF (uF f 1 (iv a)) 2 (iv w)) 4 (iv (x + ((tl).length : Int))))), (ht, ob 6 ft), (hb, ar 160 T), (hc, ar 160 (wrL C x (tl)))] (fun z u => (∃ a2 : Int, ∃ fl : Int, ∃ x2 : Int, ∃ C2 : Int → Int, z = 0 ∧ u = [(h0, ob 2 (uF (uF (uF f 1 (iv a2)) 2 (iv fl)) 4 (iv x2))), (ht, ob 6 ft), (hb, ar 160 T), (hc, ar 160 C2)] ∧ sumB T n a tl = .inl fl) ∨ (∃ a2 : Int, ∃ ts : List Int, z = 1 ∧ u = [(h0, ob 2 (uF (uF (uF f 1 (iv a2)) 2 (iv w)) 4 (iv (x + ((ts).length : Int))))), (ht, ob 6 ft), (hb, ar 160 T), (hc, ar 160 (wrL C x (ts)))] ∧ sumB T n a tl = .inr (a2, ts))) := by
  refine AMi.of2 rfl (nle rfl) ?_
  intro D G A p e s m args below meth c Po hPo X
  obtain ⟨hn0, hn1, hT2⟩ := id hT
  have hsk := sk_in (T := T) ha.2
  have hch := ch_in (a := sk T n a) hT (by omega)
  refine S_aload_n X dX2_sumBehindCondition_0 rfl rfl ?_
  refine S_bipush X dX2_sumBehindCondition_1 rfl ?_
  refine S_calli X (kX5_take_2 l h0 ht hb f ft T n a w (x + ((tl).length : Int)) 63 hf0 hf1 hf2 (by omega) (by omega) (by omega)) (is := [0, 1, 2]) rfl (run_U X lkX2_32_2 0 rfl rfl (is := [0, 1, 2]) (avs := [iv 63]) (rest := []) rfl rfl (nle rfl) ⟨nle rfl, nle rfl⟩ ⟨nle rfl, nle rfl⟩ dX2_sumBehindCondition_3 (by decide) rfl) (fun z_3 u_1 hp_2 => ?_)
  rcases hp_2 with ⟨hz_4, hu_5, hq_6⟩ | ⟨hz_7, hu_8, hq_9⟩
  ·
    subst hz_4
    subst hu_5
    refine ⟨rfl, ?_⟩
    refine S_w (ws' := [(h0, ob 2 (uF (uF (uF f 1 (iv (sk T n a))) 2 (iv w)) 4 (iv (x + ((tl).length : Int))))), (ht, ob 6 ft), (hb, ar 160 T), (hc, ar 160 (wrL C x (tl)))]) rfl ?_
    refine S_if_ne (tgt := 14) X dX2_sumBehindCondition_6 (by decide) (by decide) (fun h9 => absurd h9 (by decide)) (fun _ => ?_)
    refine S_aload_n X dX2_sumBehindCondition_9 rfl rfl ?_
    refine S_calli X (kX5_fail_2 l h0 ht hb f ft T n (sk T n a) w (x + ((tl).length : Int)) hf0 hf1 hf2) (is := [0, 1, 2]) rfl (run_U X lkX2_36_2 0 rfl rfl (is := [0, 1, 2]) (avs := []) (rest := []) rfl rfl (nle rfl) ⟨nle rfl, nle rfl⟩ ⟨nle rfl, nle rfl⟩ dX2_sumBehindCondition_10 (by decide) rfl) (fun z_13 u_11 hp_12 => ?_)
    obtain ⟨hz_14, hu_15⟩ := hp_12
    subst hz_14
    subst hu_15
    refine ⟨rfl, ?_⟩
    refine S_w (ws' := [(h0, ob 2 (uF (uF (uF f 1 (iv (sk T n a))) 2 (iv (sk T n a))) 4 (iv (x + ((tl).length : Int))))), (ht, ob 6 ft), (hb, ar 160 T), (hc, ar 160 (wrL C x (tl)))]) rfl ?_
    exact S_zret X (Or.inl rfl) (nle rfl) (nle rfl) dX2_sumBehindCondition_13 (hPo _ _ (Or.inl ⟨_, _, _, _, rfl, rfl, sumB_n hq_6⟩))
  ·
    subst hz_7
    subst hu_8
    refine ⟨rfl, ?_⟩
    refine S_w (ws' := [(h0, ob 2 (uF (uF (uF f 1 (iv (sk T n a + 1))) 2 (iv w)) 4 (iv (x + ((tl).length : Int))))), (ht, ob 6 ft), (hb, ar 160 T), (hc, ar 160 (wrL C x (tl)))]) rfl ?_
    refine S_if_ne (tgt := 14) X dX2_sumBehindCondition_6 (by decide) (by decide) (fun _ => ?_) (fun h9 => absurd h9 (by decide))
    have hlt : sk T n a < n := ch_lt (T := T) (by omega)
    refine S_aload_n X dX2_sumBehindCondition_14 rfl rfl ?_
    refine S_bipush X dX2_sumBehindCondition_15 rfl ?_
    refine S_calli X (kX2_emit l h0 f (sk T n a + 1) w (x + ((tl).length : Int)) hc (wrL C x (tl)) (-63) hf3 (by (try simp only [List.length_append, List.length_singleton, Int.natCast_add, Int.natCast_one]); omega)) (is := [0, 3]) rfl (run_V X lkX2_56 0 rfl rfl (is := [0, 3]) (avs := [iv (-63)]) (rest := []) rfl rfl (nle rfl) ⟨nle rfl, nle rfl⟩ ⟨nle rfl, nle rfl⟩ dX2_sumBehindCondition_17 (by decide) rfl) (fun z_19 u_17 hp_18 => ?_)
    obtain ⟨hz_20, hu_21⟩ := hp_18
    subst hz_20
    subst hu_21
    refine ⟨rfl, ?_⟩
    refine S_w (ws' := [(h0, ob 2 (uF (uF (uF f 1 (iv (sk T n a + 1))) 2 (iv w)) 4 (iv ((x + ((tl).length : Int)) + 1)))), (ht, ob 6 ft), (hb, ar 160 T), (hc, ar 160 (uZ (wrL C x (tl)) (x + ((tl).length : Int)) (-63)))]) rfl ?_
    refine S_w (ws' := [(h0, ob 2 (uF (uF (uF f 1 (iv (sk T n a + 1))) 2 (iv w)) 4 (iv (x + ((tl ++ [-63]).length : Int))))), (ht, ob 6 ft), (hb, ar 160 T), (hc, ar 160 (wrL C x (tl ++ [-63])))]) (by simp only [wrL_app, wrL, List.length_append, List.length_singleton, Int.natCast_add, Int.natCast_one, Int.add_assoc, List.append_assoc]) ?_
    refine S_if_eq (tgt := 44) X dX2_sumBehindCondition_20 (by decide) (by decide) (fun h9 => absurd h9 (by decide)) (fun _ => ?_)
    refine S_aload_n X dX2_sumBehindCondition_23 rfl rfl ?_
    refine S_iconst X dX2_sumBehindCondition_24 ?_
    refine S_calli X ((law_sum l) h0 ht hb f ft T n (sk T n a + 1) w (x + ((tl ++ [-63]).length : Int)) hc (wrL C x (tl ++ [-63])) 0 hf0 hf1 hf2 hf3 (by omega) (by omega) (by (try simp only [List.length_append, List.length_singleton, Int.natCast_add, Int.natCast_one]); omega) (by omega) (by omega)) (is := [0, 1, 2, 3]) rfl (run_V X lkX2_50 0 rfl rfl (is := [0, 1, 2, 3]) (avs := [iv 0]) (rest := []) rfl rfl (nle rfl) ⟨nle rfl, nle rfl⟩ ⟨nle rfl, nle rfl⟩ dX2_sumBehindCondition_25 (by decide) rfl) (fun z_25 u_23 hp_24 => ?_)
    rcases hp_24 with ⟨a2_26, fl_27, x2_28, C2_29, hz_30, hu_31, hq_32⟩ | ⟨a2_33, ts_34, hz_35, hu_36, hq_37⟩
    ·
      subst hz_30
      subst hu_31
      refine ⟨rfl, ?_⟩
      refine S_w (ws' := [(h0, ob 2 (uF (uF (uF f 1 (iv a2_26)) 2 (iv fl_27)) 4 (iv x2_28))), (ht, ob 6 ft), (hb, ar 160 T), (hc, ar 160 C2_29)]) rfl ?_
      refine S_if_eq (tgt := 44) X dX2_sumBehindCondition_28 (by decide) (by decide) (fun _ => ?_) (fun h9 => absurd h9 (by decide))
      refine S_iconst X dX2_sumBehindCondition_44 ?_
      exact S_zret X (Or.inl rfl) (nle rfl) (nle rfl) dX2_sumBehindCondition_45 (hPo _ _ (Or.inl ⟨_, _, _, _, rfl, rfl, sumB_f hq_9 hq_32⟩))
    ·
      subst hz_35
      subst hu_36
      refine ⟨rfl, ?_⟩
      refine S_w (ws' := [(h0, ob 2 (uF (uF (uF f 1 (iv a2_33)) 2 (iv w)) 4 (iv ((x + ((tl ++ [-63]).length : Int)) + (ts_34.length : Int))))), (ht, ob 6 ft), (hb, ar 160 T), (hc, ar 160 (wrL (wrL C x (tl ++ [-63])) (x + ((tl ++ [-63]).length : Int)) ts_34))]) rfl ?_
      refine S_w (ws' := [(h0, ob 2 (uF (uF (uF f 1 (iv a2_33)) 2 (iv w)) 4 (iv (x + ((tl ++ [-63] ++ ts_34).length : Int))))), (ht, ob 6 ft), (hb, ar 160 T), (hc, ar 160 (wrL C x (tl ++ [-63] ++ ts_34)))]) (by simp only [wrL_app, wrL, List.length_append, List.length_singleton, Int.natCast_add, Int.natCast_one, Int.add_assoc, List.append_assoc]) ?_
      have ho_39 := ((pAS_ok (T := T) hn1 6).2 (sk T n a + 1) (by omega) (by omega)).2 _ hq_37
      dsimp only at ho_39
      refine S_if_eq (tgt := 44) X dX2_sumBehindCondition_28 (by decide) (by decide) (fun h9 => absurd h9 (by decide)) (fun _ => ?_)
      refine S_aload_n X dX2_sumBehindCondition_31 rfl rfl ?_
      refine S_bipush X dX2_sumBehindCondition_32 rfl ?_
      refine S_calli X (kX2_emit l h0 f a2_33 w (x + ((tl ++ [-63] ++ ts_34).length : Int)) hc (wrL C x (tl ++ [-63] ++ ts_34)) (-59) hf3 (by (try simp only [List.length_append, List.length_singleton, Int.natCast_add, Int.natCast_one]); omega)) (is := [0, 3]) rfl (run_V X lkX2_56 0 rfl rfl (is := [0, 3]) (avs := [iv (-59)]) (rest := []) rfl rfl (nle rfl) ⟨nle rfl, nle rfl⟩ ⟨nle rfl, nle rfl⟩ dX2_sumBehindCondition_34 (by decide) rfl) (fun z_43 u_41 hp_42 => ?_)
      obtain ⟨hz_44, hu_45⟩ := hp_42
      subst hz_44
      subst hu_45
      refine ⟨rfl, ?_⟩
      refine S_w (ws' := [(h0, ob 2 (uF (uF (uF f 1 (iv a2_33)) 2 (iv w)) 4 (iv ((x + ((tl ++ [-63] ++ ts_34).length : Int)) + 1)))), (ht, ob 6 ft), (hb, ar 160 T), (hc, ar 160 (uZ (wrL C x (tl ++ [-63] ++ ts_34)) (x + ((tl ++ [-63] ++ ts_34).length : Int)) (-59)))]) rfl ?_
      refine S_w (ws' := [(h0, ob 2 (uF (uF (uF f 1 (iv a2_33)) 2 (iv w)) 4 (iv (x + ((tl ++ [-63] ++ ts_34 ++ [-59]).length : Int))))), (ht, ob 6 ft), (hb, ar 160 T), (hc, ar 160 (wrL C x (tl ++ [-63] ++ ts_34 ++ [-59])))]) (by simp only [wrL_app, wrL, List.length_append, List.length_singleton, Int.natCast_add, Int.natCast_one, Int.add_assoc, List.append_assoc]) ?_
      refine S_if_eq (tgt := 44) X dX2_sumBehindCondition_37 (by decide) (by decide) (fun h9 => absurd h9 (by decide)) (fun _ => ?_)
      refine S_iconst X dX2_sumBehindCondition_40 ?_
      refine S_goto (tgt := 45) X dX2_sumBehindCondition_41 (by decide) ?_
      exact S_zret X (Or.inr rfl) (nle rfl) (nle rfl) dX2_sumBehindCondition_45 (hPo _ _ (Or.inr ⟨_, tl ++ [-63] ++ ts_34 ++ [-59], rfl, rfl, sumB_r hq_9 hq_37⟩))
set_option maxHeartbeats 4000000 in
set_option maxRecDepth 100000 in
theorem kX2_readClause (l : Launch) (h0 : Nat) (ht : Nat) (hb : Nat) (f : Nat → AV) (ft : Nat → AV) (T : Int → Int) (n : Int) (a : Int) (w : Int) (x : Int) (hc : Nat) (C : Int → Int) (hf0 : f 0 = rv ht) (hf1 : ft 0 = rv hb) (hf2 : ft 1 = iv n) (hf3 : f 3 = rv hc) (hT : okT T n) (ha : 0 ≤ a ∧ a ≤ n) (hx : 0 ≤ x ∧ x ≤ a) : AMi l yX2_readClause cX2_readClause 2 .boolean 30 0 0 [rv h0] [(h0, ob 2 (uF (uF (uF f 1 (iv a)) 2 (iv w)) 4 (iv x))), (ht, ob 6 ft), (hb, ar 160 T), (hc, ar 160 C)] (fun z u => (∃ a2 : Int, ∃ fl : Int, ∃ x2 : Int, ∃ C2 : Int → Int, z = 0 ∧ u = [(h0, ob 2 (uF (uF (uF f 1 (iv a2)) 2 (iv fl)) 4 (iv x2))), (ht, ob 6 ft), (hb, ar 160 T), (hc, ar 160 C2)] ∧ pLawC T n a = .inl fl) ∨ (∃ a2 : Int, ∃ ts : List Int, z = 1 ∧ u = [(h0, ob 2 (uF (uF (uF f 1 (iv a2)) 2 (iv w)) 4 (iv (x + (ts.length : Int))))), (ht, ob 6 ft), (hb, ar 160 T), (hc, ar 160 (wrL C x ts))] ∧ pLawC T n a = .inr (a2, ts))) := by
  refine AMi.of2 rfl (nle rfl) ?_
  intro D G A p e s m args below meth c Po hPo X
  obtain ⟨hn0, hn1, hT2⟩ := id hT
  have hsk := sk_in (T := T) ha.2
  have hch := ch_in (a := sk T n a) hT (by omega)
  refine S_aload_n X dX2_readClause_0 rfl rfl ?_
  refine S_bipush X dX2_readClause_1 rfl ?_
  refine S_calli X (kX5_take_2 l h0 ht hb f ft T n a w x 121 hf0 hf1 hf2 (by omega) (by omega) (by omega)) (is := [0, 1, 2]) rfl (run_U X lkX2_32_2 0 rfl rfl (is := [0, 1, 2]) (avs := [iv 121]) (rest := []) rfl rfl (nle rfl) ⟨nle rfl, nle rfl⟩ ⟨nle rfl, nle rfl⟩ dX2_readClause_3 (by decide) rfl) (fun z_3 u_1 hp_2 => ?_)
  rcases hp_2 with ⟨hz_4, hu_5, hq_6⟩ | ⟨hz_7, hu_8, hq_9⟩
  ·
    subst hz_4
    subst hu_5
    refine ⟨rfl, ?_⟩
    refine S_w (ws' := [(h0, ob 2 (uF (uF (uF f 1 (iv (sk T n a))) 2 (iv w)) 4 (iv x))), (ht, ob 6 ft), (hb, ar 160 T), (hc, ar 160 C)]) rfl ?_
    refine S_if_eq (tgt := 18) X dX2_readClause_6 (by decide) (by decide) (fun _ => ?_) (fun h9 => absurd h9 (by decide))
    refine S_aload_n X dX2_readClause_18 rfl rfl ?_
    refine S_calli X (kX5_fail_2 l h0 ht hb f ft T n (sk T n a) w x hf0 hf1 hf2) (is := [0, 1, 2]) rfl (run_U X lkX2_36_2 0 rfl rfl (is := [0, 1, 2]) (avs := []) (rest := []) rfl rfl (nle rfl) ⟨nle rfl, nle rfl⟩ ⟨nle rfl, nle rfl⟩ dX2_readClause_19 (by decide) rfl) (fun z_13 u_11 hp_12 => ?_)
    obtain ⟨hz_14, hu_15⟩ := hp_12
    subst hz_14
    subst hu_15
    refine ⟨rfl, ?_⟩
    refine S_w (ws' := [(h0, ob 2 (uF (uF (uF f 1 (iv (sk T n a))) 2 (iv (sk T n a))) 4 (iv x))), (ht, ob 6 ft), (hb, ar 160 T), (hc, ar 160 C)]) rfl ?_
    exact S_zret X (Or.inl rfl) (nle rfl) (nle rfl) dX2_readClause_22 (hPo _ _ (Or.inl ⟨_, _, _, _, rfl, rfl, lc_y hq_6⟩))
  ·
    subst hz_7
    subst hu_8
    refine ⟨rfl, ?_⟩
    refine S_w (ws' := [(h0, ob 2 (uF (uF (uF f 1 (iv (sk T n a + 1))) 2 (iv w)) 4 (iv x))), (ht, ob 6 ft), (hb, ar 160 T), (hc, ar 160 C)]) rfl ?_
    have hlt1 : sk T n a < n := ch_lt (T := T) (by omega)
    have hsk2 := sk_in (T := T) (n := n) (a := sk T n a + 1) (by omega)
    refine S_if_eq (tgt := 18) X dX2_readClause_6 (by decide) (by decide) (fun h9 => absurd h9 (by decide)) (fun _ => ?_)
    refine S_aload_n X dX2_readClause_9 rfl rfl ?_
    refine S_bipush X dX2_readClause_10 rfl ?_
    refine S_calli X (kX5_take_2 l h0 ht hb f ft T n (sk T n a + 1) w x 58 hf0 hf1 hf2 (by omega) (by omega) (by omega)) (is := [0, 1, 2]) rfl (run_U X lkX2_32_2 0 rfl rfl (is := [0, 1, 2]) (avs := [iv 58]) (rest := []) rfl rfl (nle rfl) ⟨nle rfl, nle rfl⟩ ⟨nle rfl, nle rfl⟩ dX2_readClause_12 (by decide) rfl) (fun z_19 u_17 hp_18 => ?_)
    rcases hp_18 with ⟨hz_20, hu_21, hq_22⟩ | ⟨hz_23, hu_24, hq_25⟩
    ·
      subst hz_20
      subst hu_21
      refine ⟨rfl, ?_⟩
      refine S_w (ws' := [(h0, ob 2 (uF (uF (uF f 1 (iv (sk T n (sk T n a + 1)))) 2 (iv w)) 4 (iv x))), (ht, ob 6 ft), (hb, ar 160 T), (hc, ar 160 C)]) rfl ?_
      refine S_if_ne (tgt := 23) X dX2_readClause_15 (by decide) (by decide) (fun h9 => absurd h9 (by decide)) (fun _ => ?_)
      refine S_aload_n X dX2_readClause_18 rfl rfl ?_
      refine S_calli X (kX5_fail_2 l h0 ht hb f ft T n (sk T n (sk T n a + 1)) w x hf0 hf1 hf2) (is := [0, 1, 2]) rfl (run_U X lkX2_36_2 0 rfl rfl (is := [0, 1, 2]) (avs := []) (rest := []) rfl rfl (nle rfl) ⟨nle rfl, nle rfl⟩ ⟨nle rfl, nle rfl⟩ dX2_readClause_19 (by decide) rfl) (fun z_29 u_27 hp_28 => ?_)
      obtain ⟨hz_30, hu_31⟩ := hp_28
      subst hz_30
      subst hu_31
      refine ⟨rfl, ?_⟩
      refine S_w (ws' := [(h0, ob 2 (uF (uF (uF f 1 (iv (sk T n (sk T n a + 1)))) 2 (iv (sk T n (sk T n a + 1)))) 4 (iv x))), (ht, ob 6 ft), (hb, ar 160 T), (hc, ar 160 C)]) rfl ?_
      exact S_zret X (Or.inl rfl) (nle rfl) (nle rfl) dX2_readClause_22 (hPo _ _ (Or.inl ⟨_, _, _, _, rfl, rfl, lc_c hq_9 hq_22⟩))
    ·
      subst hz_23
      subst hu_24
      refine ⟨rfl, ?_⟩
      refine S_w (ws' := [(h0, ob 2 (uF (uF (uF f 1 (iv (sk T n (sk T n a + 1) + 1))) 2 (iv w)) 4 (iv x))), (ht, ob 6 ft), (hb, ar 160 T), (hc, ar 160 C)]) rfl ?_
      have hlt2 : sk T n (sk T n a + 1) < n := ch_lt (T := T) (by omega)
      have hsk3 := sk_in (T := T) (n := n) (a := sk T n (sk T n a + 1) + 1) (by omega)
      have hch3 := ch_in (a := (sk T n (sk T n (sk T n a + 1) + 1))) hT (by omega)
      refine S_if_ne (tgt := 23) X dX2_readClause_15 (by decide) (by decide) (fun _ => ?_) (fun h9 => absurd h9 (by decide))
      refine S_aload_n X dX2_readClause_23 rfl rfl ?_
      refine S_calli X (kX5_peek_2 l h0 ht hb f ft T n (sk T n (sk T n a + 1) + 1) w x hf0 hf1 hf2 (by omega) (by omega)) (is := [0, 1, 2]) rfl (run_U X lkX2_40_2 0 rfl rfl (is := [0, 1, 2]) (avs := []) (rest := []) rfl rfl (nle rfl) ⟨nle rfl, nle rfl⟩ ⟨nle rfl, nle rfl⟩ dX2_readClause_24 (by decide) rfl) (fun z_35 u_33 hp_34 => ?_)
      obtain ⟨hz_36, hu_37⟩ := hp_34
      subst hz_36
      subst hu_37
      refine ⟨rfl, ?_⟩
      refine S_w (ws' := [(h0, ob 2 (uF (uF (uF f 1 (iv (sk T n (sk T n (sk T n a + 1) + 1)))) 2 (iv w)) 4 (iv x))), (ht, ob 6 ft), (hb, ar 160 T), (hc, ar 160 C)]) rfl ?_
      refine S_istore_n X dX2_readClause_27 rfl (nle rfl) ?_
      refine S_iload_n X dX2_readClause_28 rfl rfl ?_
      refine S_bipush X dX2_readClause_29 rfl ?_
      refine S_icmp_eq (tgt := 40) X dX2_readClause_31 (by decide) (by omega) (by decide) (fun c_38 => ?_) (fun c_38 => ?_)
      ·
        refine S_aload_n X dX2_readClause_40 rfl rfl ?_
        refine S_iconst X dX2_readClause_41 ?_
        refine S_calli X ((law_cond l) h0 ht hb f ft T n (sk T n (sk T n (sk T n a + 1) + 1)) w x hc C 0 hf0 hf1 hf2 hf3 (by omega) (by omega) (by (try simp only [List.length_append, List.length_singleton, Int.natCast_add, Int.natCast_one]); omega) (by omega) (by omega)) (is := [0, 1, 2, 3]) rfl (run_V X lkX2_44 0 rfl rfl (is := [0, 1, 2, 3]) (avs := [iv 0]) (rest := []) rfl rfl (nle rfl) ⟨nle rfl, nle rfl⟩ ⟨nle rfl, nle rfl⟩ dX2_readClause_42 (by decide) rfl) (fun z_41 u_39 hp_40 => ?_)
        rcases hp_40 with ⟨a2_42, fl_43, x2_44, C2_45, hz_46, hu_47, hq_48⟩ | ⟨a2_49, ts_50, hz_51, hu_52, hq_53⟩
        ·
          subst hz_46
          subst hu_47
          refine ⟨rfl, ?_⟩
          refine S_w (ws' := [(h0, ob 2 (uF (uF (uF f 1 (iv a2_42)) 2 (iv fl_43)) 4 (iv x2_44))), (ht, ob 6 ft), (hb, ar 160 T), (hc, ar 160 C2_45)]) rfl ?_
          refine S_if_eq (tgt := 59) X dX2_readClause_45 (by decide) (by decide) (fun _ => ?_) (fun h9 => absurd h9 (by decide))
          refine S_iconst X dX2_readClause_59 ?_
          exact S_zret X (Or.inl rfl) (nle rfl) (nle rfl) dX2_readClause_60 (hPo _ _ (Or.inl ⟨_, _, _, _, rfl, rfl, lc_kf hq_9 hq_25  (by omega) hq_48⟩))
        ·
          subst hz_51
          subst hu_52
          refine ⟨rfl, ?_⟩
          refine S_w (ws' := [(h0, ob 2 (uF (uF (uF f 1 (iv a2_49)) 2 (iv w)) 4 (iv (x + (ts_50.length : Int))))), (ht, ob 6 ft), (hb, ar 160 T), (hc, ar 160 (wrL C x ts_50))]) rfl ?_
          refine S_w (ws' := [(h0, ob 2 (uF (uF (uF f 1 (iv a2_49)) 2 (iv w)) 4 (iv (x + ((ts_50).length : Int))))), (ht, ob 6 ft), (hb, ar 160 T), (hc, ar 160 (wrL C x (ts_50)))]) (by simp only [wrL_app, wrL, List.length_append, List.length_singleton, Int.natCast_add, Int.natCast_one, Int.add_assoc, List.append_assoc]) ?_
          have ho_55 := (pCond_ok (T := T) hn1 6 (sk T n (sk T n (sk T n a + 1) + 1)) (by omega) (by omega)).2 _ hq_53
          dsimp only at ho_55
          refine S_if_eq (tgt := 59) X dX2_readClause_45 (by decide) (by decide) (fun h9 => absurd h9 (by decide)) (fun _ => ?_)
          refine S_aload_n X dX2_readClause_48 rfl rfl ?_
          refine S_calli X (kX2_sumBehindCondition l h0 ht hb f ft T n a2_49 w x hc C ts_50 hf0 hf1 hf2 hf3 (by omega) (by omega) (by (try simp only [List.length_append, List.length_singleton, Int.natCast_add, Int.natCast_one]); omega)) (is := [0, 1, 2, 3]) rfl (run_V X lkX2_47 0 rfl rfl (is := [0, 1, 2, 3]) (avs := []) (rest := []) rfl rfl (nle rfl) ⟨nle rfl, nle rfl⟩ ⟨nle rfl, nle rfl⟩ dX2_readClause_49 (by decide) rfl) (fun z_59 u_57 hp_58 => ?_)
          rcases hp_58 with ⟨a2_60, fl_61, x2_62, C2_63, hz_64, hu_65, hq_66⟩ | ⟨a2_67, ts_68, hz_69, hu_70, hq_71⟩
          ·
            subst hz_64
            subst hu_65
            refine ⟨rfl, ?_⟩
            refine S_w (ws' := [(h0, ob 2 (uF (uF (uF f 1 (iv a2_60)) 2 (iv fl_61)) 4 (iv x2_62))), (ht, ob 6 ft), (hb, ar 160 T), (hc, ar 160 C2_63)]) rfl ?_
            refine S_if_eq (tgt := 59) X dX2_readClause_52 (by decide) (by decide) (fun _ => ?_) (fun h9 => absurd h9 (by decide))
            refine S_iconst X dX2_readClause_59 ?_
            exact S_zret X (Or.inl rfl) (nle rfl) (nle rfl) dX2_readClause_60 (hPo _ _ (Or.inl ⟨_, _, _, _, rfl, rfl, (lc_k hq_9 hq_25  (by omega) hq_53).trans hq_66⟩))
          ·
            subst hz_69
            subst hu_70
            refine ⟨rfl, ?_⟩
            refine S_w (ws' := [(h0, ob 2 (uF (uF (uF f 1 (iv a2_67)) 2 (iv w)) 4 (iv (x + ((ts_68).length : Int))))), (ht, ob 6 ft), (hb, ar 160 T), (hc, ar 160 (wrL C x (ts_68)))]) rfl ?_
            refine S_if_eq (tgt := 59) X dX2_readClause_52 (by decide) (by decide) (fun h9 => absurd h9 (by decide)) (fun _ => ?_)
            refine S_iconst X dX2_readClause_55 ?_
            refine S_goto (tgt := 60) X dX2_readClause_56 (by decide) ?_
            exact S_zret X (Or.inr rfl) (nle rfl) (nle rfl) dX2_readClause_60 (hPo _ _ (Or.inr ⟨_, ts_68, rfl, rfl, (lc_k hq_9 hq_25  (by omega) hq_53).trans hq_71⟩))
      ·
        refine S_iload_n X dX2_readClause_34 rfl rfl ?_
        refine S_bipush X dX2_readClause_35 rfl ?_
        refine S_icmp_ne (tgt := 61) X dX2_readClause_37 (by decide) (by omega) (by decide) (fun c_74 => ?_) (fun c_74 => ?_)
        ·
          refine S_aload_n X dX2_readClause_61 rfl rfl ?_
          refine S_iconst X dX2_readClause_62 ?_
          refine S_calli X ((law_sum l) h0 ht hb f ft T n (sk T n (sk T n (sk T n a + 1) + 1)) w x hc C 0 hf0 hf1 hf2 hf3 (by omega) (by omega) (by (try simp only [List.length_append, List.length_singleton, Int.natCast_add, Int.natCast_one]); omega) (by omega) (by omega)) (is := [0, 1, 2, 3]) rfl (run_V X lkX2_50 0 rfl rfl (is := [0, 1, 2, 3]) (avs := [iv 0]) (rest := []) rfl rfl (nle rfl) ⟨nle rfl, nle rfl⟩ ⟨nle rfl, nle rfl⟩ dX2_readClause_63 (by decide) rfl) (fun z_77 u_75 hp_76 => ?_)
          rcases hp_76 with ⟨a2_78, fl_79, x2_80, C2_81, hz_82, hu_83, hq_84⟩ | ⟨a2_85, ts_86, hz_87, hu_88, hq_89⟩
          ·
            subst hz_82
            subst hu_83
            refine ⟨rfl, ?_⟩
            refine S_w (ws' := [(h0, ob 2 (uF (uF (uF f 1 (iv a2_78)) 2 (iv fl_79)) 4 (iv x2_80))), (ht, ob 6 ft), (hb, ar 160 T), (hc, ar 160 C2_81)]) rfl ?_
            refine S_if_ne (tgt := 71) X dX2_readClause_66 (by decide) (by decide) (fun h9 => absurd h9 (by decide)) (fun _ => ?_)
            refine S_iconst X dX2_readClause_69 ?_
            exact S_zret X (Or.inl rfl) (nle rfl) (nle rfl) dX2_readClause_70 (hPo _ _ (Or.inl ⟨_, _, _, _, rfl, rfl, lc_sf hq_9 hq_25  (by omega) hq_84⟩))
          ·
            subst hz_87
            subst hu_88
            refine ⟨rfl, ?_⟩
            refine S_w (ws' := [(h0, ob 2 (uF (uF (uF f 1 (iv a2_85)) 2 (iv w)) 4 (iv (x + (ts_86.length : Int))))), (ht, ob 6 ft), (hb, ar 160 T), (hc, ar 160 (wrL C x ts_86))]) rfl ?_
            refine S_w (ws' := [(h0, ob 2 (uF (uF (uF f 1 (iv a2_85)) 2 (iv w)) 4 (iv (x + ((ts_86).length : Int))))), (ht, ob 6 ft), (hb, ar 160 T), (hc, ar 160 (wrL C x (ts_86)))]) (by simp only [wrL_app, wrL, List.length_append, List.length_singleton, Int.natCast_add, Int.natCast_one, Int.add_assoc, List.append_assoc]) ?_
            have ho_91 := ((pAS_ok (T := T) hn1 6).2 (sk T n (sk T n (sk T n a + 1) + 1)) (by omega) (by omega)).2 _ hq_89
            dsimp only at ho_91
            have hsk4 := sk_in (T := T) (n := n) (a := a2_85) (by omega)
            have hch4 := ch_in (a := sk T n a2_85) hT (by omega)
            refine S_if_ne (tgt := 71) X dX2_readClause_66 (by decide) (by decide) (fun _ => ?_) (fun h9 => absurd h9 (by decide))
            refine S_aload_n X dX2_readClause_71 rfl rfl ?_
            refine S_calli X (kX5_peek_2 l h0 ht hb f ft T n a2_85 w (x + ((ts_86).length : Int)) hf0 hf1 hf2 (by omega) (by omega)) (is := [0, 1, 2]) rfl (run_U X lkX2_40_2 0 rfl rfl (is := [0, 1, 2]) (avs := []) (rest := []) rfl rfl (nle rfl) ⟨nle rfl, nle rfl⟩ ⟨nle rfl, nle rfl⟩ dX2_readClause_72 (by decide) rfl) (fun z_95 u_93 hp_94 => ?_)
            obtain ⟨hz_96, hu_97⟩ := hp_94
            subst hz_96
            subst hu_97
            refine ⟨rfl, ?_⟩
            refine S_w (ws' := [(h0, ob 2 (uF (uF (uF f 1 (iv (sk T n a2_85))) 2 (iv w)) 4 (iv (x + ((ts_86).length : Int))))), (ht, ob 6 ft), (hb, ar 160 T), (hc, ar 160 (wrL C x (ts_86)))]) rfl ?_
            refine S_calli X (kX2_isComparison l (ch T n (sk T n a2_85)) (by omega)) (is := []) rfl (run_S X lkX2_53 (is := []) (avs := [iv (ch T n (sk T n a2_85))]) (rest := []) rfl rfl (nle rfl) ⟨nle rfl, nle rfl⟩ ⟨nle rfl, nle rfl⟩ dX2_readClause_75 (by decide) rfl) (fun z_100 u_98 hp_99 => ?_)
            rcases hp_99 with ⟨hz_101, hu_102, hq_103⟩ | ⟨hz_104, hu_105, hq_106⟩
            ·
              subst hz_101
              subst hu_102
              refine ⟨rfl, ?_⟩
              refine S_w (ws' := [(h0, ob 2 (uF (uF (uF f 1 (iv (sk T n a2_85))) 2 (iv w)) 4 (iv (x + ((ts_86).length : Int))))), (ht, ob 6 ft), (hb, ar 160 T), (hc, ar 160 (wrL C x (ts_86)))]) rfl ?_
              refine S_if_ne (tgt := 88) X dX2_readClause_78 (by decide) (by decide) (fun h9 => absurd h9 (by decide)) (fun _ => ?_)
              refine S_aload_n X dX2_readClause_81 rfl rfl ?_
              refine S_bipush X dX2_readClause_82 rfl ?_
              refine S_calli X (kX2_emit l h0 f (sk T n a2_85) w (x + ((ts_86).length : Int)) hc (wrL C x (ts_86)) (-59) hf3 (by (try simp only [List.length_append, List.length_singleton, Int.natCast_add, Int.natCast_one]); omega)) (is := [0, 3]) rfl (run_V X lkX2_56 0 rfl rfl (is := [0, 3]) (avs := [iv (-59)]) (rest := []) rfl rfl (nle rfl) ⟨nle rfl, nle rfl⟩ ⟨nle rfl, nle rfl⟩ dX2_readClause_84 (by decide) rfl) (fun z_110 u_108 hp_109 => ?_)
              obtain ⟨hz_111, hu_112⟩ := hp_109
              subst hz_111
              subst hu_112
              refine ⟨rfl, ?_⟩
              refine S_w (ws' := [(h0, ob 2 (uF (uF (uF f 1 (iv (sk T n a2_85))) 2 (iv w)) 4 (iv ((x + ((ts_86).length : Int)) + 1)))), (ht, ob 6 ft), (hb, ar 160 T), (hc, ar 160 (uZ (wrL C x (ts_86)) (x + ((ts_86).length : Int)) (-59)))]) rfl ?_
              refine S_w (ws' := [(h0, ob 2 (uF (uF (uF f 1 (iv (sk T n a2_85))) 2 (iv w)) 4 (iv (x + ((ts_86 ++ [-59]).length : Int))))), (ht, ob 6 ft), (hb, ar 160 T), (hc, ar 160 (wrL C x (ts_86 ++ [-59])))]) (by simp only [wrL_app, wrL, List.length_append, List.length_singleton, Int.natCast_add, Int.natCast_one, Int.add_assoc, List.append_assoc]) ?_
              exact S_zret X (Or.inr rfl) (nle rfl) (nle rfl) dX2_readClause_87 (hPo _ _ (Or.inr ⟨_, ts_86 ++ [-59], rfl, rfl, lc_s hq_9 hq_25  (by omega) hq_89 (by assumption)⟩))
            ·
              subst hz_104
              subst hu_105
              refine ⟨rfl, ?_⟩
              refine S_w (ws' := [(h0, ob 2 (uF (uF (uF f 1 (iv (sk T n a2_85))) 2 (iv w)) 4 (iv (x + ((ts_86).length : Int))))), (ht, ob 6 ft), (hb, ar 160 T), (hc, ar 160 (wrL C x (ts_86)))]) rfl ?_
              refine S_if_ne (tgt := 88) X dX2_readClause_78 (by decide) (by decide) (fun _ => ?_) (fun h9 => absurd h9 (by decide))
              refine S_aload_n X dX2_readClause_88 rfl rfl ?_
              refine S_iconst X dX2_readClause_89 ?_
              refine S_calli X ((law_cm6 l) h0 ht hb f ft T n (sk T n a2_85) w (x + ((ts_86).length : Int)) hc (wrL C x (ts_86)) 0 hf0 hf1 hf2 hf3 (by omega) (by omega) (by (try simp only [List.length_append, List.length_singleton, Int.natCast_add, Int.natCast_one]); omega) (by omega) (by omega)) (is := [0, 1, 2, 3]) rfl (run_V X lkX2_59 0 rfl rfl (is := [0, 1, 2, 3]) (avs := [iv 0]) (rest := []) rfl rfl (nle rfl) ⟨nle rfl, nle rfl⟩ ⟨nle rfl, nle rfl⟩ dX2_readClause_90 (by decide) rfl) (fun z_116 u_114 hp_115 => ?_)
              rcases hp_115 with ⟨a2_117, fl_118, x2_119, C2_120, hz_121, hu_122, hq_123⟩ | ⟨a2_124, ts_125, hz_126, hu_127, hq_128⟩
              ·
                subst hz_121
                subst hu_122
                refine ⟨rfl, ?_⟩
                refine S_w (ws' := [(h0, ob 2 (uF (uF (uF f 1 (iv a2_117)) 2 (iv fl_118)) 4 (iv x2_119))), (ht, ob 6 ft), (hb, ar 160 T), (hc, ar 160 C2_120)]) rfl ?_
                refine S_if_eq (tgt := 115) X dX2_readClause_93 (by decide) (by decide) (fun _ => ?_) (fun h9 => absurd h9 (by decide))
                refine S_iconst X dX2_readClause_115 ?_
                exact S_zret X (Or.inl rfl) (nle rfl) (nle rfl) dX2_readClause_116 (hPo _ _ (Or.inl ⟨_, _, _, _, rfl, rfl, (lc_q hq_9 hq_25  (by omega) hq_89 (by assumption)).trans (lc_qf hq_123)⟩))
              ·
                subst hz_126
                subst hu_127
                refine ⟨rfl, ?_⟩
                refine S_w (ws' := [(h0, ob 2 (uF (uF (uF f 1 (iv a2_124)) 2 (iv w)) 4 (iv ((x + ((ts_86).length : Int)) + (ts_125.length : Int))))), (ht, ob 6 ft), (hb, ar 160 T), (hc, ar 160 (wrL (wrL C x (ts_86)) (x + ((ts_86).length : Int)) ts_125))]) rfl ?_
                refine S_w (ws' := [(h0, ob 2 (uF (uF (uF f 1 (iv a2_124)) 2 (iv w)) 4 (iv (x + ((ts_86 ++ ts_125).length : Int))))), (ht, ob 6 ft), (hb, ar 160 T), (hc, ar 160 (wrL C x (ts_86 ++ ts_125)))]) (by simp only [wrL_app, wrL, List.length_append, List.length_singleton, Int.natCast_add, Int.natCast_one, Int.add_assoc, List.append_assoc]) ?_
                have ho_130 := (cmpG_ok (T := T) hn1 6 (sk T n a2_85) (by omega) (by omega)).2 _ hq_128
                dsimp only at ho_130
                refine S_if_eq (tgt := 115) X dX2_readClause_93 (by decide) (by decide) (fun h9 => absurd h9 (by decide)) (fun _ => ?_)
                refine S_aload_n X dX2_readClause_96 rfl rfl ?_
                refine S_iconst X dX2_readClause_97 ?_
                refine S_calli X ((law_more l) h0 ht hb f ft T n a2_124 w x hc C 0 (ts_86 ++ ts_125) hf0 hf1 hf2 hf3 (by omega) (by omega) (by (try simp only [List.length_append, List.length_singleton, Int.natCast_add, Int.natCast_one]); omega) (by omega) (by omega)) (is := [0, 1, 2, 3]) rfl (run_V X lkX2_62 0 rfl rfl (is := [0, 1, 2, 3]) (avs := [iv 0]) (rest := []) rfl rfl (nle rfl) ⟨nle rfl, nle rfl⟩ ⟨nle rfl, nle rfl⟩ dX2_readClause_98 (by decide) rfl) (fun z_134 u_132 hp_133 => ?_)
                rcases hp_133 with ⟨a2_135, fl_136, x2_137, C2_138, hz_139, hu_140, hq_141⟩ | ⟨a2_142, ts_143, hz_144, hu_145, hq_146⟩
                ·
                  subst hz_139
                  subst hu_140
                  refine ⟨rfl, ?_⟩
                  refine S_w (ws' := [(h0, ob 2 (uF (uF (uF f 1 (iv a2_135)) 2 (iv fl_136)) 4 (iv x2_137))), (ht, ob 6 ft), (hb, ar 160 T), (hc, ar 160 C2_138)]) rfl ?_
                  refine S_if_eq (tgt := 115) X dX2_readClause_101 (by decide) (by decide) (fun _ => ?_) (fun h9 => absurd h9 (by decide))
                  refine S_iconst X dX2_readClause_115 ?_
                  exact S_zret X (Or.inl rfl) (nle rfl) (nle rfl) dX2_readClause_116 (hPo _ _ (Or.inl ⟨_, _, _, _, rfl, rfl, ((lc_q hq_9 hq_25  (by omega) hq_89 (by assumption)).trans (lc_qm hq_128)).trans (lc_mf hq_141)⟩))
                ·
                  subst hz_144
                  subst hu_145
                  refine ⟨rfl, ?_⟩
                  refine S_w (ws' := [(h0, ob 2 (uF (uF (uF f 1 (iv a2_142)) 2 (iv w)) 4 (iv (x + ((ts_143).length : Int))))), (ht, ob 6 ft), (hb, ar 160 T), (hc, ar 160 (wrL C x (ts_143)))]) rfl ?_
                  have ho_147 := (moreL_ok (T := T) (n := n) (a0 := (sk T n (sk T n (sk T n a + 1) + 1))) (pUnit_ok (T := T) hn1 6) (by omega) 161 false a2_124 (ts_86 ++ ts_125) (by omega) (by omega) (by simp only [List.length_append, Int.natCast_add, Bool.false_eq_true, if_false]; omega) (by simp only [List.length_append]; omega) (ok_app ho_91.2.2.2.2 ho_130.2.2.2.2)).2 _ hq_146
                  dsimp only at ho_147
                  refine S_if_eq (tgt := 115) X dX2_readClause_101 (by decide) (by decide) (fun h9 => absurd h9 (by decide)) (fun _ => ?_)
                  refine S_aload_n X dX2_readClause_104 rfl rfl ?_
                  refine S_calli X (kX2_sumBehindCondition l h0 ht hb f ft T n a2_142 w x hc C ts_143 hf0 hf1 hf2 hf3 (by omega) (by omega) (by (try simp only [List.length_append, List.length_singleton, Int.natCast_add, Int.natCast_one]); omega)) (is := [0, 1, 2, 3]) rfl (run_V X lkX2_47 0 rfl rfl (is := [0, 1, 2, 3]) (avs := []) (rest := []) rfl rfl (nle rfl) ⟨nle rfl, nle rfl⟩ ⟨nle rfl, nle rfl⟩ dX2_readClause_105 (by decide) rfl) (fun z_151 u_149 hp_150 => ?_)
                  rcases hp_150 with ⟨a2_152, fl_153, x2_154, C2_155, hz_156, hu_157, hq_158⟩ | ⟨a2_159, ts_160, hz_161, hu_162, hq_163⟩
                  ·
                    subst hz_156
                    subst hu_157
                    refine ⟨rfl, ?_⟩
                    refine S_w (ws' := [(h0, ob 2 (uF (uF (uF f 1 (iv a2_152)) 2 (iv fl_153)) 4 (iv x2_154))), (ht, ob 6 ft), (hb, ar 160 T), (hc, ar 160 C2_155)]) rfl ?_
                    refine S_if_eq (tgt := 115) X dX2_readClause_108 (by decide) (by decide) (fun _ => ?_) (fun h9 => absurd h9 (by decide))
                    refine S_iconst X dX2_readClause_115 ?_
                    exact S_zret X (Or.inl rfl) (nle rfl) (nle rfl) dX2_readClause_116 (hPo _ _ (Or.inl ⟨_, _, _, _, rfl, rfl, (((lc_q hq_9 hq_25  (by omega) hq_89 (by assumption)).trans (lc_qm hq_128)).trans (lc_m hq_146)).trans hq_158⟩))
                  ·
                    subst hz_161
                    subst hu_162
                    refine ⟨rfl, ?_⟩
                    refine S_w (ws' := [(h0, ob 2 (uF (uF (uF f 1 (iv a2_159)) 2 (iv w)) 4 (iv (x + ((ts_160).length : Int))))), (ht, ob 6 ft), (hb, ar 160 T), (hc, ar 160 (wrL C x (ts_160)))]) rfl ?_
                    refine S_if_eq (tgt := 115) X dX2_readClause_108 (by decide) (by decide) (fun h9 => absurd h9 (by decide)) (fun _ => ?_)
                    refine S_iconst X dX2_readClause_111 ?_
                    refine S_goto (tgt := 116) X dX2_readClause_112 (by decide) ?_
                    exact S_zret X (Or.inr rfl) (nle rfl) (nle rfl) dX2_readClause_116 (hPo _ _ (Or.inr ⟨_, ts_160, rfl, rfl, (((lc_q hq_9 hq_25  (by omega) hq_89 (by assumption)).trans (lc_qm hq_128)).trans (lc_m hq_146)).trans hq_163⟩))
        ·
          refine S_aload_n X dX2_readClause_40 rfl rfl ?_
          refine S_iconst X dX2_readClause_41 ?_
          refine S_calli X ((law_cond l) h0 ht hb f ft T n (sk T n (sk T n (sk T n a + 1) + 1)) w x hc C 0 hf0 hf1 hf2 hf3 (by omega) (by omega) (by (try simp only [List.length_append, List.length_singleton, Int.natCast_add, Int.natCast_one]); omega) (by omega) (by omega)) (is := [0, 1, 2, 3]) rfl (run_V X lkX2_44 0 rfl rfl (is := [0, 1, 2, 3]) (avs := [iv 0]) (rest := []) rfl rfl (nle rfl) ⟨nle rfl, nle rfl⟩ ⟨nle rfl, nle rfl⟩ dX2_readClause_42 (by decide) rfl) (fun z_168 u_166 hp_167 => ?_)
          rcases hp_167 with ⟨a2_169, fl_170, x2_171, C2_172, hz_173, hu_174, hq_175⟩ | ⟨a2_176, ts_177, hz_178, hu_179, hq_180⟩
          ·
            subst hz_173
            subst hu_174
            refine ⟨rfl, ?_⟩
            refine S_w (ws' := [(h0, ob 2 (uF (uF (uF f 1 (iv a2_169)) 2 (iv fl_170)) 4 (iv x2_171))), (ht, ob 6 ft), (hb, ar 160 T), (hc, ar 160 C2_172)]) rfl ?_
            refine S_if_eq (tgt := 59) X dX2_readClause_45 (by decide) (by decide) (fun _ => ?_) (fun h9 => absurd h9 (by decide))
            refine S_iconst X dX2_readClause_59 ?_
            exact S_zret X (Or.inl rfl) (nle rfl) (nle rfl) dX2_readClause_60 (hPo _ _ (Or.inl ⟨_, _, _, _, rfl, rfl, lc_kf hq_9 hq_25  (by omega) hq_175⟩))
          ·
            subst hz_178
            subst hu_179
            refine ⟨rfl, ?_⟩
            refine S_w (ws' := [(h0, ob 2 (uF (uF (uF f 1 (iv a2_176)) 2 (iv w)) 4 (iv (x + (ts_177.length : Int))))), (ht, ob 6 ft), (hb, ar 160 T), (hc, ar 160 (wrL C x ts_177))]) rfl ?_
            refine S_w (ws' := [(h0, ob 2 (uF (uF (uF f 1 (iv a2_176)) 2 (iv w)) 4 (iv (x + ((ts_177).length : Int))))), (ht, ob 6 ft), (hb, ar 160 T), (hc, ar 160 (wrL C x (ts_177)))]) (by simp only [wrL_app, wrL, List.length_append, List.length_singleton, Int.natCast_add, Int.natCast_one, Int.add_assoc, List.append_assoc]) ?_
            have ho_182 := (pCond_ok (T := T) hn1 6 (sk T n (sk T n (sk T n a + 1) + 1)) (by omega) (by omega)).2 _ hq_180
            dsimp only at ho_182
            refine S_if_eq (tgt := 59) X dX2_readClause_45 (by decide) (by decide) (fun h9 => absurd h9 (by decide)) (fun _ => ?_)
            refine S_aload_n X dX2_readClause_48 rfl rfl ?_
            refine S_calli X (kX2_sumBehindCondition l h0 ht hb f ft T n a2_176 w x hc C ts_177 hf0 hf1 hf2 hf3 (by omega) (by omega) (by (try simp only [List.length_append, List.length_singleton, Int.natCast_add, Int.natCast_one]); omega)) (is := [0, 1, 2, 3]) rfl (run_V X lkX2_47 0 rfl rfl (is := [0, 1, 2, 3]) (avs := []) (rest := []) rfl rfl (nle rfl) ⟨nle rfl, nle rfl⟩ ⟨nle rfl, nle rfl⟩ dX2_readClause_49 (by decide) rfl) (fun z_186 u_184 hp_185 => ?_)
            rcases hp_185 with ⟨a2_187, fl_188, x2_189, C2_190, hz_191, hu_192, hq_193⟩ | ⟨a2_194, ts_195, hz_196, hu_197, hq_198⟩
            ·
              subst hz_191
              subst hu_192
              refine ⟨rfl, ?_⟩
              refine S_w (ws' := [(h0, ob 2 (uF (uF (uF f 1 (iv a2_187)) 2 (iv fl_188)) 4 (iv x2_189))), (ht, ob 6 ft), (hb, ar 160 T), (hc, ar 160 C2_190)]) rfl ?_
              refine S_if_eq (tgt := 59) X dX2_readClause_52 (by decide) (by decide) (fun _ => ?_) (fun h9 => absurd h9 (by decide))
              refine S_iconst X dX2_readClause_59 ?_
              exact S_zret X (Or.inl rfl) (nle rfl) (nle rfl) dX2_readClause_60 (hPo _ _ (Or.inl ⟨_, _, _, _, rfl, rfl, (lc_k hq_9 hq_25  (by omega) hq_180).trans hq_193⟩))
            ·
              subst hz_196
              subst hu_197
              refine ⟨rfl, ?_⟩
              refine S_w (ws' := [(h0, ob 2 (uF (uF (uF f 1 (iv a2_194)) 2 (iv w)) 4 (iv (x + ((ts_195).length : Int))))), (ht, ob 6 ft), (hb, ar 160 T), (hc, ar 160 (wrL C x (ts_195)))]) rfl ?_
              refine S_if_eq (tgt := 59) X dX2_readClause_52 (by decide) (by decide) (fun h9 => absurd h9 (by decide)) (fun _ => ?_)
              refine S_iconst X dX2_readClause_55 ?_
              refine S_goto (tgt := 60) X dX2_readClause_56 (by decide) ?_
              exact S_zret X (Or.inr rfl) (nle rfl) (nle rfl) dX2_readClause_60 (hPo _ _ (Or.inr ⟨_, ts_195, rfl, rfl, (lc_k hq_9 hq_25  (by omega) hq_180).trans hq_198⟩))
set_option maxHeartbeats 4000000 in
set_option maxRecDepth 100000 in
theorem kX5_read_2 (l : Launch) (h0 : Nat) (ht : Nat) (hb : Nat) (f : Nat → AV) (ft : Nat → AV) (T : Int → Int) (n : Int) (a : Int) (w : Int) (x : Int) (hc : Nat) (C : Int → Int) (hf0 : f 0 = rv ht) (hf1 : ft 0 = rv hb) (hf2 : ft 1 = iv n) (hf3 : f 3 = rv hc) (hT : okT T n) : AMi l yX5_read cX5_read 3 .int 31 0 0 [rv h0] [(h0, ob 2 (uF (uF (uF f 1 (iv a)) 2 (iv w)) 4 (iv x))), (ht, ob 6 ft), (hb, ar 160 T), (hc, ar 160 C)] (fun z u => (∃ a2 : Int, ∃ fl : Int, ∃ x2 : Int, ∃ C2 : Int → Int, z = fl ∧ u = [(h0, ob 2 (uF (uF (uF f 1 (iv a2)) 2 (iv fl)) 4 (iv x2))), (ht, ob 6 ft), (hb, ar 160 T), (hc, ar 160 C2)] ∧ lwRes T n = .inl fl ∧ (0 ≤ fl ∧ fl ≤ 160)) ∨ (∃ a2 : Int, ∃ ts : List Int, z = -1 ∧ u = [(h0, ob 2 (uF (uF (uF f 1 (iv a2)) 2 (iv (-1))) 4 (iv (0 + ((ts).length : Int))))), (ht, ob 6 ft), (hb, ar 160 T), (hc, ar 160 (wrL C 0 (ts)))] ∧ lwRes T n = .inr ts ∧ (ts.length : Int) ≤ 160 ∧ (∀ t ∈ ts, -200 ≤ t ∧ t ≤ 9999))) := by
  refine AMi.of2 rfl (nle rfl) ?_
  intro D G A p e s m args below meth c Po hPo X
  obtain ⟨hn0, hn1, hT2⟩ := id hT
  refine S_aload_n X dX5_read_0 rfl rfl ?_
  refine S_iconst X dX5_read_1 ?_
  refine S_put X fpX5_15_2 0 rfl FT_i dX5_read_2 ?_
  refine S_w (ws' := [(h0, ob 2 (uF (uF (uF f 1 (iv 0)) 2 (iv w)) 4 (iv x))), (ht, ob 6 ft), (hb, ar 160 T), (hc, ar 160 C)]) (by simp only [List.set]; rw [uF_mv (j := 4) (k := 1) (by decide), uF_mv (j := 2) (k := 1) (by decide), uF_same (k := 1)]) ?_
  refine S_aload_n X dX5_read_5 rfl rfl ?_
  refine S_iconst X dX5_read_6 ?_
  refine S_put X fpX5_19_2 0 rfl FT_i dX5_read_7 ?_
  refine S_w (ws' := [(h0, ob 2 (uF (uF (uF f 1 (iv 0)) 2 (iv (-1))) 4 (iv x))), (ht, ob 6 ft), (hb, ar 160 T), (hc, ar 160 C)]) (by simp only [List.set]; rw [uF_mv (j := 4) (k := 2) (by decide), uF_same (k := 2)]) ?_
  refine S_aload_n X dX5_read_10 rfl rfl ?_
  refine S_callv X (kX2_clear l h0 f 0 (-1) x ) (is := [0]) rfl (run_A X lkX5_22_2 0 rfl rfl (is := [0]) (avs := []) (rest := []) rfl rfl (nle rfl) ⟨nle rfl, nle rfl⟩ ⟨nle rfl, nle rfl⟩ dX5_read_11 (by decide) rfl) (fun u_1 hp_2 => ?_)
  have hu_5 := hp_2
  subst hu_5
  refine ⟨rfl, ?_⟩
  refine S_w (ws' := [(h0, ob 2 (uF (uF (uF f 1 (iv 0)) 2 (iv (-1))) 4 (iv 0))), (ht, ob 6 ft), (hb, ar 160 T), (hc, ar 160 C)]) rfl ?_
  refine S_iconst X dX5_read_14 ?_
  refine S_istore_n X dX5_read_15 rfl (nle rfl) ?_
  refine S_iconst X dX5_read_16 ?_
  refine S_istore_n X dX5_read_17 rfl (nle rfl) ?_
  refine S_iload_n X dX5_read_18 rfl rfl ?_
  refine S_if_eq (tgt := 55) X dX5_read_19 (by decide) (by decide) (fun h9 => absurd h9 (by decide)) (fun _ => ?_)
  have lp22_0 : ∀ (N : Nat) (i : Int) (a1 : Int) (acc : List Int) (L : Nat → Option AV), 0 ≤ i ∧ i ≤ 161 ∧ 0 ≤ a1 ∧ a1 ≤ n → (acc.length : Int) ≤ a1 → (∀ t ∈ acc, -200 ≤ t ∧ t ≤ 9999) → (∀ z9, pLawL T n (161 - i.toNat) a1 acc = z9 → pLawL T n 161 0 [] = z9) → L 0 = some (rv h0) → L 1 = some (iv 1) → L 2 = some (iv i) → 162 - i < (N : Int) → S_ p l e (rmD 31 0 0) s m args below meth c (MQ below (QcI D G A Po) args s 0 0 A) D G A 3 0 0 22 L [] [(h0, ob 2 (uF (uF (uF f 1 (iv a1)) 2 (iv (-1))) 4 (iv (0 + ((acc).length : Int))))), (ht, ob 6 ft), (hb, ar 160 T), (hc, ar 160 (wrL C 0 (acc)))] := by
    intro N
    induction N with
    | zero =>
      intro i a1 acc L22 hi hbd hac hk hL22_0 hL22_1 hL22_2 hN22
      exfalso; omega
    | succ N ih22 =>
      intro i a1 acc L22 hi hbd hac hk hL22_0 hL22_1 hL22_2 hN22
      refine S_iload_n X dX5_read_22 rfl hL22_2 ?_
      refine S_sipush X dX5_read_23 rfl ?_
      refine S_icmp_gt (tgt := 55) X dX5_read_26 (by decide) (by omega) (by decide) (fun c_7 => ?_) (fun c_7 => ?_)
      ·
        refine S_aload_n X dX5_read_55 rfl hL22_0 ?_
        refine S_get (v := iv (-1)) X fgX5_19_2 0 rfl rfl dX5_read_56 ?_
        refine S_iconst X dX5_read_59 ?_
        refine S_icmp_ne (tgt := 81) X dX5_read_60 (by decide) (by decide) (by decide) (fun h9 => absurd h9 (by decide)) (fun _ => ?_)
        refine S_aload_n X dX5_read_63 rfl hL22_0 ?_
        refine S_calli X (kX2_isWhole l h0 ) (is := []) rfl (run_A X lkX5_34_2 0 rfl rfl (is := []) (avs := []) (rest := []) rfl rfl (nle rfl) ⟨nle rfl, nle rfl⟩ ⟨nle rfl, nle rfl⟩ dX5_read_64 (by decide) rfl) (fun z_11 u_9 hp_10 => ?_)
        obtain ⟨hz_12, hu_13⟩ := hp_10
        subst hz_12
        subst hu_13
        refine ⟨rfl, ?_⟩
        refine S_w (ws' := [(h0, ob 2 (uF (uF (uF f 1 (iv a1)) 2 (iv (-1))) 4 (iv (0 + ((acc).length : Int))))), (ht, ob 6 ft), (hb, ar 160 T), (hc, ar 160 (wrL C 0 (acc)))]) rfl ?_
        refine S_if_ne (tgt := 81) X dX5_read_67 (by decide) (by decide) (fun _ => ?_) (fun h9 => absurd h9 (by decide))
        refine S_aload_n X dX5_read_81 rfl hL22_0 ?_
        refine S_get (v := iv (-1)) X fgX5_19_2 0 rfl rfl dX5_read_82 ?_
        exact S_iret X (nle rfl) (nle rfl) dX5_read_85 (hPo _ _ (Or.inr ⟨_, acc, rfl, rfl, lwRes_r (hk (.inr (a1, acc)) (by rw [show 161 - i.toNat = 0 by omega]; rfl)), by omega, hac⟩))
      ·
        refine S_aload_n X dX5_read_29 rfl hL22_0 ?_
        refine S_calli X (kX2_readClause l h0 ht hb f ft T n a1 (-1) (0 + ((acc).length : Int)) hc (wrL C 0 (acc)) hf0 hf1 hf2 hf3 (by omega) (by omega) (by omega)) (is := [0, 1, 2, 3]) rfl (run_A X lkX5_27_2 0 rfl rfl (is := [0, 1, 2, 3]) (avs := []) (rest := []) rfl rfl (nle rfl) ⟨nle rfl, nle rfl⟩ ⟨nle rfl, nle rfl⟩ dX5_read_30 (by decide) rfl) (fun z_17 u_15 hp_16 => ?_)
        rcases hp_16 with ⟨a2_18, fl_19, x2_20, C2_21, hz_22, hu_23, hq_24⟩ | ⟨a2_25, ts_26, hz_27, hu_28, hq_29⟩
        ·
          subst hz_22
          subst hu_23
          refine ⟨rfl, ?_⟩
          refine S_w (ws' := [(h0, ob 2 (uF (uF (uF f 1 (iv a2_18)) 2 (iv fl_19)) 4 (iv x2_20))), (ht, ob 6 ft), (hb, ar 160 T), (hc, ar 160 C2_21)]) rfl ?_
          have hin := (pLawC_ok (T := T) hn1 (a := a1) (by omega) (by omega)).1 _ hq_24
          refine S_if_eq (tgt := 47) X dX5_read_33 (by decide) (by decide) (fun _ => ?_) (fun h9 => absurd h9 (by decide))
          refine S_iconst X dX5_read_47 ?_
          refine S_istore_n X dX5_read_48 rfl (nle rfl) ?_
          refine S_iinc X dX5_read_49 (nle rfl) hL22_2 ?_
          refine S_goto (tgt := 18) X dX5_read_52 (by decide) ?_
          refine S_iload_n X dX5_read_18 rfl rfl ?_
          refine S_if_eq (tgt := 55) X dX5_read_19 (by decide) (by decide) (fun _ => ?_) (fun h9 => absurd h9 (by decide))
          refine S_aload_n X dX5_read_55 rfl hL22_0 ?_
          refine S_get (v := iv fl_19) X fgX5_19_2 0 rfl rfl dX5_read_56 ?_
          refine S_iconst X dX5_read_59 ?_
          refine S_icmp_ne (tgt := 81) X dX5_read_60 (by decide) (by omega) (by decide) (fun c_32 => ?_) (fun c_32 => by exfalso; omega)
          refine S_aload_n X dX5_read_81 rfl hL22_0 ?_
          refine S_get (v := iv fl_19) X fgX5_19_2 0 rfl rfl dX5_read_82 ?_
          exact S_iret X (nle rfl) (nle rfl) dX5_read_85 (hPo _ _ (Or.inl ⟨_, _, _, _, rfl, rfl, lwRes_f (hk (.inl _) (by rw [fuel161 (by omega) (by omega)]; exact ll_f hq_24)), by omega⟩))
        ·
          subst hz_27
          subst hu_28
          refine ⟨rfl, ?_⟩
          refine S_w (ws' := [(h0, ob 2 (uF (uF (uF f 1 (iv a2_25)) 2 (iv (-1))) 4 (iv ((0 + ((acc).length : Int)) + (ts_26.length : Int))))), (ht, ob 6 ft), (hb, ar 160 T), (hc, ar 160 (wrL (wrL C 0 (acc)) (0 + ((acc).length : Int)) ts_26))]) rfl ?_
          refine S_w (ws' := [(h0, ob 2 (uF (uF (uF f 1 (iv a2_25)) 2 (iv (-1))) 4 (iv (0 + ((acc ++ ts_26).length : Int))))), (ht, ob 6 ft), (hb, ar 160 T), (hc, ar 160 (wrL C 0 (acc ++ ts_26)))]) (by simp only [wrL_app, wrL, List.length_append, List.length_singleton, Int.natCast_add, Int.natCast_one, Int.add_assoc, List.append_assoc, Int.zero_add]) ?_
          have hin := (pLawC_ok (T := T) hn1 (a := a1) (by omega) (by omega)).2 _ hq_29
          dsimp only at hin
          have hsk := sk_in (T := T) (n := n) hin.2.1
          refine S_if_eq (tgt := 47) X dX5_read_33 (by decide) (by decide) (fun h9 => absurd h9 (by decide)) (fun _ => ?_)
          refine S_aload_n X dX5_read_36 rfl hL22_0 ?_
          refine S_calli X (kX5_nextClause_2 l h0 ht hb f ft T n a2_25 (-1) (0 + ((acc ++ ts_26).length : Int)) hf0 hf1 hf2 (by omega) (by omega)) (is := [0, 1, 2]) rfl (run_U X lkX5_31_2 0 rfl rfl (is := [0, 1, 2]) (avs := []) (rest := []) rfl rfl (nle rfl) ⟨nle rfl, nle rfl⟩ ⟨nle rfl, nle rfl⟩ dX5_read_37 (by decide) rfl) (fun z_36 u_34 hp_35 => ?_)
          rcases hp_35 with ⟨hz_37, hu_38, hq_39⟩ | ⟨a2_40, fl_41, hz_42, hu_43, hq_44, hr_45, hs_46⟩ | ⟨a2_47, hz_48, hu_49, hq_50, hr_51⟩
          ·
            subst hz_37
            subst hu_38
            refine ⟨rfl, ?_⟩
            refine S_w (ws' := [(h0, ob 2 (uF (uF (uF f 1 (iv (sk T n a2_25))) 2 (iv (-1))) 4 (iv (0 + ((acc ++ ts_26).length : Int))))), (ht, ob 6 ft), (hb, ar 160 T), (hc, ar 160 (wrL C 0 (acc ++ ts_26)))]) rfl ?_
            refine S_if_eq (tgt := 47) X dX5_read_40 (by decide) (by decide) (fun _ => ?_) (fun h9 => absurd h9 (by decide))
            refine S_iconst X dX5_read_47 ?_
            refine S_istore_n X dX5_read_48 rfl (nle rfl) ?_
            refine S_iinc X dX5_read_49 (nle rfl) hL22_2 ?_
            refine S_goto (tgt := 18) X dX5_read_52 (by decide) ?_
            refine S_iload_n X dX5_read_18 rfl rfl ?_
            refine S_if_eq (tgt := 55) X dX5_read_19 (by decide) (by decide) (fun _ => ?_) (fun h9 => absurd h9 (by decide))
            refine S_aload_n X dX5_read_55 rfl hL22_0 ?_
            refine S_get (v := iv (-1)) X fgX5_19_2 0 rfl rfl dX5_read_56 ?_
            refine S_iconst X dX5_read_59 ?_
            refine S_icmp_ne (tgt := 81) X dX5_read_60 (by decide) (by decide) (by decide) (fun h9 => absurd h9 (by decide)) (fun _ => ?_)
            refine S_aload_n X dX5_read_63 rfl hL22_0 ?_
            refine S_calli X (kX2_isWhole l h0 ) (is := []) rfl (run_A X lkX5_34_2 0 rfl rfl (is := []) (avs := []) (rest := []) rfl rfl (nle rfl) ⟨nle rfl, nle rfl⟩ ⟨nle rfl, nle rfl⟩ dX5_read_64 (by decide) rfl) (fun z_57 u_55 hp_56 => ?_)
            obtain ⟨hz_58, hu_59⟩ := hp_56
            subst hz_58
            subst hu_59
            refine ⟨rfl, ?_⟩
            refine S_w (ws' := [(h0, ob 2 (uF (uF (uF f 1 (iv (sk T n a2_25))) 2 (iv (-1))) 4 (iv (0 + ((acc ++ ts_26).length : Int))))), (ht, ob 6 ft), (hb, ar 160 T), (hc, ar 160 (wrL C 0 (acc ++ ts_26)))]) rfl ?_
            refine S_if_ne (tgt := 81) X dX5_read_67 (by decide) (by decide) (fun _ => ?_) (fun h9 => absurd h9 (by decide))
            refine S_aload_n X dX5_read_81 rfl hL22_0 ?_
            refine S_get (v := iv (-1)) X fgX5_19_2 0 rfl rfl dX5_read_82 ?_
            exact S_iret X (nle rfl) (nle rfl) dX5_read_85 (hPo _ _ (Or.inr ⟨_, acc ++ ts_26, rfl, rfl, lwRes_r (hk (.inr (_, acc ++ ts_26)) (by rw [fuel161 (by omega) (by omega)]; exact ll_e hq_29 hq_39)), by simp only [List.length_append, Int.natCast_add]; omega, ok_app hac hin.2.2.2⟩))
          ·
            subst hz_42
            subst hu_43
            refine ⟨rfl, ?_⟩
            refine S_w (ws' := [(h0, ob 2 (uF (uF (uF f 1 (iv a2_40)) 2 (iv fl_41)) 4 (iv (0 + ((acc ++ ts_26).length : Int))))), (ht, ob 6 ft), (hb, ar 160 T), (hc, ar 160 (wrL C 0 (acc ++ ts_26)))]) rfl ?_
            refine S_if_eq (tgt := 47) X dX5_read_40 (by decide) (by decide) (fun _ => ?_) (fun h9 => absurd h9 (by decide))
            refine S_iconst X dX5_read_47 ?_
            refine S_istore_n X dX5_read_48 rfl (nle rfl) ?_
            refine S_iinc X dX5_read_49 (nle rfl) hL22_2 ?_
            refine S_goto (tgt := 18) X dX5_read_52 (by decide) ?_
            refine S_iload_n X dX5_read_18 rfl rfl ?_
            refine S_if_eq (tgt := 55) X dX5_read_19 (by decide) (by decide) (fun _ => ?_) (fun h9 => absurd h9 (by decide))
            refine S_aload_n X dX5_read_55 rfl hL22_0 ?_
            refine S_get (v := iv fl_41) X fgX5_19_2 0 rfl rfl dX5_read_56 ?_
            refine S_iconst X dX5_read_59 ?_
            refine S_icmp_ne (tgt := 81) X dX5_read_60 (by decide) (by omega) (by decide) (fun c_63 => ?_) (fun c_63 => by exfalso; omega)
            refine S_aload_n X dX5_read_81 rfl hL22_0 ?_
            refine S_get (v := iv fl_41) X fgX5_19_2 0 rfl rfl dX5_read_82 ?_
            exact S_iret X (nle rfl) (nle rfl) dX5_read_85 (hPo _ _ (Or.inl ⟨_, _, _, _, rfl, rfl, by rw [hs_46]; exact lwRes_f (hk (.inl _) (by rw [fuel161 (by omega) (by omega)]; exact ll_n hq_29 hq_44.1 hq_44.2)), by omega⟩))
          ·
            subst hz_48
            subst hu_49
            refine ⟨rfl, ?_⟩
            refine S_w (ws' := [(h0, ob 2 (uF (uF (uF f 1 (iv a2_47)) 2 (iv (-1))) 4 (iv (0 + ((acc ++ ts_26).length : Int))))), (ht, ob 6 ft), (hb, ar 160 T), (hc, ar 160 (wrL C 0 (acc ++ ts_26)))]) rfl ?_
            have hlt : sk T n a2_25 < n := ch_lt (T := T) (by omega)
            refine S_if_eq (tgt := 47) X dX5_read_40 (by decide) (by decide) (fun h9 => absurd h9 (by decide)) (fun _ => ?_)
            refine S_iconst X dX5_read_43 ?_
            refine S_goto (tgt := 48) X dX5_read_44 (by decide) ?_
            refine S_istore_n X dX5_read_48 rfl (nle rfl) ?_
            refine S_iinc X dX5_read_49 (nle rfl) hL22_2 ?_
            refine S_goto (tgt := 18) X dX5_read_52 (by decide) ?_
            refine S_iload_n X dX5_read_18 rfl rfl ?_
            refine S_if_eq (tgt := 55) X dX5_read_19 (by decide) (by decide) (fun h9 => absurd h9 (by decide)) (fun _ => ?_)
            exact ih22 (i + 1) a2_47 (acc ++ ts_26) _ (by omega) (by simp only [List.length_append, Int.natCast_add]; omega) (ok_app hac hin.2.2.2) (fun z9 h9 => hk z9 (by rw [fuel161 (by omega) (by omega), ll_g hq_29 hq_50]; rw [hr_51] at h9; exact h9)) hL22_0 rfl rfl (by omega)
  exact lp22_0 (Int.toNat (162 - 0) + 1) 0 0 ([]) _ (by omega) (by simp) (fun t h9 => absurd h9 List.not_mem_nil) (fun _ h9 => h9) rfl rfl rfl (by omega)
end pt_16law3
/- 20.ref1.lean.txt -/
section pt_20ref1
def chM (T : Int → Int) (n a : Int) : Int := if a < n then T a else -1
theorem chM_or {T : Int → Int} {n a : Int} (hT : okT T n) (h0 : 0 ≤ a) (ha : a ≤ n) : (chM T n a = ch T n a ∧ 1 ≤ ch T n a ∧ ch T n a ≤ 255 ∧ a < n) ∨ (chM T n a = -1 ∧ ch T n a = 0 ∧ a = n) := by
  unfold chM ch
  rcases Int.lt_or_le a n with q | q
  · have := hT.2.2 a h0 q
    rw [if_pos q, if_pos q]
    exact Or.inl ⟨rfl, by omega, by omega, q⟩
  · rw [if_neg (by omega), if_neg (by omega)]
    exact Or.inr ⟨rfl, rfl, by omega⟩
/-- the reference's signs: kinds and values -/
def kC (t : Int) : Int := if 0 ≤ t then 0 else if t = -43 then 2 else if t = -45 then 3 else if t = -42 then 4 else if t = -47 then 5 else if t = -61 then 6 else if t = -60 then 7 else if t = -62 then 8 else if t = -33 then 9 else if t = -38 then 10 else if t = -124 then 11 else 1
def kV (t : Int) : Int := if 0 ≤ t then t else if t = -119 then 1 else if t = -109 then 2 else if t = -110 then 3 else if t = -111 then 4 else 0
def letOf (c : Int) : Int := if c = 100 then 0 else if c = 119 then 1 else if c = 109 then 2 else if c = 110 then 3 else if c = 111 then 4 else -1
set_option maxHeartbeats 4000000 in
set_option maxRecDepth 100000 in
theorem kX12_in (l : Launch) (v : Int) (lo : Int) (hi : Int) (hv : inR v) (hl : inR lo) (hh : inR hi) : AMi l yX12_in cX12_in 3 .boolean 0 0 0 [iv v, iv lo, iv hi] [] (fun z u => (z = 0 ∧ u = [] ∧ (¬ (lo ≤ v ∧ v ≤ hi))) ∨ (z = 1 ∧ u = [] ∧ (lo ≤ v ∧ v ≤ hi))) := by
  refine AMi.of2 rfl (nle rfl) ?_
  intro D G A p e s m args below meth c Po hPo X
  refine S_iload_n X dX12_in_0 rfl rfl ?_
  refine S_iload_n X dX12_in_1 rfl rfl ?_
  refine S_icmp_lt (tgt := 14) X dX12_in_2 (by decide) (by omega) (by omega) (fun c_1 => ?_) (fun c_1 => ?_)
  ·
    refine S_iconst X dX12_in_14 ?_
    exact S_zret X (Or.inl rfl) (nle rfl) (nle rfl) dX12_in_15 (hPo _ _ (Or.inl (⟨by first | rfl | omega, rfl, by first | rfl | assumption | omega⟩)))
  ·
    refine S_iload_n X dX12_in_5 rfl rfl ?_
    refine S_iload_n X dX12_in_6 rfl rfl ?_
    refine S_icmp_gt (tgt := 14) X dX12_in_7 (by decide) (by omega) (by omega) (fun c_2 => ?_) (fun c_2 => ?_)
    ·
      refine S_iconst X dX12_in_14 ?_
      exact S_zret X (Or.inl rfl) (nle rfl) (nle rfl) dX12_in_15 (hPo _ _ (Or.inl (⟨by first | rfl | omega, rfl, by first | rfl | assumption | omega⟩)))
    ·
      refine S_iconst X dX12_in_10 ?_
      refine S_goto (tgt := 15) X dX12_in_11 (by decide) ?_
      exact S_zret X (Or.inr rfl) (nle rfl) (nle rfl) dX12_in_15 (hPo _ _ (Or.inr (⟨by first | rfl | omega, rfl, by first | rfl | assumption | omega⟩)))
set_option maxHeartbeats 4000000 in
set_option maxRecDepth 100000 in
theorem kX12_has (l : Launch) (x : Int) (k : Int) : AMi l yX12_has cX12_has 2 .boolean 0 0 0 [iv x, iv k] [] (fun z u => (z = 0 ∧ u = [] ∧ zAnd (zShr x k) 1 = 0) ∨ (z = 1 ∧ u = [] ∧ ¬ zAnd (zShr x k) 1 = 0)) := by
  refine AMi.of2 rfl (nle rfl) ?_
  intro D G A p e s m args below meth c Po hPo X
  have hz := zAnd1 (zShr x k)
  refine S_iload_n X dX12_has_0 rfl rfl ?_
  refine S_iload_n X dX12_has_1 rfl rfl ?_
  refine S_ishr X dX12_has_2 ?_
  refine S_iconst X dX12_has_3 ?_
  refine S_iand X dX12_has_4 ?_
  refine S_iconst X dX12_has_5 ?_
  refine S_icmp_ne (tgt := 13) X dX12_has_6 (by decide) (by omega) (by decide) (fun c_1 => ?_) (fun c_1 => ?_)
  ·
    refine S_iconst X dX12_has_13 ?_
    exact S_zret X (Or.inl rfl) (nle rfl) (nle rfl) dX12_has_14 (hPo _ _ (Or.inl (⟨by first | rfl | omega, rfl, by first | rfl | assumption | omega⟩)))
  ·
    refine S_iconst X dX12_has_9 ?_
    refine S_goto (tgt := 14) X dX12_has_10 (by decide) ?_
    exact S_zret X (Or.inr rfl) (nle rfl) (nle rfl) dX12_has_14 (hPo _ _ (Or.inr (⟨by first | rfl | omega, rfl, by first | rfl | assumption | omega⟩)))
set_option maxHeartbeats 4000000 in
set_option maxRecDepth 100000 in
theorem kX12_here (l : Launch) (h0 : Nat) (hT : Nat) (f : Nat → AV) (T : Int → Int) (n : Int) (a : Int) (w : Int) (dp : Int) (hf0 : f 1 = rv hT) (hf1 : f 2 = iv n) (okT : okT T n) (ha : 0 ≤ a ∧ a ≤ 200) : AMi l yX12_here cX12_here 1 .int 0 0 0 [rv h0] [(h0, ob 11 (uF (uF (uF f 3 (iv a)) 4 (iv w)) 5 (iv dp))), (hT, ar 160 T)] (fun z u => z = chM T n a ∧ u = [(h0, ob 11 (uF (uF (uF f 3 (iv a)) 4 (iv w)) 5 (iv dp))), (hT, ar 160 T)]) := by
  refine AMi.of2 rfl (nle rfl) ?_
  intro D G A p e s m args below meth c Po hPo X
  obtain ⟨hn0, hn1, hT2⟩ := id okT
  refine S_aload_n X dX12_here_0 rfl rfl ?_
  refine S_get (v := iv a) X fgX12_111_11 0 rfl rfl dX12_here_1 ?_
  refine S_aload_n X dX12_here_4 rfl rfl ?_
  refine S_get X fgX12_108_11 0 rfl hf1 dX12_here_5 ?_
  refine S_icmp_ge (tgt := 23) X dX12_here_8 (by decide) (by omega) (by omega) (fun c_1 => ?_) (fun c_1 => ?_)
  ·
    refine S_iconst X dX12_here_23 ?_
    exact S_iret X (nle rfl) (nle rfl) dX12_here_24 (hPo _ _ (⟨by unfold chM; rw [if_neg (by omega)], rfl⟩))
  ·
    refine S_aload_n X dX12_here_11 rfl rfl ?_
    refine S_get X fgX12_9_11 0 rfl hf0 dX12_here_12 ?_
    refine S_aload_n X dX12_here_15 rfl rfl ?_
    refine S_get (v := iv a) X fgX12_111_11 0 rfl rfl dX12_here_16 ?_
    refine S_iald X 1 rfl (by omega) (by omega) (nle rfl) dX12_here_19 ?_
    have hb_1 := hT2 a (by omega) (by omega)
    refine S_goto (tgt := 24) X dX12_here_20 (by decide) ?_
    exact S_iret X (nle rfl) (nle rfl) dX12_here_24 (hPo _ _ (⟨by unfold chM; rw [if_pos (by omega)], rfl⟩))
set_option maxHeartbeats 4000000 in
set_option maxRecDepth 100000 in
theorem kX12_look (l : Launch) (h0 : Nat) (hT : Nat) (f : Nat → AV) (T : Int → Int) (n : Int) (a : Int) (w : Int) (dp : Int) (hf0 : f 1 = rv hT) (hf1 : f 2 = iv n) (okT : okT T n) (ha : 0 ≤ a ∧ a ≤ n) : AMi l yX12_look cX12_look 1 .int 1 0 0 [rv h0] [(h0, ob 11 (uF (uF (uF f 3 (iv a)) 4 (iv w)) 5 (iv dp))), (hT, ar 160 T)] (fun z u => z = chM T n (sk T n a) ∧ u = [(h0, ob 11 (uF (uF (uF f 3 (iv (sk T n a))) 4 (iv w)) 5 (iv dp))), (hT, ar 160 T)]) := by
  refine AMi.of2 rfl (nle rfl) ?_
  intro D G A p e s m args below meth c Po hPo X
  obtain ⟨hn0, hn1, hT2⟩ := id okT
  have lp0_0 : ∀ (N : Nat) (a1 : Int) (L : Nat → Option AV), a ≤ a1 ∧ a1 ≤ n → sk T n a1 = sk T n a → L 0 = some (rv h0) → 161 - a1 < (N : Int) → S_ p l e (rmD 1 0 0) s m args below meth c (MQ below (QcI D G A Po) args s 0 0 A) D G A 1 0 0 0 L [] [(h0, ob 11 (uF (uF (uF f 3 (iv a1)) 4 (iv w)) 5 (iv dp))), (hT, ar 160 T)] := by
    intro N
    induction N with
    | zero =>
      intro a1 L0 hi hk hL0_0 hN0
      exfalso; omega
    | succ N ih0 =>
      intro a1 L0 hi hk hL0_0 hN0
      refine S_aload_n X dX12_look_0 rfl hL0_0 ?_
      refine S_calli X (kX12_here l h0 hT f T n a1 w dp hf0 hf1 (by omega) (by omega)) (is := [0, 1]) rfl (run_V X lkX12_114 0 rfl rfl (is := [0, 1]) (avs := []) (rest := []) rfl rfl (nle rfl) ⟨nle rfl, nle rfl⟩ ⟨nle rfl, nle rfl⟩ dX12_look_1 (by decide) rfl) (fun z_3 u_1 hp_2 => ?_)
      obtain ⟨hz_4, hu_5⟩ := hp_2
      subst hz_4
      subst hu_5
      refine ⟨rfl, ?_⟩
      refine S_w (ws' := [(h0, ob 11 (uF (uF (uF f 3 (iv a1)) 4 (iv w)) 5 (iv dp))), (hT, ar 160 T)]) rfl ?_
      have hcm := chM_or okT (a := a1) (by omega) (by omega)
      have hchT : a1 < n → ch T n a1 = T a1 := fun h => if_pos h
      refine S_bipush X dX12_look_4 rfl ?_
      refine S_icmp_ne (tgt := 22) X dX12_look_6 (by decide) (by omega) (by decide) (fun c_6 => ?_) (fun c_6 => ?_)
      ·
        have hs : sk T n a = a1 := by rw [← hk]; exact sk_stop (fun q9 => by have := hchT q9.1; omega)
        refine S_aload_n X dX12_look_22 rfl hL0_0 ?_
        refine S_calli X (kX12_here l h0 hT f T n a1 w dp hf0 hf1 (by omega) (by omega)) (is := [0, 1]) rfl (run_V X lkX12_114 0 rfl rfl (is := [0, 1]) (avs := []) (rest := []) rfl rfl (nle rfl) ⟨nle rfl, nle rfl⟩ ⟨nle rfl, nle rfl⟩ dX12_look_23 (by decide) rfl) (fun z_9 u_7 hp_8 => ?_)
        obtain ⟨hz_10, hu_11⟩ := hp_8
        subst hz_10
        subst hu_11
        refine ⟨rfl, ?_⟩
        refine S_w (ws' := [(h0, ob 11 (uF (uF (uF f 3 (iv a1)) 4 (iv w)) 5 (iv dp))), (hT, ar 160 T)]) rfl ?_
        exact S_iret X (nle rfl) (nle rfl) dX12_look_26 (hPo _ _ (⟨by rw [hs], by rw [hs]⟩))
      ·
        have hlt : a1 < n := by omega
        have hT32 := hchT hlt
        refine S_aload_n X dX12_look_9 rfl hL0_0 ?_
        refine S_dup X dX12_look_10 ?_
        refine S_get (v := iv a1) X fgX12_111_11 0 rfl rfl dX12_look_11 ?_
        refine S_iconst X dX12_look_14 ?_
        refine S_iadd X dX12_look_15 ?_
        refine S_put X fpX12_111_11 0 rfl FT_i dX12_look_16 ?_
        refine S_w (ws' := [(h0, ob 11 (uF (uF (uF f 3 (iv (a1 + 1))) 4 (iv w)) 5 (iv dp))), (hT, ar 160 T)]) (by simp only [List.set]; rw [uF_mv (j := 5) (k := 3) (by decide), uF_mv (j := 4) (k := 3) (by decide), uF_same (k := 3)]) ?_
        refine S_goto (tgt := 0) X dX12_look_19 (by decide) ?_
        exact ih0 (a1 + 1) _ (by omega) ((sk_blank (by omega) (by omega)).symm.trans hk) hL0_0 (by omega)
  exact lp0_0 (Int.toNat (161 - a) + 1) a _ (by omega) (rfl) rfl (by omega)
set_option maxHeartbeats 4000000 in
set_option maxRecDepth 100000 in
theorem kX12_bad (l : Launch) (h0 : Nat) (f : Nat → AV) (a : Int) (w : Int) (dp : Int) (hw : w = -1) : AMv l yX12_bad cX12_bad 1 0 0 0 [rv h0] [(h0, ob 11 (uF (uF (uF f 3 (iv a)) 4 (iv w)) 5 (iv dp)))] (fun u => u = [(h0, ob 11 (uF (uF (uF f 3 (iv a)) 4 (iv a)) 5 (iv dp)))]) := by
  refine AMv.of2 rfl (nle rfl) ?_
  intro D G A p e s m args below meth c Po hPo hnm X
  refine S_aload_n X dX12_bad_0 rfl rfl ?_
  refine S_aload_n X dX12_bad_1 rfl rfl ?_
  refine S_get (v := iv w) X fgX12_118_11 0 rfl rfl dX12_bad_2 ?_
  refine S_iconst X dX12_bad_5 ?_
  refine S_icmp_ne (tgt := 16) X dX12_bad_6 (by decide) (by omega) (by decide) (fun c_1 => by exfalso; omega) (fun c_1 => ?_)
  refine S_aload_n X dX12_bad_9 rfl rfl ?_
  refine S_get (v := iv a) X fgX12_111_11 0 rfl rfl dX12_bad_10 ?_
  refine S_goto (tgt := 20) X dX12_bad_13 (by decide) ?_
  refine S_put X fpX12_118_11 0 rfl FT_i dX12_bad_20 ?_
  refine S_w (ws' := [(h0, ob 11 (uF (uF (uF f 3 (iv a)) 4 (iv a)) 5 (iv dp)))]) (by simp only [List.set]; rw [uF_mv (j := 5) (k := 4) (by decide), uF_same (k := 4)]) ?_
  exact S_vret X (nle rfl) (nle rfl) dX12_bad_23 (hPo _ (rfl))
set_option maxHeartbeats 4000000 in
set_option maxRecDepth 100000 in
theorem kX12_isDigit (l : Launch) (x : Int) (hx : inR x) : AMi l yX12_isDigit cX12_isDigit 1 .boolean 0 0 0 [iv x] [] (fun z u => (z = 0 ∧ u = [] ∧ (¬ (48 ≤ x ∧ x ≤ 57))) ∨ (z = 1 ∧ u = [] ∧ (48 ≤ x ∧ x ≤ 57))) := by
  refine AMi.of2 rfl (nle rfl) ?_
  intro D G A p e s m args below meth c Po hPo X
  refine S_iload_n X dX12_isDigit_0 rfl rfl ?_
  refine S_bipush X dX12_isDigit_1 rfl ?_
  refine S_icmp_lt (tgt := 16) X dX12_isDigit_3 (by decide) (by omega) (by decide) (fun c_1 => ?_) (fun c_1 => ?_)
  ·
    refine S_iconst X dX12_isDigit_16 ?_
    exact S_zret X (Or.inl rfl) (nle rfl) (nle rfl) dX12_isDigit_17 (hPo _ _ (Or.inl (⟨by first | rfl | omega, rfl, by first | rfl | assumption | omega⟩)))
  ·
    refine S_iload_n X dX12_isDigit_6 rfl rfl ?_
    refine S_bipush X dX12_isDigit_7 rfl ?_
    refine S_icmp_gt (tgt := 16) X dX12_isDigit_9 (by decide) (by omega) (by decide) (fun c_2 => ?_) (fun c_2 => ?_)
    ·
      refine S_iconst X dX12_isDigit_16 ?_
      exact S_zret X (Or.inl rfl) (nle rfl) (nle rfl) dX12_isDigit_17 (hPo _ _ (Or.inl (⟨by first | rfl | omega, rfl, by first | rfl | assumption | omega⟩)))
    ·
      refine S_iconst X dX12_isDigit_12 ?_
      refine S_goto (tgt := 17) X dX12_isDigit_13 (by decide) ?_
      exact S_zret X (Or.inr rfl) (nle rfl) (nle rfl) dX12_isDigit_17 (hPo _ _ (Or.inr (⟨by first | rfl | omega, rfl, by first | rfl | assumption | omega⟩)))
set_option maxHeartbeats 4000000 in
set_option maxRecDepth 100000 in
theorem kX12_isSign (l : Launch) (x : Int) (hx : inR x) : AMi l yX12_isSign cX12_isSign 1 .boolean 0 0 0 [iv x] [] (fun z u => (z = 0 ∧ u = [] ∧ (¬ (x = 61 ∨ x = 60 ∨ x = 62))) ∨ (z = 1 ∧ u = [] ∧ (x = 61 ∨ x = 60 ∨ x = 62))) := by
  refine AMi.of2 rfl (nle rfl) ?_
  intro D G A p e s m args below meth c Po hPo X
  refine S_iload_n X dX12_isSign_0 rfl rfl ?_
  refine S_bipush X dX12_isSign_1 rfl ?_
  refine S_icmp_eq (tgt := 18) X dX12_isSign_3 (by decide) (by omega) (by decide) (fun c_1 => ?_) (fun c_1 => ?_)
  ·
    refine S_iconst X dX12_isSign_18 ?_
    refine S_goto (tgt := 23) X dX12_isSign_19 (by decide) ?_
    exact S_zret X (Or.inr rfl) (nle rfl) (nle rfl) dX12_isSign_23 (hPo _ _ (Or.inr (⟨by first | rfl | omega, rfl, by first | rfl | assumption | omega⟩)))
  ·
    refine S_iload_n X dX12_isSign_6 rfl rfl ?_
    refine S_bipush X dX12_isSign_7 rfl ?_
    refine S_icmp_eq (tgt := 18) X dX12_isSign_9 (by decide) (by omega) (by decide) (fun c_2 => ?_) (fun c_2 => ?_)
    ·
      refine S_iconst X dX12_isSign_18 ?_
      refine S_goto (tgt := 23) X dX12_isSign_19 (by decide) ?_
      exact S_zret X (Or.inr rfl) (nle rfl) (nle rfl) dX12_isSign_23 (hPo _ _ (Or.inr (⟨by first | rfl | omega, rfl, by first | rfl | assumption | omega⟩)))
    ·
      refine S_iload_n X dX12_isSign_12 rfl rfl ?_
      refine S_bipush X dX12_isSign_13 rfl ?_
      refine S_icmp_ne (tgt := 22) X dX12_isSign_15 (by decide) (by omega) (by decide) (fun c_3 => ?_) (fun c_3 => ?_)
      ·
        refine S_iconst X dX12_isSign_22 ?_
        exact S_zret X (Or.inl rfl) (nle rfl) (nle rfl) dX12_isSign_23 (hPo _ _ (Or.inl (⟨by first | rfl | omega, rfl, by first | rfl | assumption | omega⟩)))
      ·
        refine S_iconst X dX12_isSign_18 ?_
        refine S_goto (tgt := 23) X dX12_isSign_19 (by decide) ?_
        exact S_zret X (Or.inr rfl) (nle rfl) (nle rfl) dX12_isSign_23 (hPo _ _ (Or.inr (⟨by first | rfl | omega, rfl, by first | rfl | assumption | omega⟩)))
set_option maxHeartbeats 4000000 in
set_option maxRecDepth 100000 in
theorem kX12_letterOf (l : Launch) (x : Int) (hx : inR x) : AMi l yX12_letterOf cX12_letterOf 1 .int 0 0 0 [iv x] [] (fun z u => z = letOf x ∧ u = []) := by
  refine AMi.of2 rfl (nle rfl) ?_
  intro D G A p e s m args below meth c Po hPo X
  refine S_iload_n X dX12_letterOf_0 rfl rfl ?_
  refine S_bipush X dX12_letterOf_1 rfl ?_
  refine S_icmp_ne (tgt := 10) X dX12_letterOf_3 (by decide) (by omega) (by decide) (fun c_1 => ?_) (fun c_1 => ?_)
  ·
    refine S_iload_n X dX12_letterOf_10 rfl rfl ?_
    refine S_bipush X dX12_letterOf_11 rfl ?_
    refine S_icmp_ne (tgt := 20) X dX12_letterOf_13 (by decide) (by omega) (by decide) (fun c_2 => ?_) (fun c_2 => ?_)
    ·
      refine S_iload_n X dX12_letterOf_20 rfl rfl ?_
      refine S_bipush X dX12_letterOf_21 rfl ?_
      refine S_icmp_ne (tgt := 30) X dX12_letterOf_23 (by decide) (by omega) (by decide) (fun c_3 => ?_) (fun c_3 => ?_)
      ·
        refine S_iload_n X dX12_letterOf_30 rfl rfl ?_
        refine S_bipush X dX12_letterOf_31 rfl ?_
        refine S_icmp_ne (tgt := 40) X dX12_letterOf_33 (by decide) (by omega) (by decide) (fun c_4 => ?_) (fun c_4 => ?_)
        ·
          refine S_iload_n X dX12_letterOf_40 rfl rfl ?_
          refine S_bipush X dX12_letterOf_41 rfl ?_
          refine S_icmp_ne (tgt := 50) X dX12_letterOf_43 (by decide) (by omega) (by decide) (fun c_5 => ?_) (fun c_5 => ?_)
          ·
            refine S_iconst X dX12_letterOf_50 ?_
            exact S_iret X (nle rfl) (nle rfl) dX12_letterOf_51 (hPo _ _ (⟨by unfold letOf; (repeat' split) <;> omega, rfl⟩))
          ·
            refine S_iconst X dX12_letterOf_46 ?_
            refine S_goto (tgt := 51) X dX12_letterOf_47 (by decide) ?_
            exact S_iret X (nle rfl) (nle rfl) dX12_letterOf_51 (hPo _ _ (⟨by unfold letOf; (repeat' split) <;> omega, rfl⟩))
        ·
          refine S_iconst X dX12_letterOf_36 ?_
          refine S_goto (tgt := 51) X dX12_letterOf_37 (by decide) ?_
          exact S_iret X (nle rfl) (nle rfl) dX12_letterOf_51 (hPo _ _ (⟨by unfold letOf; (repeat' split) <;> omega, rfl⟩))
      ·
        refine S_iconst X dX12_letterOf_26 ?_
        refine S_goto (tgt := 51) X dX12_letterOf_27 (by decide) ?_
        exact S_iret X (nle rfl) (nle rfl) dX12_letterOf_51 (hPo _ _ (⟨by unfold letOf; (repeat' split) <;> omega, rfl⟩))
    ·
      refine S_iconst X dX12_letterOf_16 ?_
      refine S_goto (tgt := 51) X dX12_letterOf_17 (by decide) ?_
      exact S_iret X (nle rfl) (nle rfl) dX12_letterOf_51 (hPo _ _ (⟨by unfold letOf; (repeat' split) <;> omega, rfl⟩))
  ·
    refine S_iconst X dX12_letterOf_6 ?_
    refine S_goto (tgt := 51) X dX12_letterOf_7 (by decide) ?_
    exact S_iret X (nle rfl) (nle rfl) dX12_letterOf_51 (hPo _ _ (⟨by unfold letOf; (repeat' split) <;> omega, rfl⟩))
set_option maxHeartbeats 4000000 in
set_option maxRecDepth 100000 in
theorem kX12_put (l : Launch) (h0 : Nat) (f : Nat → AV) (a : Int) (w : Int) (dp : Int) (hC : Nat) (hV : Nat) (hN : Nat) (C : Int → Int) (V : Int → Int) (Nk : Int → Int) (tx : Int) (k : Int) (c0 : Int) (v0 : Int) (hf0 : f 6 = rv hC) (hf1 : f 7 = rv hV) (hf2 : f 8 = rv hN) (hf3 : f 14 = iv tx) (ht : 0 ≤ tx ∧ tx ≤ 4) (hk : 0 ≤ k ∧ k < 340) : AMv l yX12_put cX12_put 3 0 0 0 [rv h0, iv c0, iv v0] [(h0, ob 11 (uF (uF (uF f 3 (iv a)) 4 (iv w)) 5 (iv dp))), (hC, ar 1700 C), (hV, ar 1700 V), (hN, ar 5 (uZ Nk tx k))] (fun u => u = [(h0, ob 11 (uF (uF (uF f 3 (iv a)) 4 (iv w)) 5 (iv dp))), (hC, ar 1700 (uZ C (340 * tx + k) c0)), (hV, ar 1700 (uZ V (340 * tx + k) v0)), (hN, ar 5 (uZ Nk tx (k + 1)))]) := by
  refine AMv.of2 rfl (nle rfl) ?_
  intro D G A p e s m args below meth c Po hPo hnm X
  refine S_aload_n X dX12_put_0 rfl rfl ?_
  refine S_get X fgX12_13_11 0 rfl hf0 dX12_put_1 ?_
  refine S_sipush X dX12_put_4 rfl ?_
  refine S_aload_n X dX12_put_7 rfl rfl ?_
  refine S_get X fgX12_121_11 0 rfl hf3 dX12_put_8 ?_
  refine S_imul X dX12_put_11 ?_
  refine S_aload_n X dX12_put_12 rfl rfl ?_
  refine S_get X fgX12_19_11 0 rfl hf2 dX12_put_13 ?_
  refine S_aload_n X dX12_put_16 rfl rfl ?_
  refine S_get X fgX12_121_11 0 rfl hf3 dX12_put_17 ?_
  refine S_iald X 3 rfl (by omega) (by omega) (nle rfl) dX12_put_20 ?_
  rw [show uZ Nk tx k tx = k from uZ_at]
  refine S_iadd X dX12_put_21 ?_
  refine S_iload_n X dX12_put_22 rfl rfl ?_
  refine S_iast X 1 rfl (by omega) (by omega) (nle rfl) dX12_put_23 ?_
  refine S_w (ws' := [(h0, ob 11 (uF (uF (uF f 3 (iv a)) 4 (iv w)) 5 (iv dp))), (hC, ar 1700 (uZ C ((340 * tx) + k) c0)), (hV, ar 1700 V), (hN, ar 5 (uZ Nk tx k))]) rfl ?_
  refine S_aload_n X dX12_put_24 rfl rfl ?_
  refine S_get X fgX12_16_11 0 rfl hf1 dX12_put_25 ?_
  refine S_sipush X dX12_put_28 rfl ?_
  refine S_aload_n X dX12_put_31 rfl rfl ?_
  refine S_get X fgX12_121_11 0 rfl hf3 dX12_put_32 ?_
  refine S_imul X dX12_put_35 ?_
  refine S_aload_n X dX12_put_36 rfl rfl ?_
  refine S_get X fgX12_19_11 0 rfl hf2 dX12_put_37 ?_
  refine S_aload_n X dX12_put_40 rfl rfl ?_
  refine S_get X fgX12_121_11 0 rfl hf3 dX12_put_41 ?_
  refine S_iald X 3 rfl (by omega) (by omega) (nle rfl) dX12_put_44 ?_
  rw [show uZ Nk tx k tx = k from uZ_at]
  refine S_iadd X dX12_put_45 ?_
  refine S_iload_n X dX12_put_46 rfl rfl ?_
  refine S_iast X 2 rfl (by omega) (by omega) (nle rfl) dX12_put_47 ?_
  refine S_w (ws' := [(h0, ob 11 (uF (uF (uF f 3 (iv a)) 4 (iv w)) 5 (iv dp))), (hC, ar 1700 (uZ C ((340 * tx) + k) c0)), (hV, ar 1700 (uZ V ((340 * tx) + k) v0)), (hN, ar 5 (uZ Nk tx k))]) rfl ?_
  refine S_aload_n X dX12_put_48 rfl rfl ?_
  refine S_get X fgX12_19_11 0 rfl hf2 dX12_put_49 ?_
  refine S_aload_n X dX12_put_52 rfl rfl ?_
  refine S_get X fgX12_121_11 0 rfl hf3 dX12_put_53 ?_
  refine S_dup2 X dX12_put_56 ?_
  refine S_iald X 3 rfl (by omega) (by omega) (nle rfl) dX12_put_57 ?_
  rw [show uZ Nk tx k tx = k from uZ_at]
  refine S_iconst X dX12_put_58 ?_
  refine S_iadd X dX12_put_59 ?_
  refine S_iast X 3 rfl (by omega) (by omega) (nle rfl) dX12_put_60 ?_
  refine S_w (ws' := [(h0, ob 11 (uF (uF (uF f 3 (iv a)) 4 (iv w)) 5 (iv dp))), (hC, ar 1700 (uZ C ((340 * tx) + k) c0)), (hV, ar 1700 (uZ V ((340 * tx) + k) v0)), (hN, ar 5 (uZ (uZ Nk tx k) tx (k + 1)))]) rfl ?_
  exact S_vret X (nle rfl) (nle rfl) dX12_put_61 (hPo _ (by rw [uZ_same]))
set_option maxHeartbeats 4000000 in
set_option maxRecDepth 100000 in
theorem kX12_opens (l : Launch) (h0 : Nat) (f : Nat → AV) (a : Int) (w : Int) (dp : Int) (hw : w = -1) (hd : 0 ≤ dp ∧ dp ≤ 6) : AMv l yX12_opens cX12_opens 1 1 0 0 [rv h0] [(h0, ob 11 (uF (uF (uF f 3 (iv a)) 4 (iv w)) 5 (iv dp)))] (fun u => (u = [(h0, ob 11 (uF (uF (uF f 3 (iv (a + 1))) 4 (iv a)) 5 (iv (dp + 1))))] ∧ dp = 6) ∨ (u = [(h0, ob 11 (uF (uF (uF f 3 (iv (a + 1))) 4 (iv w)) 5 (iv (dp + 1))))] ∧ ¬ dp = 6)) := by
  refine AMv.of2 rfl (nle rfl) ?_
  intro D G A p e s m args below meth c Po hPo hnm X
  refine S_aload_n X dX12_opens_0 rfl rfl ?_
  refine S_get (v := iv dp) X fgX12_124_11 0 rfl rfl dX12_opens_1 ?_
  refine S_bipush X dX12_opens_4 rfl ?_
  refine S_icmp_ne (tgt := 13) X dX12_opens_6 (by decide) (by omega) (by decide) (fun c_1 => ?_) (fun c_1 => ?_)
  ·
    refine S_aload_n X dX12_opens_13 rfl rfl ?_
    refine S_dup X dX12_opens_14 ?_
    refine S_get (v := iv dp) X fgX12_124_11 0 rfl rfl dX12_opens_15 ?_
    refine S_iconst X dX12_opens_18 ?_
    refine S_iadd X dX12_opens_19 ?_
    refine S_put X fpX12_124_11 0 rfl FT_i dX12_opens_20 ?_
    refine S_w (ws' := [(h0, ob 11 (uF (uF (uF f 3 (iv a)) 4 (iv w)) 5 (iv (dp + 1))))]) (by simp only [List.set]; rw [uF_same (k := 5)]) ?_
    refine S_aload_n X dX12_opens_23 rfl rfl ?_
    refine S_dup X dX12_opens_24 ?_
    refine S_get (v := iv a) X fgX12_111_11 0 rfl rfl dX12_opens_25 ?_
    refine S_iconst X dX12_opens_28 ?_
    refine S_iadd X dX12_opens_29 ?_
    refine S_put X fpX12_111_11 0 rfl FT_i dX12_opens_30 ?_
    refine S_w (ws' := [(h0, ob 11 (uF (uF (uF f 3 (iv (a + 1))) 4 (iv w)) 5 (iv (dp + 1))))]) (by simp only [List.set]; rw [uF_mv (j := 5) (k := 3) (by decide), uF_mv (j := 4) (k := 3) (by decide), uF_same (k := 3)]) ?_
    exact S_vret X (nle rfl) (nle rfl) dX12_opens_33 (hPo _ (Or.inr (⟨rfl, by first | rfl | assumption | omega⟩)))
  ·
    refine S_aload_n X dX12_opens_9 rfl rfl ?_
    refine S_callv X (kX12_bad l h0 f a w dp (by omega)) (is := [0]) rfl (run_V X lkX12_127 0 rfl rfl (is := [0]) (avs := []) (rest := []) rfl rfl (nle rfl) ⟨nle rfl, nle rfl⟩ ⟨nle rfl, nle rfl⟩ dX12_opens_10 (by decide) rfl) (fun u_2 hp_3 => ?_)
    have hu_6 := hp_3
    subst hu_6
    refine ⟨rfl, ?_⟩
    refine S_w (ws' := [(h0, ob 11 (uF (uF (uF f 3 (iv a)) 4 (iv a)) 5 (iv dp)))]) rfl ?_
    refine S_aload_n X dX12_opens_13 rfl rfl ?_
    refine S_dup X dX12_opens_14 ?_
    refine S_get (v := iv dp) X fgX12_124_11 0 rfl rfl dX12_opens_15 ?_
    refine S_iconst X dX12_opens_18 ?_
    refine S_iadd X dX12_opens_19 ?_
    refine S_put X fpX12_124_11 0 rfl FT_i dX12_opens_20 ?_
    refine S_w (ws' := [(h0, ob 11 (uF (uF (uF f 3 (iv a)) 4 (iv a)) 5 (iv (dp + 1))))]) (by simp only [List.set]; rw [uF_same (k := 5)]) ?_
    refine S_aload_n X dX12_opens_23 rfl rfl ?_
    refine S_dup X dX12_opens_24 ?_
    refine S_get (v := iv a) X fgX12_111_11 0 rfl rfl dX12_opens_25 ?_
    refine S_iconst X dX12_opens_28 ?_
    refine S_iadd X dX12_opens_29 ?_
    refine S_put X fpX12_111_11 0 rfl FT_i dX12_opens_30 ?_
    refine S_w (ws' := [(h0, ob 11 (uF (uF (uF f 3 (iv (a + 1))) 4 (iv a)) 5 (iv (dp + 1))))]) (by simp only [List.set]; rw [uF_mv (j := 5) (k := 3) (by decide), uF_mv (j := 4) (k := 3) (by decide), uF_same (k := 3)]) ?_
    exact S_vret X (nle rfl) (nle rfl) dX12_opens_33 (hPo _ (Or.inl (⟨rfl, by first | rfl | assumption | omega⟩)))
set_option maxHeartbeats 4000000 in
set_option maxRecDepth 100000 in
theorem kX12_closes_N (l : Launch) (h0 : Nat) (hT : Nat) (f : Nat → AV) (T : Int → Int) (n : Int) (a : Int) (w : Int) (dp : Int) (c0 : Int) (hf0 : f 1 = rv hT) (hf1 : f 2 = iv n) (okT : okT T n) (ha : 0 ≤ a ∧ a ≤ n) (hw : w = -1) (hc : 1 ≤ c0 ∧ c0 ≤ 255) : AMv l yX12_closes cX12_closes 2 2 0 0 [rv h0, iv c0] [(h0, ob 11 (uF (uF (uF f 3 (iv a)) 4 (iv w)) 5 (iv dp))), (hT, ar 160 T)] (fun u => (u = [(h0, ob 11 (uF (uF (uF f 3 (iv ((sk T n a) + 1))) 4 (iv (sk T n a))) 5 (iv (dp - 1)))), (hT, ar 160 T)] ∧ ¬ ch T n (sk T n a) = c0) ∨ (u = [(h0, ob 11 (uF (uF (uF f 3 (iv ((sk T n a) + 1))) 4 (iv w)) 5 (iv (dp - 1)))), (hT, ar 160 T)] ∧ ch T n (sk T n a) = c0)) := by
  refine AMv.of2 rfl (nle rfl) ?_
  intro D G A p e s m args below meth c Po hPo hnm X
  obtain ⟨hn0, hn1, hT2⟩ := id okT
  refine S_aload_n X dX12_closes_0 rfl rfl ?_
  refine S_get (v := iv w) X fgX12_118_11 0 rfl rfl dX12_closes_1 ?_
  refine S_iconst X dX12_closes_4 ?_
  refine S_icmp_ne (tgt := 20) X dX12_closes_5 (by decide) (by omega) (by decide) (fun c_1 => by exfalso; omega) (fun c_1 => ?_)
  refine S_aload_n X dX12_closes_8 rfl rfl ?_
  refine S_calli X (kX12_look l h0 hT f T n a w dp hf0 hf1 (by omega) (by omega)) (is := [0, 1]) rfl (run_V X lkX12_130 0 rfl rfl (is := [0, 1]) (avs := []) (rest := []) rfl rfl (nle rfl) ⟨nle rfl, nle rfl⟩ ⟨nle rfl, nle rfl⟩ dX12_closes_9 (by decide) rfl) (fun z_4 u_2 hp_3 => ?_)
  obtain ⟨hz_5, hu_6⟩ := hp_3
  subst hz_5
  subst hu_6
  refine ⟨rfl, ?_⟩
  refine S_w (ws' := [(h0, ob 11 (uF (uF (uF f 3 (iv (sk T n a))) 4 (iv w)) 5 (iv dp))), (hT, ar 160 T)]) rfl ?_
  have hsk := sk_in (T := T) ha.2
  have hcm := chM_or okT (a := sk T n a) (by omega) (by omega)
  refine S_iload_n X dX12_closes_12 rfl rfl ?_
  refine S_icmp_eq (tgt := 20) X dX12_closes_13 (by decide) (by omega) (by omega) (fun c_7 => ?_) (fun c_7 => ?_)
  ·
    refine S_aload_n X dX12_closes_20 rfl rfl ?_
    refine S_dup X dX12_closes_21 ?_
    refine S_get (v := iv (sk T n a)) X fgX12_111_11 0 rfl rfl dX12_closes_22 ?_
    refine S_iconst X dX12_closes_25 ?_
    refine S_iadd X dX12_closes_26 ?_
    refine S_put X fpX12_111_11 0 rfl FT_i dX12_closes_27 ?_
    refine S_w (ws' := [(h0, ob 11 (uF (uF (uF f 3 (iv ((sk T n a) + 1))) 4 (iv w)) 5 (iv dp))), (hT, ar 160 T)]) (by simp only [List.set]; rw [uF_mv (j := 5) (k := 3) (by decide), uF_mv (j := 4) (k := 3) (by decide), uF_same (k := 3)]) ?_
    refine S_aload_n X dX12_closes_30 rfl rfl ?_
    refine S_dup X dX12_closes_31 ?_
    refine S_get (v := iv dp) X fgX12_124_11 0 rfl rfl dX12_closes_32 ?_
    refine S_iconst X dX12_closes_35 ?_
    refine S_isub X dX12_closes_36 ?_
    refine S_put X fpX12_124_11 0 rfl FT_i dX12_closes_37 ?_
    refine S_w (ws' := [(h0, ob 11 (uF (uF (uF f 3 (iv ((sk T n a) + 1))) 4 (iv w)) 5 (iv (dp - 1)))), (hT, ar 160 T)]) (by simp only [List.set]; rw [uF_same (k := 5)]) ?_
    exact S_vret X (nle rfl) (nle rfl) dX12_closes_40 (hPo _ (Or.inr (⟨rfl, by first | rfl | assumption | omega⟩)))
  ·
    refine S_aload_n X dX12_closes_16 rfl rfl ?_
    refine S_callv X (kX12_bad l h0 f (sk T n a) w dp (by omega)) (is := [0]) rfl (run_V X lkX12_127 0 rfl rfl (is := [0]) (avs := []) (rest := []) rfl rfl (nle rfl) ⟨nle rfl, nle rfl⟩ ⟨nle rfl, nle rfl⟩ dX12_closes_17 (by decide) rfl) (fun u_8 hp_9 => ?_)
    have hu_12 := hp_9
    subst hu_12
    refine ⟨rfl, ?_⟩
    refine S_w (ws' := [(h0, ob 11 (uF (uF (uF f 3 (iv (sk T n a))) 4 (iv (sk T n a))) 5 (iv dp))), (hT, ar 160 T)]) rfl ?_
    refine S_aload_n X dX12_closes_20 rfl rfl ?_
    refine S_dup X dX12_closes_21 ?_
    refine S_get (v := iv (sk T n a)) X fgX12_111_11 0 rfl rfl dX12_closes_22 ?_
    refine S_iconst X dX12_closes_25 ?_
    refine S_iadd X dX12_closes_26 ?_
    refine S_put X fpX12_111_11 0 rfl FT_i dX12_closes_27 ?_
    refine S_w (ws' := [(h0, ob 11 (uF (uF (uF f 3 (iv ((sk T n a) + 1))) 4 (iv (sk T n a))) 5 (iv dp))), (hT, ar 160 T)]) (by simp only [List.set]; rw [uF_mv (j := 5) (k := 3) (by decide), uF_mv (j := 4) (k := 3) (by decide), uF_same (k := 3)]) ?_
    refine S_aload_n X dX12_closes_30 rfl rfl ?_
    refine S_dup X dX12_closes_31 ?_
    refine S_get (v := iv dp) X fgX12_124_11 0 rfl rfl dX12_closes_32 ?_
    refine S_iconst X dX12_closes_35 ?_
    refine S_isub X dX12_closes_36 ?_
    refine S_put X fpX12_124_11 0 rfl FT_i dX12_closes_37 ?_
    refine S_w (ws' := [(h0, ob 11 (uF (uF (uF f 3 (iv ((sk T n a) + 1))) 4 (iv (sk T n a))) 5 (iv (dp - 1)))), (hT, ar 160 T)]) (by simp only [List.set]; rw [uF_same (k := 5)]) ?_
    exact S_vret X (nle rfl) (nle rfl) dX12_closes_40 (hPo _ (Or.inl (⟨rfl, by first | rfl | assumption | omega⟩)))
set_option maxHeartbeats 4000000 in
set_option maxRecDepth 100000 in
theorem kX12_closes_E (l : Launch) (h0 : Nat) (f : Nat → AV) (a : Int) (w : Int) (dp : Int) (c0 : Int) (hw : ¬ w = -1) (hw2 : inR w) : AMv l yX12_closes cX12_closes 2 2 0 0 [rv h0, iv c0] [(h0, ob 11 (uF (uF (uF f 3 (iv a)) 4 (iv w)) 5 (iv dp)))] (fun u => u = [(h0, ob 11 (uF (uF (uF f 3 (iv (a + 1))) 4 (iv w)) 5 (iv (dp - 1))))]) := by
  refine AMv.of2 rfl (nle rfl) ?_
  intro D G A p e s m args below meth c Po hPo hnm X
  refine S_aload_n X dX12_closes_0 rfl rfl ?_
  refine S_get (v := iv w) X fgX12_118_11 0 rfl rfl dX12_closes_1 ?_
  refine S_iconst X dX12_closes_4 ?_
  refine S_icmp_ne (tgt := 20) X dX12_closes_5 (by decide) (by omega) (by decide) (fun c_1 => ?_) (fun c_1 => by exfalso; omega)
  refine S_aload_n X dX12_closes_20 rfl rfl ?_
  refine S_dup X dX12_closes_21 ?_
  refine S_get (v := iv a) X fgX12_111_11 0 rfl rfl dX12_closes_22 ?_
  refine S_iconst X dX12_closes_25 ?_
  refine S_iadd X dX12_closes_26 ?_
  refine S_put X fpX12_111_11 0 rfl FT_i dX12_closes_27 ?_
  refine S_w (ws' := [(h0, ob 11 (uF (uF (uF f 3 (iv (a + 1))) 4 (iv w)) 5 (iv dp)))]) (by simp only [List.set]; rw [uF_mv (j := 5) (k := 3) (by decide), uF_mv (j := 4) (k := 3) (by decide), uF_same (k := 3)]) ?_
  refine S_aload_n X dX12_closes_30 rfl rfl ?_
  refine S_dup X dX12_closes_31 ?_
  refine S_get (v := iv dp) X fgX12_124_11 0 rfl rfl dX12_closes_32 ?_
  refine S_iconst X dX12_closes_35 ?_
  refine S_isub X dX12_closes_36 ?_
  refine S_put X fpX12_124_11 0 rfl FT_i dX12_closes_37 ?_
  refine S_w (ws' := [(h0, ob 11 (uF (uF (uF f 3 (iv (a + 1))) 4 (iv w)) 5 (iv (dp - 1))))]) (by simp only [List.set]; rw [uF_same (k := 5)]) ?_
  exact S_vret X (nle rfl) (nle rfl) dX12_closes_40 (hPo _ (rfl))
set_option maxHeartbeats 4000000 in
set_option maxRecDepth 100000 in
theorem kX12_plainNumber (l : Launch) (h0 : Nat) (hT : Nat) (f : Nat → AV) (T : Int → Int) (n : Int) (a : Int) (w : Int) (dp : Int) (hf0 : f 1 = rv hT) (hf1 : f 2 = iv n) (okT : okT T n) (ha : 0 ≤ a ∧ a ≤ n) (hw : w = -1) (hdg : a < n ∧ 48 ≤ T a ∧ T a ≤ 57) : AMi l yX12_plainNumber cX12_plainNumber 3 .int 1 0 0 [rv h0] [(h0, ob 11 (uF (uF (uF f 3 (iv a)) 4 (iv w)) 5 (iv dp))), (hT, ar 160 T)] (fun z u => (∃ a2 : Int, ∃ v : Int, z = v ∧ u = [(h0, ob 11 (uF (uF (uF f 3 (iv a2)) 4 (iv a2)) 5 (iv dp))), (hT, ar 160 T)] ∧ pNum T n 4 0 9999 a = .inl a2 ∧ (a + 4 ≤ a2 ∧ a2 ≤ n)) ∨ (∃ a2 : Int, ∃ v : Int, z = v ∧ u = [(h0, ob 11 (uF (uF (uF f 3 (iv a2)) 4 (iv w)) 5 (iv dp))), (hT, ar 160 T)] ∧ pNum T n 4 0 9999 a = .inr (a2, v))) := by
  refine AMi.of2 rfl (nle rfl) ?_
  intro D G A p e s m args below meth c Po hPo X
  obtain ⟨hn0, hn1, hT2⟩ := id okT
  have hska : sk T n a = a := sk_stop (by omega)
  have hcha : ch T n a = T a := if_pos hdg.1
  refine S_iconst X dX12_plainNumber_0 ?_
  refine S_istore_n X dX12_plainNumber_1 rfl (nle rfl) ?_
  refine S_iconst X dX12_plainNumber_2 ?_
  refine S_istore_n X dX12_plainNumber_3 rfl (nle rfl) ?_
  have lp4_0 : ∀ (N : Nat) (a1 : Int) (v : Int) (m1 : Int) (L : Nat → Option AV), a ≤ a1 ∧ a1 ≤ n ∧ m1 = a1 - a ∧ m1 ≤ 4 → (m1 = 0 ∧ v = 0) ∨ (m1 = 1 ∧ 0 ≤ v ∧ v ≤ 9) ∨ (m1 = 2 ∧ 0 ≤ v ∧ v ≤ 99) ∨ (m1 = 3 ∧ 0 ≤ v ∧ v ≤ 999) ∨ (m1 = 4 ∧ 0 ≤ v ∧ v ≤ 9999) → (∀ r, numF T n 4 a (6 - m1.toNat) a1 v = r → pNum T n 4 0 9999 a = numE 0 9999 r) → L 0 = some (rv h0) → L 1 = some (iv v) → L 2 = some (iv m1) → 5 - m1 < (N : Int) → S_ p l e (rmD 1 0 0) s m args below meth c (MQ below (QcI D G A Po) args s 0 0 A) D G A 3 0 0 4 L [] [(h0, ob 11 (uF (uF (uF f 3 (iv a1)) 4 (iv w)) 5 (iv dp))), (hT, ar 160 T)] := by
    intro N
    induction N with
    | zero =>
      intro a1 v m1 L4 hi1 hv hk hL4_0 hL4_1 hL4_2 hN4
      exfalso; omega
    | succ N ih4 =>
      intro a1 v m1 L4 hi1 hv hk hL4_0 hL4_1 hL4_2 hN4
      refine S_iload_n X dX12_plainNumber_4 rfl hL4_2 ?_
      refine S_iconst X dX12_plainNumber_5 ?_
      refine S_icmp_ge (tgt := 48) X dX12_plainNumber_6 (by decide) (by omega) (by decide) (fun c_1 => ?_) (fun c_1 => ?_)
      ·
        refine S_aload_n X dX12_plainNumber_48 rfl hL4_0 ?_
        refine S_calli X (kX12_here l h0 hT f T n a1 w dp hf0 hf1 (by omega) (by omega)) (is := [0, 1]) rfl (run_V X lkX12_114 0 rfl rfl (is := [0, 1]) (avs := []) (rest := []) rfl rfl (nle rfl) ⟨nle rfl, nle rfl⟩ ⟨nle rfl, nle rfl⟩ dX12_plainNumber_49 (by decide) rfl) (fun z_4 u_2 hp_3 => ?_)
        obtain ⟨hz_5, hu_6⟩ := hp_3
        subst hz_5
        subst hu_6
        refine ⟨rfl, ?_⟩
        refine S_w (ws' := [(h0, ob 11 (uF (uF (uF f 3 (iv a1)) 4 (iv w)) 5 (iv dp))), (hT, ar 160 T)]) rfl ?_
        have hcm2 := chM_or okT (a := a1) (by omega) (by omega)
        have hchT2 : a1 < n → ch T n a1 = T a1 := fun h => if_pos h
        refine S_calli X (kX12_isDigit l (chM T n a1) (by omega)) (is := []) rfl (run_S X lkX12_133 (is := []) (avs := [iv (chM T n a1)]) (rest := []) rfl rfl (nle rfl) ⟨nle rfl, nle rfl⟩ ⟨nle rfl, nle rfl⟩ dX12_plainNumber_52 (by decide) rfl) (fun z_9 u_7 hp_8 => ?_)
        rcases hp_8 with ⟨hz_10, hu_11, hd_12⟩ | ⟨hz_13, hu_14, hd_15⟩
        ·
          subst hz_10
          subst hu_11
          refine ⟨rfl, ?_⟩
          refine S_w (ws' := [(h0, ob 11 (uF (uF (uF f 3 (iv a1)) 4 (iv w)) 5 (iv dp))), (hT, ar 160 T)]) rfl ?_
          refine S_if_eq (tgt := 62) X dX12_plainNumber_55 (by decide) (by decide) (fun _ => ?_) (fun h9 => absurd h9 (by decide))
          refine S_iload_n X dX12_plainNumber_62 rfl hL4_1 ?_
          exact S_iret X (nle rfl) (nle rfl) dX12_plainNumber_63 (hPo _ _ (Or.inr ⟨_, _, rfl, rfl, (hk (.inr (a1, v)) (by rw [fuel6 (by omega) (by omega)]; exact numF_end (fun q9 => by have := (if_pos q9.1 : ch T n a1 = T a1); omega))).trans (numE_i (by omega))⟩))
        ·
          subst hz_13
          subst hu_14
          refine ⟨rfl, ?_⟩
          refine S_w (ws' := [(h0, ob 11 (uF (uF (uF f 3 (iv a1)) 4 (iv w)) 5 (iv dp))), (hT, ar 160 T)]) rfl ?_
          refine S_if_eq (tgt := 62) X dX12_plainNumber_55 (by decide) (by decide) (fun h9 => absurd h9 (by decide)) (fun _ => ?_)
          refine S_aload_n X dX12_plainNumber_58 rfl hL4_0 ?_
          refine S_callv X (kX12_bad l h0 f a1 w dp (by omega)) (is := [0]) rfl (run_V X lkX12_127 0 rfl rfl (is := [0]) (avs := []) (rest := []) rfl rfl (nle rfl) ⟨nle rfl, nle rfl⟩ ⟨nle rfl, nle rfl⟩ dX12_plainNumber_59 (by decide) rfl) (fun u_18 hp_19 => ?_)
          have hu_22 := hp_19
          subst hu_22
          refine ⟨rfl, ?_⟩
          refine S_w (ws' := [(h0, ob 11 (uF (uF (uF f 3 (iv a1)) 4 (iv a1)) 5 (iv dp))), (hT, ar 160 T)]) rfl ?_
          refine S_iload_n X dX12_plainNumber_62 rfl hL4_1 ?_
          exact S_iret X (nle rfl) (nle rfl) dX12_plainNumber_63 (hPo _ _ (Or.inl ⟨_, _, rfl, rfl, (hk (.inl a1) (by rw [fuel6 (by omega) (by omega)]; have := hchT2 (by omega); exact numF_big ⟨by omega, by omega, by omega⟩ (by omega))), by omega, by omega⟩))
      ·
        refine S_aload_n X dX12_plainNumber_9 rfl hL4_0 ?_
        refine S_calli X (kX12_here l h0 hT f T n a1 w dp hf0 hf1 (by omega) (by omega)) (is := [0, 1]) rfl (run_V X lkX12_114 0 rfl rfl (is := [0, 1]) (avs := []) (rest := []) rfl rfl (nle rfl) ⟨nle rfl, nle rfl⟩ ⟨nle rfl, nle rfl⟩ dX12_plainNumber_10 (by decide) rfl) (fun z_25 u_23 hp_24 => ?_)
        obtain ⟨hz_26, hu_27⟩ := hp_24
        subst hz_26
        subst hu_27
        refine ⟨rfl, ?_⟩
        refine S_w (ws' := [(h0, ob 11 (uF (uF (uF f 3 (iv a1)) 4 (iv w)) 5 (iv dp))), (hT, ar 160 T)]) rfl ?_
        have hcm := chM_or okT (a := a1) (by omega) (by omega)
        have hchT : a1 < n → ch T n a1 = T a1 := fun h => if_pos h
        refine S_calli X (kX12_isDigit l (chM T n a1) (by omega)) (is := []) rfl (run_S X lkX12_133 (is := []) (avs := [iv (chM T n a1)]) (rest := []) rfl rfl (nle rfl) ⟨nle rfl, nle rfl⟩ ⟨nle rfl, nle rfl⟩ dX12_plainNumber_13 (by decide) rfl) (fun z_30 u_28 hp_29 => ?_)
        rcases hp_29 with ⟨hz_31, hu_32, hd_33⟩ | ⟨hz_34, hu_35, hd_36⟩
        ·
          subst hz_31
          subst hu_32
          refine ⟨rfl, ?_⟩
          refine S_w (ws' := [(h0, ob 11 (uF (uF (uF f 3 (iv a1)) 4 (iv w)) 5 (iv dp))), (hT, ar 160 T)]) rfl ?_
          refine S_if_eq (tgt := 48) X dX12_plainNumber_16 (by decide) (by decide) (fun _ => ?_) (fun h9 => absurd h9 (by decide))
          refine S_aload_n X dX12_plainNumber_48 rfl hL4_0 ?_
          refine S_calli X (kX12_here l h0 hT f T n a1 w dp hf0 hf1 (by omega) (by omega)) (is := [0, 1]) rfl (run_V X lkX12_114 0 rfl rfl (is := [0, 1]) (avs := []) (rest := []) rfl rfl (nle rfl) ⟨nle rfl, nle rfl⟩ ⟨nle rfl, nle rfl⟩ dX12_plainNumber_49 (by decide) rfl) (fun z_40 u_38 hp_39 => ?_)
          obtain ⟨hz_41, hu_42⟩ := hp_39
          subst hz_41
          subst hu_42
          refine ⟨rfl, ?_⟩
          refine S_w (ws' := [(h0, ob 11 (uF (uF (uF f 3 (iv a1)) 4 (iv w)) 5 (iv dp))), (hT, ar 160 T)]) rfl ?_
          have hcm2 := chM_or okT (a := a1) (by omega) (by omega)
          have hchT2 : a1 < n → ch T n a1 = T a1 := fun h => if_pos h
          refine S_calli X (kX12_isDigit l (chM T n a1) (by omega)) (is := []) rfl (run_S X lkX12_133 (is := []) (avs := [iv (chM T n a1)]) (rest := []) rfl rfl (nle rfl) ⟨nle rfl, nle rfl⟩ ⟨nle rfl, nle rfl⟩ dX12_plainNumber_52 (by decide) rfl) (fun z_45 u_43 hp_44 => ?_)
          rcases hp_44 with ⟨hz_46, hu_47, hd_48⟩ | ⟨hz_49, hu_50, hd_51⟩
          ·
            subst hz_46
            subst hu_47
            refine ⟨rfl, ?_⟩
            refine S_w (ws' := [(h0, ob 11 (uF (uF (uF f 3 (iv a1)) 4 (iv w)) 5 (iv dp))), (hT, ar 160 T)]) rfl ?_
            refine S_if_eq (tgt := 62) X dX12_plainNumber_55 (by decide) (by decide) (fun _ => ?_) (fun h9 => absurd h9 (by decide))
            refine S_iload_n X dX12_plainNumber_62 rfl hL4_1 ?_
            exact S_iret X (nle rfl) (nle rfl) dX12_plainNumber_63 (hPo _ _ (Or.inr ⟨_, _, rfl, rfl, (hk (.inr (a1, v)) (by rw [fuel6 (by omega) (by omega)]; exact numF_end (fun q9 => by have := (if_pos q9.1 : ch T n a1 = T a1); omega))).trans (numE_i (by omega))⟩))
          ·
            subst hz_49
            subst hu_50
            refine ⟨rfl, ?_⟩
            refine S_w (ws' := [(h0, ob 11 (uF (uF (uF f 3 (iv a1)) 4 (iv w)) 5 (iv dp))), (hT, ar 160 T)]) rfl ?_
            refine S_if_eq (tgt := 62) X dX12_plainNumber_55 (by decide) (by decide) (fun h9 => absurd h9 (by decide)) (fun _ => ?_)
            refine S_aload_n X dX12_plainNumber_58 rfl hL4_0 ?_
            refine S_callv X (kX12_bad l h0 f a1 w dp (by omega)) (is := [0]) rfl (run_V X lkX12_127 0 rfl rfl (is := [0]) (avs := []) (rest := []) rfl rfl (nle rfl) ⟨nle rfl, nle rfl⟩ ⟨nle rfl, nle rfl⟩ dX12_plainNumber_59 (by decide) rfl) (fun u_54 hp_55 => ?_)
            have hu_58 := hp_55
            subst hu_58
            refine ⟨rfl, ?_⟩
            refine S_w (ws' := [(h0, ob 11 (uF (uF (uF f 3 (iv a1)) 4 (iv a1)) 5 (iv dp))), (hT, ar 160 T)]) rfl ?_
            refine S_iload_n X dX12_plainNumber_62 rfl hL4_1 ?_
            exact S_iret X (nle rfl) (nle rfl) dX12_plainNumber_63 (hPo _ _ (Or.inl ⟨_, _, rfl, rfl, (hk (.inl a1) (by rw [fuel6 (by omega) (by omega)]; have := hchT2 (by omega); exact numF_big ⟨by omega, by omega, by omega⟩ (by omega))), by omega, by omega⟩))
        ·
          subst hz_34
          subst hu_35
          refine ⟨rfl, ?_⟩
          refine S_w (ws' := [(h0, ob 11 (uF (uF (uF f 3 (iv a1)) 4 (iv w)) 5 (iv dp))), (hT, ar 160 T)]) rfl ?_
          refine S_if_eq (tgt := 48) X dX12_plainNumber_16 (by decide) (by decide) (fun h9 => absurd h9 (by decide)) (fun _ => ?_)
          refine S_bipush X dX12_plainNumber_19 rfl ?_
          refine S_iload_n X dX12_plainNumber_21 rfl hL4_1 ?_
          refine S_imul X dX12_plainNumber_22 ?_
          refine S_aload_n X dX12_plainNumber_23 rfl hL4_0 ?_
          refine S_calli X (kX12_here l h0 hT f T n a1 w dp hf0 hf1 (by omega) (by omega)) (is := [0, 1]) rfl (run_V X lkX12_114 0 rfl rfl (is := [0, 1]) (avs := []) (rest := [iv (10 * v)]) rfl rfl (nle rfl) ⟨nle rfl, nle rfl⟩ ⟨nle rfl, nle rfl⟩ dX12_plainNumber_24 (by decide) rfl) (fun z_62 u_60 hp_61 => ?_)
          obtain ⟨hz_63, hu_64⟩ := hp_61
          subst hz_63
          subst hu_64
          refine ⟨rfl, ?_⟩
          refine S_w (ws' := [(h0, ob 11 (uF (uF (uF f 3 (iv a1)) 4 (iv w)) 5 (iv dp))), (hT, ar 160 T)]) rfl ?_
          have hlt : a1 < n := by omega
          have hT32 := hchT hlt
          refine S_iadd X dX12_plainNumber_27 ?_
          refine S_bipush X dX12_plainNumber_28 rfl ?_
          refine S_isub X dX12_plainNumber_30 ?_
          refine S_istore_n X dX12_plainNumber_31 rfl (nle rfl) ?_
          refine S_aload_n X dX12_plainNumber_32 rfl hL4_0 ?_
          refine S_dup X dX12_plainNumber_33 ?_
          refine S_get (v := iv a1) X fgX12_111_11 0 rfl rfl dX12_plainNumber_34 ?_
          refine S_iconst X dX12_plainNumber_37 ?_
          refine S_iadd X dX12_plainNumber_38 ?_
          refine S_put X fpX12_111_11 0 rfl FT_i dX12_plainNumber_39 ?_
          refine S_w (ws' := [(h0, ob 11 (uF (uF (uF f 3 (iv (a1 + 1))) 4 (iv w)) 5 (iv dp))), (hT, ar 160 T)]) (by simp only [List.set]; rw [uF_mv (j := 5) (k := 3) (by decide), uF_mv (j := 4) (k := 3) (by decide), uF_same (k := 3)]) ?_
          refine S_iinc X dX12_plainNumber_42 (nle rfl) hL4_2 ?_
          refine S_goto (tgt := 4) X dX12_plainNumber_45 (by decide) ?_
          exact ih4 (a1 + 1) (((10 * v) + (chM T n a1)) - 48) (m1 + 1) _ (by omega) (by omega) (fun r9 h9 => hk r9 (by rw [show 6 - m1.toNat = (6 - (m1 + 1).toNat) + 1 by omega, numF_dig ⟨by omega, by omega, by omega⟩ (by omega)]; rw [show v * 10 + T a1 - 48 = 10 * v + chM T n a1 - 48 by omega]; exact h9)) hL4_0 rfl rfl (by omega)
  exact lp4_0 (Int.toNat (5 - 0) + 1) a 0 0 _ (by omega) (by omega) (fun r9 h9 => by unfold pNum; rw [hska, if_pos (by omega)]; exact congrArg (numE 0 9999) h9) rfl rfl rfl (by omega)
end pt_20ref1
