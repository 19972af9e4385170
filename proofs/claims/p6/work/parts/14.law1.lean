theorem sumL_a {T : Int → Int} {n w a b : Int} {atom : Int → LR} {f : Nat} {acc ts : List Int} (h : ch T n (sk T n a) = 43 ∨ ch T n (sk T n a) = 45) (h2 : atom (sk T n a + 1) = .inr (b, ts)) : sumL T n atom (f + 1) w a acc = sumL T n atom f (ch T n (sk T n a)) b ((if w = 0 then acc else acc ++ [-w]) ++ ts) := by rw [sumL, if_pos h, h2]
theorem sumL_af {T : Int → Int} {n w a g : Int} {atom : Int → LR} {f : Nat} {acc : List Int} (h : ch T n (sk T n a) = 43 ∨ ch T n (sk T n a) = 45) (h2 : atom (sk T n a + 1) = .inl g) : sumL T n atom (f + 1) w a acc = .inl g := by rw [sumL, if_pos h, h2]
theorem sumL_m {T : Int → Int} {n w a b : Int} {atom : Int → LR} {f : Nat} {acc ts : List Int} (h : ch T n (sk T n a) = 42 ∨ ch T n (sk T n a) = 47) (h2 : atom (sk T n a + 1) = .inr (b, ts)) : sumL T n atom (f + 1) w a acc = sumL T n atom f w b (acc ++ ts ++ [-ch T n (sk T n a)]) := by rw [sumL, if_neg (by omega), if_pos h, h2]
theorem sumL_mf {T : Int → Int} {n w a g : Int} {atom : Int → LR} {f : Nat} {acc : List Int} (h : ch T n (sk T n a) = 42 ∨ ch T n (sk T n a) = 47) (h2 : atom (sk T n a + 1) = .inl g) : sumL T n atom (f + 1) w a acc = .inl g := by rw [sumL, if_neg (by omega), if_pos h, h2]
theorem sumL_e {T : Int → Int} {n w a : Int} {atom : Int → LR} {f : Nat} {acc : List Int} (h : ¬ (ch T n (sk T n a) = 43 ∨ ch T n (sk T n a) = 45)) (h2 : ¬ (ch T n (sk T n a) = 42 ∨ ch T n (sk T n a) = 47)) : sumL T n atom (f + 1) w a acc = .inr (sk T n a, if w = 0 then acc else acc ++ [-w]) := by rw [sumL, if_neg h, if_neg h2]
theorem pSum_f {T : Int → Int} {n a f : Int} {k : Nat} (h : pAtom T n k a = .inl f) : pSum T n k a = .inl f := by rw [pSum_eq]; unfold sumG; rw [h]
theorem pSum_r {T : Int → Int} {n a b : Int} {k : Nat} {ts : List Int} (h : pAtom T n k a = .inr (b, ts)) : pSum T n k a = sumL T n (pAtom T n k) 161 0 b ts := by rw [pSum_eq]; unfold sumG; rw [h]
theorem pAtom_0 (T : Int → Int) (n : Int) : pAtom T n 0 = atomG T n (fun _ => .inl 0) 0 := rfl
theorem pAtom_s (T : Int → Int) (n : Int) (k : Nat) : pAtom T n (k + 1) = atomG T n (pSum T n k) (k + 1) := rfl
theorem pAtom_num {T : Int → Int} {n a : Int} {k : Nat} (h : 48 ≤ ch T n (sk T n a) ∧ ch T n (sk T n a) ≤ 57) : pAtom T n k a = (match pNum T n 4 0 9999 (sk T n a) with | .inl f => .inl f | .inr q => .inr (q.1, [q.2])) := by
  cases k with
  | zero => rw [pAtom_0, atomG, if_pos h]; rfl
  | succ k => rw [pAtom_s, atomG, if_pos h]; rfl
theorem pAtom_let {T : Int → Int} {n a : Int} {k : Nat} (h : ¬ (48 ≤ ch T n (sk T n a) ∧ ch T n (sk T n a) ≤ 57)) (h2 : ch T n (sk T n a) = 100 ∨ ch T n (sk T n a) = 119 ∨ ch T n (sk T n a) = 109 ∨ ch T n (sk T n a) = 110 ∨ ch T n (sk T n a) = 111) : pAtom T n k a = .inr (sk T n a + 1, [-ch T n (sk T n a)]) := by
  cases k with
  | zero => rw [pAtom_0, atomG, if_neg h, if_pos h2]
  | succ k => rw [pAtom_s, atomG, if_neg h, if_pos h2]
theorem pAtom_no {T : Int → Int} {n a : Int} {k : Nat} (h : ¬ (48 ≤ ch T n (sk T n a) ∧ ch T n (sk T n a) ≤ 57)) (h2 : ¬ (ch T n (sk T n a) = 100 ∨ ch T n (sk T n a) = 119 ∨ ch T n (sk T n a) = 109 ∨ ch T n (sk T n a) = 110 ∨ ch T n (sk T n a) = 111)) (h3 : ¬ (ch T n (sk T n a) = 91 ∧ k ≠ 0)) : pAtom T n k a = .inl (sk T n a) := by
  cases k with
  | zero => rw [pAtom_0, atomG, if_neg h, if_neg h2, if_neg h3]
  | succ k => rw [pAtom_s, atomG, if_neg h, if_neg h2, if_neg h3]
theorem pAtom_brf {T : Int → Int} {n a f : Int} {k : Nat} (h : ch T n (sk T n a) = 91) (h2 : pSum T n k (sk T n a + 1) = .inl f) : pAtom T n (k + 1) a = .inl f := by
  rw [pAtom_s, atomG, if_neg (by omega), if_neg (by omega), if_pos ⟨h, by omega⟩, h2]
theorem pAtom_br {T : Int → Int} {n a b : Int} {k : Nat} {ts : List Int} (h : ch T n (sk T n a) = 91) (h2 : pSum T n k (sk T n a + 1) = .inr (b, ts)) : pAtom T n (k + 1) a = if ch T n (sk T n b) = 93 then .inr (sk T n b + 1, ts) else .inl (sk T n b) := by
  rw [pAtom_s, atomG, if_neg (by omega), if_neg (by omega), if_pos ⟨h, by omega⟩, h2]
theorem cmp_f {T : Int → Int} {n a f : Int} {k : Nat} (h : ch T n (sk T n a) = 61 ∨ ch T n (sk T n a) = 60 ∨ ch T n (sk T n a) = 62) (h2 : pSum T n k (sk T n a + 1) = .inl f) : cmpG T n k a = .inl f := by rw [cmpG, if_pos h, h2]
theorem cmp_r {T : Int → Int} {n a b : Int} {k : Nat} {ts : List Int} (h : ch T n (sk T n a) = 61 ∨ ch T n (sk T n a) = 60 ∨ ch T n (sk T n a) = 62) (h2 : pSum T n k (sk T n a + 1) = .inr (b, ts)) : cmpG T n k a = .inr (b, ts ++ [-ch T n (sk T n a)]) := by rw [cmpG, if_pos h, h2]
theorem cmp_n {T : Int → Int} {n a : Int} {k : Nat} (h : ¬ (ch T n (sk T n a) = 61 ∨ ch T n (sk T n a) = 60 ∨ ch T n (sk T n a) = 62)) : cmpG T n k a = .inl (sk T n a) := by rw [cmpG, if_neg h]
set_option maxHeartbeats 4000000 in
set_option maxRecDepth 100000 in
theorem kX2_clear (l : Launch) (h0 : Nat) (f : Nat → AV) (a : Int) (w : Int) (x : Int) : AMv l yX2_clear cX2_clear 1 0 0 0 [rv h0] [(h0, ob 2 (uF (uF (uF f 1 (iv a)) 2 (iv w)) 4 (iv x)))] (fun u => u = [(h0, ob 2 (uF (uF (uF f 1 (iv a)) 2 (iv w)) 4 (iv 0)))]) := by
  refine AMv.of2 rfl (nle rfl) ?_
  intro D G A p e s m args below meth c Po hPo hnm X
  refine S_aload_n X dX2_clear_0 rfl rfl ?_
  refine S_iconst X dX2_clear_1 ?_
  refine S_put X fpX2_17_2 0 rfl FT_i dX2_clear_2 ?_
  refine S_w (ws' := [(h0, ob 2 (uF (uF (uF f 1 (iv a)) 2 (iv w)) 4 (iv 0)))]) (by simp only [List.set]; rw [uF_same (k := 4)]) ?_
  exact S_vret X (nle rfl) (nle rfl) dX2_clear_5 (hPo _ (rfl))
set_option maxHeartbeats 4000000 in
set_option maxRecDepth 100000 in
theorem kX2_isWhole (l : Launch) (h0 : Nat) : AMi l yX2_isWhole cX2_isWhole 1 .boolean 0 0 0 [rv h0] [] (fun z u => z = 1 ∧ u = []) := by
  refine AMi.of2 rfl (nle rfl) ?_
  intro D G A p e s m args below meth c Po hPo X
  refine S_iconst X dX2_isWhole_0 ?_
  exact S_zret X (Or.inr rfl) (nle rfl) (nle rfl) dX2_isWhole_1 (hPo _ _ (⟨by first | rfl | omega, rfl⟩))
set_option maxHeartbeats 4000000 in
set_option maxRecDepth 100000 in
theorem kX2_isComparison (l : Launch) (c0 : Int) (hc : inR c0) : AMi l yX2_isComparison cX2_isComparison 1 .boolean 0 0 0 [iv c0] [] (fun z u => (z = 0 ∧ u = [] ∧ (¬ (c0 = 61 ∨ c0 = 60 ∨ c0 = 62))) ∨ (z = 1 ∧ u = [] ∧ (c0 = 61 ∨ c0 = 60 ∨ c0 = 62))) := by
  refine AMi.of2 rfl (nle rfl) ?_
  intro D G A p e s m args below meth c Po hPo X
  refine S_iload_n X dX2_isComparison_0 rfl rfl ?_
  refine S_bipush X dX2_isComparison_1 rfl ?_
  refine S_icmp_eq (tgt := 18) X dX2_isComparison_3 (by decide) (by omega) (by decide) (fun c_1 => ?_) (fun c_1 => ?_)
  ·
    refine S_iconst X dX2_isComparison_18 ?_
    refine S_goto (tgt := 23) X dX2_isComparison_19 (by decide) ?_
    exact S_zret X (Or.inr rfl) (nle rfl) (nle rfl) dX2_isComparison_23 (hPo _ _ (Or.inr (⟨by first | rfl | omega, rfl, by first | rfl | assumption | omega⟩)))
  ·
    refine S_iload_n X dX2_isComparison_6 rfl rfl ?_
    refine S_bipush X dX2_isComparison_7 rfl ?_
    refine S_icmp_eq (tgt := 18) X dX2_isComparison_9 (by decide) (by omega) (by decide) (fun c_2 => ?_) (fun c_2 => ?_)
    ·
      refine S_iconst X dX2_isComparison_18 ?_
      refine S_goto (tgt := 23) X dX2_isComparison_19 (by decide) ?_
      exact S_zret X (Or.inr rfl) (nle rfl) (nle rfl) dX2_isComparison_23 (hPo _ _ (Or.inr (⟨by first | rfl | omega, rfl, by first | rfl | assumption | omega⟩)))
    ·
      refine S_iload_n X dX2_isComparison_12 rfl rfl ?_
      refine S_bipush X dX2_isComparison_13 rfl ?_
      refine S_icmp_ne (tgt := 22) X dX2_isComparison_15 (by decide) (by omega) (by decide) (fun c_3 => ?_) (fun c_3 => ?_)
      ·
        refine S_iconst X dX2_isComparison_22 ?_
        exact S_zret X (Or.inl rfl) (nle rfl) (nle rfl) dX2_isComparison_23 (hPo _ _ (Or.inl (⟨by first | rfl | omega, rfl, by first | rfl | assumption | omega⟩)))
      ·
        refine S_iconst X dX2_isComparison_18 ?_
        refine S_goto (tgt := 23) X dX2_isComparison_19 (by decide) ?_
        exact S_zret X (Or.inr rfl) (nle rfl) (nle rfl) dX2_isComparison_23 (hPo _ _ (Or.inr (⟨by first | rfl | omega, rfl, by first | rfl | assumption | omega⟩)))
set_option maxHeartbeats 4000000 in
set_option maxRecDepth 100000 in
theorem kX2_emit (l : Launch) (h0 : Nat) (f : Nat → AV) (a : Int) (w : Int) (x : Int) (hc : Nat) (C : Int → Int) (t0 : Int) (hf0 : f 3 = rv hc) (hx : 0 ≤ x ∧ x < 160) : AMi l yX2_emit cX2_emit 2 .boolean 0 0 0 [rv h0, iv t0] [(h0, ob 2 (uF (uF (uF f 1 (iv a)) 2 (iv w)) 4 (iv x))), (hc, ar 160 C)] (fun z u => z = 1 ∧ u = [(h0, ob 2 (uF (uF (uF f 1 (iv a)) 2 (iv w)) 4 (iv (x + 1)))), (hc, ar 160 (uZ C x t0))]) := by
  refine AMi.of2 rfl (nle rfl) ?_
  intro D G A p e s m args below meth c Po hPo X
  refine S_aload_n X dX2_emit_0 rfl rfl ?_
  refine S_get (v := iv x) X fgX2_17_2 0 rfl rfl dX2_emit_1 ?_
  refine S_sipush X dX2_emit_4 rfl ?_
  refine S_icmp_ge (tgt := 30) X dX2_emit_7 (by decide) (by omega) (by decide) (fun c_1 => by exfalso; omega) (fun c_1 => ?_)
  refine S_aload_n X dX2_emit_10 rfl rfl ?_
  refine S_get X fgX2_11_2 0 rfl hf0 dX2_emit_11 ?_
  refine S_aload_n X dX2_emit_14 rfl rfl ?_
  refine S_get (v := iv x) X fgX2_17_2 0 rfl rfl dX2_emit_15 ?_
  refine S_iload_n X dX2_emit_18 rfl rfl ?_
  refine S_iast X 1 rfl (by omega) (by omega) (nle rfl) dX2_emit_19 ?_
  refine S_w (ws' := [(h0, ob 2 (uF (uF (uF f 1 (iv a)) 2 (iv w)) 4 (iv x))), (hc, ar 160 (uZ C x t0))]) rfl ?_
  refine S_aload_n X dX2_emit_20 rfl rfl ?_
  refine S_dup X dX2_emit_21 ?_
  refine S_get (v := iv x) X fgX2_17_2 0 rfl rfl dX2_emit_22 ?_
  refine S_iconst X dX2_emit_25 ?_
  refine S_iadd X dX2_emit_26 ?_
  refine S_put X fpX2_17_2 0 rfl FT_i dX2_emit_27 ?_
  refine S_w (ws' := [(h0, ob 2 (uF (uF (uF f 1 (iv a)) 2 (iv w)) 4 (iv (x + 1)))), (hc, ar 160 (uZ C x t0))]) (by simp only [List.set]; rw [uF_same (k := 4)]) ?_
  refine S_iconst X dX2_emit_30 ?_
  exact S_zret X (Or.inr rfl) (nle rfl) (nle rfl) dX2_emit_31 (hPo _ _ (⟨by first | rfl | omega, rfl⟩))
def C_X2_sum (l : Launch) (K : Nat) (d : Nat) : Prop := ∀ (h0 : Nat) (ht : Nat) (hb : Nat) (f : Nat → AV) (ft : Nat → AV) (T : Int → Int) (n : Int) (a : Int) (w : Int) (x : Int) (hc : Nat) (C : Int → Int) (wi : Int), (f 0 = rv ht) → (ft 0 = rv hb) → (ft 1 = iv n) → (f 3 = rv hc) → (okT T n) → (0 ≤ a ∧ a ≤ n) → (0 ≤ x ∧ x < a) → (wi + K = 6) → (0 ≤ wi) → AMi l yX2_sum cX2_sum 6 .boolean d 0 0 [rv h0, iv wi] [(h0, ob 2 (uF (uF (uF f 1 (iv a)) 2 (iv w)) 4 (iv x))), (ht, ob 6 ft), (hb, ar 160 T), (hc, ar 160 C)] (fun z u => (∃ a2 : Int, ∃ fl : Int, ∃ x2 : Int, ∃ C2 : Int → Int, z = 0 ∧ u = [(h0, ob 2 (uF (uF (uF f 1 (iv a2)) 2 (iv fl)) 4 (iv x2))), (ht, ob 6 ft), (hb, ar 160 T), (hc, ar 160 C2)] ∧ pSum T n K a = .inl fl) ∨ (∃ a2 : Int, ∃ ts : List Int, z = 1 ∧ u = [(h0, ob 2 (uF (uF (uF f 1 (iv a2)) 2 (iv w)) 4 (iv (x + (ts.length : Int))))), (ht, ob 6 ft), (hb, ar 160 T), (hc, ar 160 (wrL C x ts))] ∧ pSum T n K a = .inr (a2, ts)))
def C_X2_atom (l : Launch) (K : Nat) (d : Nat) : Prop := ∀ (h0 : Nat) (ht : Nat) (hb : Nat) (f : Nat → AV) (ft : Nat → AV) (T : Int → Int) (n : Int) (a : Int) (w : Int) (x : Int) (hc : Nat) (C : Int → Int) (wi : Int), (f 0 = rv ht) → (ft 0 = rv hb) → (ft 1 = iv n) → (f 3 = rv hc) → (okT T n) → (0 ≤ a ∧ a ≤ n) → (0 ≤ x ∧ x < a) → (wi + K = 6) → (0 ≤ wi) → AMi l yX2_atom cX2_atom 4 .boolean d 0 0 [rv h0, iv wi] [(h0, ob 2 (uF (uF (uF f 1 (iv a)) 2 (iv w)) 4 (iv x))), (ht, ob 6 ft), (hb, ar 160 T), (hc, ar 160 C)] (fun z u => (∃ a2 : Int, ∃ fl : Int, ∃ x2 : Int, ∃ C2 : Int → Int, z = 0 ∧ u = [(h0, ob 2 (uF (uF (uF f 1 (iv a2)) 2 (iv fl)) 4 (iv x2))), (ht, ob 6 ft), (hb, ar 160 T), (hc, ar 160 C2)] ∧ pAtom T n K a = .inl fl) ∨ (∃ a2 : Int, ∃ ts : List Int, z = 1 ∧ u = [(h0, ob 2 (uF (uF (uF f 1 (iv a2)) 2 (iv w)) 4 (iv (x + (ts.length : Int))))), (ht, ob 6 ft), (hb, ar 160 T), (hc, ar 160 (wrL C x ts))] ∧ pAtom T n K a = .inr (a2, ts)))
def C_X2_comparison (l : Launch) (K : Nat) (d : Nat) : Prop := ∀ (h0 : Nat) (ht : Nat) (hb : Nat) (f : Nat → AV) (ft : Nat → AV) (T : Int → Int) (n : Int) (a : Int) (w : Int) (x : Int) (hc : Nat) (C : Int → Int) (wi : Int), (f 0 = rv ht) → (ft 0 = rv hb) → (ft 1 = iv n) → (f 3 = rv hc) → (okT T n) → (0 ≤ a ∧ a ≤ n) → (0 ≤ x ∧ x < a) → (wi + K = 6) → (0 ≤ wi) → AMi l yX2_comparison cX2_comparison 3 .boolean d 0 0 [rv h0, iv wi] [(h0, ob 2 (uF (uF (uF f 1 (iv a)) 2 (iv w)) 4 (iv x))), (ht, ob 6 ft), (hb, ar 160 T), (hc, ar 160 C)] (fun z u => (∃ a2 : Int, ∃ fl : Int, ∃ x2 : Int, ∃ C2 : Int → Int, z = 0 ∧ u = [(h0, ob 2 (uF (uF (uF f 1 (iv a2)) 2 (iv fl)) 4 (iv x2))), (ht, ob 6 ft), (hb, ar 160 T), (hc, ar 160 C2)] ∧ cmpG T n K a = .inl fl) ∨ (∃ a2 : Int, ∃ ts : List Int, z = 1 ∧ u = [(h0, ob 2 (uF (uF (uF f 1 (iv a2)) 2 (iv w)) 4 (iv (x + (ts.length : Int))))), (ht, ob 6 ft), (hb, ar 160 T), (hc, ar 160 (wrL C x ts))] ∧ cmpG T n K a = .inr (a2, ts)))
set_option maxHeartbeats 4000000 in
set_option maxRecDepth 100000 in
theorem kX2_atom (l : Launch) (K : Nat) (d : Nat) (hd : 5 ≤ d) (hnx : ∀ K2 : Nat, K = K2 + 1 → C_X2_sum l K2 d) : C_X2_atom l K (d + 1) := by
  intro h0 ht hb f ft T n a w x hc C wi hf0 hf1 hf2 hf3 hT ha hx hw h6
  refine AMi.of2 rfl (nle rfl) ?_
  intro D G A p e s m args below meth c Po hPo X
  obtain ⟨hn0, hn1, hT2⟩ := id hT
  have hsk := sk_in (T := T) ha.2
  have hch := ch_in (a := sk T n a) hT (by omega)
  refine S_aload_n X dX2_atom_0 rfl rfl ?_
  refine S_calli X (kX5_peek_2 l h0 ht hb f ft T n a w x hf0 hf1 hf2 (by omega) (by omega)) (is := [0, 1, 2]) rfl (run_U X lkX2_40_2 0 rfl rfl (is := [0, 1, 2]) (avs := []) (rest := []) rfl rfl (nle rfl) ⟨by simp only [rmD]; omega, by simp only [rmD]; omega⟩ ⟨nle rfl, nle rfl⟩ dX2_atom_1 (by decide) rfl) (fun z_3 u_1 hp_2 => ?_)
  obtain ⟨hz_4, hu_5⟩ := hp_2
  subst hz_4
  subst hu_5
  refine ⟨rfl, ?_⟩
  refine S_w (ws' := [(h0, ob 2 (uF (uF (uF f 1 (iv (sk T n a))) 2 (iv w)) 4 (iv x))), (ht, ob 6 ft), (hb, ar 160 T), (hc, ar 160 C)]) rfl ?_
  refine S_istore_n X dX2_atom_4 rfl (nle rfl) ?_
  refine S_iload_n X dX2_atom_5 rfl rfl ?_
  refine S_calli X (kX5_isDigit l (ch T n (sk T n a)) (by omega)) (is := []) rfl (run_SU X lkX2_77 (is := []) (avs := [iv (ch T n (sk T n a))]) (rest := []) rfl rfl (nle rfl) ⟨by simp only [rmD]; omega, by simp only [rmD]; omega⟩ ⟨nle rfl, nle rfl⟩ dX2_atom_6 (by decide) rfl) (fun z_8 u_6 hp_7 => ?_)
  rcases hp_7 with ⟨hz_9, hu_10, hd_11⟩ | ⟨hz_12, hu_13, hd_14⟩
  ·
    subst hz_9
    subst hu_10
    refine ⟨rfl, ?_⟩
    refine S_w (ws' := [(h0, ob 2 (uF (uF (uF f 1 (iv (sk T n a))) 2 (iv w)) 4 (iv x))), (ht, ob 6 ft), (hb, ar 160 T), (hc, ar 160 C)]) rfl ?_
    refine S_if_eq (tgt := 41) X dX2_atom_9 (by decide) (by decide) (fun _ => ?_) (fun h9 => absurd h9 (by decide))
    refine S_iload_n X dX2_atom_41 rfl rfl ?_
    refine S_bipush X dX2_atom_42 rfl ?_
    refine S_icmp_eq (tgt := 71) X dX2_atom_44 (by decide) (by omega) (by decide) (fun c_16 => ?_) (fun c_16 => ?_)
    ·
      have hlt : sk T n a < n := ch_lt (T := T) (by omega)
      refine S_aload_n X dX2_atom_71 rfl rfl ?_
      refine S_dup X dX2_atom_72 ?_
      refine S_get (v := iv (sk T n a)) X fgX2_68_2 0 rfl rfl dX2_atom_73 ?_
      refine S_iconst X dX2_atom_76 ?_
      refine S_iadd X dX2_atom_77 ?_
      refine S_put X fpX2_68_2 0 rfl FT_i dX2_atom_78 ?_
      refine S_w (ws' := [(h0, ob 2 (uF (uF (uF f 1 (iv ((sk T n a) + 1))) 2 (iv w)) 4 (iv x))), (ht, ob 6 ft), (hb, ar 160 T), (hc, ar 160 C)]) (by simp only [List.set]; rw [uF_mv (j := 4) (k := 1) (by decide), uF_mv (j := 2) (k := 1) (by decide), uF_same (k := 1)]) ?_
      refine S_aload_n X dX2_atom_81 rfl rfl ?_
      refine S_iload_n X dX2_atom_82 rfl rfl ?_
      refine S_ineg X dX2_atom_83 ?_
      refine S_calli X (kX2_emit l h0 f ((sk T n a) + 1) w x hc C (-(ch T n (sk T n a))) hf3 (by (try simp only [List.length_append, List.length_singleton, Int.natCast_add, Int.natCast_one]); omega)) (is := [0, 3]) rfl (run_V X lkX2_56 0 rfl rfl (is := [0, 3]) (avs := [iv (-(ch T n (sk T n a)))]) (rest := []) rfl rfl (nle rfl) ⟨by simp only [rmD]; omega, by simp only [rmD]; omega⟩ ⟨nle rfl, nle rfl⟩ dX2_atom_84 (by decide) rfl) (fun z_19 u_17 hp_18 => ?_)
      obtain ⟨hz_20, hu_21⟩ := hp_18
      subst hz_20
      subst hu_21
      refine ⟨rfl, ?_⟩
      refine S_w (ws' := [(h0, ob 2 (uF (uF (uF f 1 (iv ((sk T n a) + 1))) 2 (iv w)) 4 (iv (x + 1)))), (ht, ob 6 ft), (hb, ar 160 T), (hc, ar 160 (uZ C x (-(ch T n (sk T n a)))))]) rfl ?_
      refine S_w (ws' := [(h0, ob 2 (uF (uF (uF f 1 (iv ((sk T n a) + 1))) 2 (iv w)) 4 (iv (x + (([-ch T n (sk T n a)]).length : Int))))), (ht, ob 6 ft), (hb, ar 160 T), (hc, ar 160 (wrL C x ([-ch T n (sk T n a)])))]) (by simp only [wrL_app, wrL, List.length_append, List.length_singleton, Int.natCast_add, Int.natCast_one, Int.add_assoc, List.append_assoc]) ?_
      exact S_zret X (Or.inr rfl) (nle rfl) (nle rfl) dX2_atom_87 (hPo _ _ (Or.inr ⟨_, [-ch T n (sk T n a)], rfl, rfl, pAtom_let (by assumption) (by omega)⟩))
    ·
      refine S_iload_n X dX2_atom_47 rfl rfl ?_
      refine S_bipush X dX2_atom_48 rfl ?_
      refine S_icmp_eq (tgt := 71) X dX2_atom_50 (by decide) (by omega) (by decide) (fun c_22 => ?_) (fun c_22 => ?_)
      ·
        have hlt : sk T n a < n := ch_lt (T := T) (by omega)
        refine S_aload_n X dX2_atom_71 rfl rfl ?_
        refine S_dup X dX2_atom_72 ?_
        refine S_get (v := iv (sk T n a)) X fgX2_68_2 0 rfl rfl dX2_atom_73 ?_
        refine S_iconst X dX2_atom_76 ?_
        refine S_iadd X dX2_atom_77 ?_
        refine S_put X fpX2_68_2 0 rfl FT_i dX2_atom_78 ?_
        refine S_w (ws' := [(h0, ob 2 (uF (uF (uF f 1 (iv ((sk T n a) + 1))) 2 (iv w)) 4 (iv x))), (ht, ob 6 ft), (hb, ar 160 T), (hc, ar 160 C)]) (by simp only [List.set]; rw [uF_mv (j := 4) (k := 1) (by decide), uF_mv (j := 2) (k := 1) (by decide), uF_same (k := 1)]) ?_
        refine S_aload_n X dX2_atom_81 rfl rfl ?_
        refine S_iload_n X dX2_atom_82 rfl rfl ?_
        refine S_ineg X dX2_atom_83 ?_
        refine S_calli X (kX2_emit l h0 f ((sk T n a) + 1) w x hc C (-(ch T n (sk T n a))) hf3 (by (try simp only [List.length_append, List.length_singleton, Int.natCast_add, Int.natCast_one]); omega)) (is := [0, 3]) rfl (run_V X lkX2_56 0 rfl rfl (is := [0, 3]) (avs := [iv (-(ch T n (sk T n a)))]) (rest := []) rfl rfl (nle rfl) ⟨by simp only [rmD]; omega, by simp only [rmD]; omega⟩ ⟨nle rfl, nle rfl⟩ dX2_atom_84 (by decide) rfl) (fun z_25 u_23 hp_24 => ?_)
        obtain ⟨hz_26, hu_27⟩ := hp_24
        subst hz_26
        subst hu_27
        refine ⟨rfl, ?_⟩
        refine S_w (ws' := [(h0, ob 2 (uF (uF (uF f 1 (iv ((sk T n a) + 1))) 2 (iv w)) 4 (iv (x + 1)))), (ht, ob 6 ft), (hb, ar 160 T), (hc, ar 160 (uZ C x (-(ch T n (sk T n a)))))]) rfl ?_
        refine S_w (ws' := [(h0, ob 2 (uF (uF (uF f 1 (iv ((sk T n a) + 1))) 2 (iv w)) 4 (iv (x + (([-ch T n (sk T n a)]).length : Int))))), (ht, ob 6 ft), (hb, ar 160 T), (hc, ar 160 (wrL C x ([-ch T n (sk T n a)])))]) (by simp only [wrL_app, wrL, List.length_append, List.length_singleton, Int.natCast_add, Int.natCast_one, Int.add_assoc, List.append_assoc]) ?_
        exact S_zret X (Or.inr rfl) (nle rfl) (nle rfl) dX2_atom_87 (hPo _ _ (Or.inr ⟨_, [-ch T n (sk T n a)], rfl, rfl, pAtom_let (by assumption) (by omega)⟩))
      ·
        refine S_iload_n X dX2_atom_53 rfl rfl ?_
        refine S_bipush X dX2_atom_54 rfl ?_
        refine S_icmp_eq (tgt := 71) X dX2_atom_56 (by decide) (by omega) (by decide) (fun c_28 => ?_) (fun c_28 => ?_)
        ·
          have hlt : sk T n a < n := ch_lt (T := T) (by omega)
          refine S_aload_n X dX2_atom_71 rfl rfl ?_
          refine S_dup X dX2_atom_72 ?_
          refine S_get (v := iv (sk T n a)) X fgX2_68_2 0 rfl rfl dX2_atom_73 ?_
          refine S_iconst X dX2_atom_76 ?_
          refine S_iadd X dX2_atom_77 ?_
          refine S_put X fpX2_68_2 0 rfl FT_i dX2_atom_78 ?_
          refine S_w (ws' := [(h0, ob 2 (uF (uF (uF f 1 (iv ((sk T n a) + 1))) 2 (iv w)) 4 (iv x))), (ht, ob 6 ft), (hb, ar 160 T), (hc, ar 160 C)]) (by simp only [List.set]; rw [uF_mv (j := 4) (k := 1) (by decide), uF_mv (j := 2) (k := 1) (by decide), uF_same (k := 1)]) ?_
          refine S_aload_n X dX2_atom_81 rfl rfl ?_
          refine S_iload_n X dX2_atom_82 rfl rfl ?_
          refine S_ineg X dX2_atom_83 ?_
          refine S_calli X (kX2_emit l h0 f ((sk T n a) + 1) w x hc C (-(ch T n (sk T n a))) hf3 (by (try simp only [List.length_append, List.length_singleton, Int.natCast_add, Int.natCast_one]); omega)) (is := [0, 3]) rfl (run_V X lkX2_56 0 rfl rfl (is := [0, 3]) (avs := [iv (-(ch T n (sk T n a)))]) (rest := []) rfl rfl (nle rfl) ⟨by simp only [rmD]; omega, by simp only [rmD]; omega⟩ ⟨nle rfl, nle rfl⟩ dX2_atom_84 (by decide) rfl) (fun z_31 u_29 hp_30 => ?_)
          obtain ⟨hz_32, hu_33⟩ := hp_30
          subst hz_32
          subst hu_33
          refine ⟨rfl, ?_⟩
          refine S_w (ws' := [(h0, ob 2 (uF (uF (uF f 1 (iv ((sk T n a) + 1))) 2 (iv w)) 4 (iv (x + 1)))), (ht, ob 6 ft), (hb, ar 160 T), (hc, ar 160 (uZ C x (-(ch T n (sk T n a)))))]) rfl ?_
          refine S_w (ws' := [(h0, ob 2 (uF (uF (uF f 1 (iv ((sk T n a) + 1))) 2 (iv w)) 4 (iv (x + (([-ch T n (sk T n a)]).length : Int))))), (ht, ob 6 ft), (hb, ar 160 T), (hc, ar 160 (wrL C x ([-ch T n (sk T n a)])))]) (by simp only [wrL_app, wrL, List.length_append, List.length_singleton, Int.natCast_add, Int.natCast_one, Int.add_assoc, List.append_assoc]) ?_
          exact S_zret X (Or.inr rfl) (nle rfl) (nle rfl) dX2_atom_87 (hPo _ _ (Or.inr ⟨_, [-ch T n (sk T n a)], rfl, rfl, pAtom_let (by assumption) (by omega)⟩))
        ·
          refine S_iload_n X dX2_atom_59 rfl rfl ?_
          refine S_bipush X dX2_atom_60 rfl ?_
          refine S_icmp_eq (tgt := 71) X dX2_atom_62 (by decide) (by omega) (by decide) (fun c_34 => ?_) (fun c_34 => ?_)
          ·
            have hlt : sk T n a < n := ch_lt (T := T) (by omega)
            refine S_aload_n X dX2_atom_71 rfl rfl ?_
            refine S_dup X dX2_atom_72 ?_
            refine S_get (v := iv (sk T n a)) X fgX2_68_2 0 rfl rfl dX2_atom_73 ?_
            refine S_iconst X dX2_atom_76 ?_
            refine S_iadd X dX2_atom_77 ?_
            refine S_put X fpX2_68_2 0 rfl FT_i dX2_atom_78 ?_
            refine S_w (ws' := [(h0, ob 2 (uF (uF (uF f 1 (iv ((sk T n a) + 1))) 2 (iv w)) 4 (iv x))), (ht, ob 6 ft), (hb, ar 160 T), (hc, ar 160 C)]) (by simp only [List.set]; rw [uF_mv (j := 4) (k := 1) (by decide), uF_mv (j := 2) (k := 1) (by decide), uF_same (k := 1)]) ?_
            refine S_aload_n X dX2_atom_81 rfl rfl ?_
            refine S_iload_n X dX2_atom_82 rfl rfl ?_
            refine S_ineg X dX2_atom_83 ?_
            refine S_calli X (kX2_emit l h0 f ((sk T n a) + 1) w x hc C (-(ch T n (sk T n a))) hf3 (by (try simp only [List.length_append, List.length_singleton, Int.natCast_add, Int.natCast_one]); omega)) (is := [0, 3]) rfl (run_V X lkX2_56 0 rfl rfl (is := [0, 3]) (avs := [iv (-(ch T n (sk T n a)))]) (rest := []) rfl rfl (nle rfl) ⟨by simp only [rmD]; omega, by simp only [rmD]; omega⟩ ⟨nle rfl, nle rfl⟩ dX2_atom_84 (by decide) rfl) (fun z_37 u_35 hp_36 => ?_)
            obtain ⟨hz_38, hu_39⟩ := hp_36
            subst hz_38
            subst hu_39
            refine ⟨rfl, ?_⟩
            refine S_w (ws' := [(h0, ob 2 (uF (uF (uF f 1 (iv ((sk T n a) + 1))) 2 (iv w)) 4 (iv (x + 1)))), (ht, ob 6 ft), (hb, ar 160 T), (hc, ar 160 (uZ C x (-(ch T n (sk T n a)))))]) rfl ?_
            refine S_w (ws' := [(h0, ob 2 (uF (uF (uF f 1 (iv ((sk T n a) + 1))) 2 (iv w)) 4 (iv (x + (([-ch T n (sk T n a)]).length : Int))))), (ht, ob 6 ft), (hb, ar 160 T), (hc, ar 160 (wrL C x ([-ch T n (sk T n a)])))]) (by simp only [wrL_app, wrL, List.length_append, List.length_singleton, Int.natCast_add, Int.natCast_one, Int.add_assoc, List.append_assoc]) ?_
            exact S_zret X (Or.inr rfl) (nle rfl) (nle rfl) dX2_atom_87 (hPo _ _ (Or.inr ⟨_, [-ch T n (sk T n a)], rfl, rfl, pAtom_let (by assumption) (by omega)⟩))
          ·
            refine S_iload_n X dX2_atom_65 rfl rfl ?_
            refine S_bipush X dX2_atom_66 rfl ?_
            refine S_icmp_ne (tgt := 88) X dX2_atom_68 (by decide) (by omega) (by decide) (fun c_40 => ?_) (fun c_40 => ?_)
            ·
              refine S_iload_n X dX2_atom_88 rfl rfl ?_
              refine S_bipush X dX2_atom_89 rfl ?_
              refine S_icmp_ne (tgt := 100) X dX2_atom_91 (by decide) (by omega) (by decide) (fun c_41 => ?_) (fun c_41 => ?_)
              ·
                refine S_aload_n X dX2_atom_100 rfl rfl ?_
                refine S_calli X (kX5_fail_2 l h0 ht hb f ft T n (sk T n a) w x hf0 hf1 hf2) (is := [0, 1, 2]) rfl (run_U X lkX2_36_2 0 rfl rfl (is := [0, 1, 2]) (avs := []) (rest := []) rfl rfl (nle rfl) ⟨by simp only [rmD]; omega, by simp only [rmD]; omega⟩ ⟨nle rfl, nle rfl⟩ dX2_atom_101 (by decide) rfl) (fun z_44 u_42 hp_43 => ?_)
                obtain ⟨hz_45, hu_46⟩ := hp_43
                subst hz_45
                subst hu_46
                refine ⟨rfl, ?_⟩
                refine S_w (ws' := [(h0, ob 2 (uF (uF (uF f 1 (iv (sk T n a))) 2 (iv (sk T n a))) 4 (iv x))), (ht, ob 6 ft), (hb, ar 160 T), (hc, ar 160 C)]) rfl ?_
                exact S_zret X (Or.inl rfl) (nle rfl) (nle rfl) dX2_atom_104 (hPo _ _ (Or.inl ⟨_, _, _, _, rfl, rfl, pAtom_no (by assumption) (by omega) (by omega)⟩))
              ·
                refine S_iload_n X dX2_atom_94 rfl rfl ?_
                refine S_bipush X dX2_atom_95 rfl ?_
                refine S_icmp_lt (tgt := 105) X dX2_atom_97 (by decide) (by omega) (by decide) (fun c_47 => ?_) (fun c_47 => ?_)
                ·
                  have hlt : sk T n a < n := ch_lt (T := T) (by omega)
                  obtain ⟨K2, hK2⟩ : ∃ K2 : Nat, K = K2 + 1 := ⟨K - 1, by omega⟩
                  refine S_aload_n X dX2_atom_105 rfl rfl ?_
                  refine S_dup X dX2_atom_106 ?_
                  refine S_get (v := iv (sk T n a)) X fgX2_68_2 0 rfl rfl dX2_atom_107 ?_
                  refine S_iconst X dX2_atom_110 ?_
                  refine S_iadd X dX2_atom_111 ?_
                  refine S_put X fpX2_68_2 0 rfl FT_i dX2_atom_112 ?_
                  refine S_w (ws' := [(h0, ob 2 (uF (uF (uF f 1 (iv ((sk T n a) + 1))) 2 (iv w)) 4 (iv x))), (ht, ob 6 ft), (hb, ar 160 T), (hc, ar 160 C)]) (by simp only [List.set]; rw [uF_mv (j := 4) (k := 1) (by decide), uF_mv (j := 2) (k := 1) (by decide), uF_same (k := 1)]) ?_
                  refine S_aload_n X dX2_atom_115 rfl rfl ?_
                  refine S_iload_n X dX2_atom_116 rfl rfl ?_
                  refine S_iconst X dX2_atom_117 ?_
                  refine S_iadd X dX2_atom_118 ?_
                  refine S_calli X ((hnx K2 hK2) h0 ht hb f ft T n ((sk T n a) + 1) w x hc C (wi + 1) hf0 hf1 hf2 hf3 (by omega) (by omega) (by (try simp only [List.length_append, List.length_singleton, Int.natCast_add, Int.natCast_one]); omega) (by omega) (by omega)) (is := [0, 1, 2, 3]) rfl (run_V X lkX2_50 0 rfl rfl (is := [0, 1, 2, 3]) (avs := [iv (wi + 1)]) (rest := []) rfl rfl (nle rfl) ⟨by simp only [rmD]; omega, by simp only [rmD]; omega⟩ ⟨nle rfl, nle rfl⟩ dX2_atom_119 (by decide) rfl) (fun z_50 u_48 hp_49 => ?_)
                  rcases hp_49 with ⟨a2_51, fl_52, x2_53, C2_54, hz_55, hu_56, hq_57⟩ | ⟨a2_58, ts_59, hz_60, hu_61, hq_62⟩
                  ·
                    subst hz_55
                    subst hu_56
                    refine ⟨rfl, ?_⟩
                    refine S_w (ws' := [(h0, ob 2 (uF (uF (uF f 1 (iv a2_51)) 2 (iv fl_52)) 4 (iv x2_53))), (ht, ob 6 ft), (hb, ar 160 T), (hc, ar 160 C2_54)]) rfl ?_
                    refine S_if_eq (tgt := 145) X dX2_atom_122 (by decide) (by decide) (fun _ => ?_) (fun h9 => absurd h9 (by decide))
                    refine S_iconst X dX2_atom_145 ?_
                    exact S_zret X (Or.inl rfl) (nle rfl) (nle rfl) dX2_atom_146 (hPo _ _ (Or.inl ⟨_, _, _, _, rfl, rfl, by rw [hK2]; exact pAtom_brf (by assumption) hq_57⟩))
                  ·
                    subst hz_60
                    subst hu_61
                    refine ⟨rfl, ?_⟩
                    refine S_w (ws' := [(h0, ob 2 (uF (uF (uF f 1 (iv a2_58)) 2 (iv w)) 4 (iv (x + (ts_59.length : Int))))), (ht, ob 6 ft), (hb, ar 160 T), (hc, ar 160 (wrL C x ts_59))]) rfl ?_
                    refine S_w (ws' := [(h0, ob 2 (uF (uF (uF f 1 (iv a2_58)) 2 (iv w)) 4 (iv (x + ((ts_59).length : Int))))), (ht, ob 6 ft), (hb, ar 160 T), (hc, ar 160 (wrL C x (ts_59)))]) (by simp only [wrL_app, wrL, List.length_append, List.length_singleton, Int.natCast_add, Int.natCast_one, Int.add_assoc, List.append_assoc]) ?_
                    have ho_63 := ((pAS_ok (T := T) hn1 K2).2 (sk T n a + 1) (by omega) (by omega)).2 _ hq_62
                    dsimp only at ho_63
                    refine S_if_eq (tgt := 145) X dX2_atom_122 (by decide) (by decide) (fun h9 => absurd h9 (by decide)) (fun _ => ?_)
                    refine S_aload_n X dX2_atom_125 rfl rfl ?_
                    refine S_bipush X dX2_atom_126 rfl ?_
                    refine S_calli X (kX5_take_2 l h0 ht hb f ft T n a2_58 w (x + ((ts_59).length : Int)) 93 hf0 hf1 hf2 (by omega) (by omega) (by omega)) (is := [0, 1, 2]) rfl (run_U X lkX2_32_2 0 rfl rfl (is := [0, 1, 2]) (avs := [iv 93]) (rest := []) rfl rfl (nle rfl) ⟨by simp only [rmD]; omega, by simp only [rmD]; omega⟩ ⟨nle rfl, nle rfl⟩ dX2_atom_128 (by decide) rfl) (fun z_67 u_65 hp_66 => ?_)
                    rcases hp_66 with ⟨hz_68, hu_69, hq_70⟩ | ⟨hz_71, hu_72, hq_73⟩
                    ·
                      subst hz_68
                      subst hu_69
                      refine ⟨rfl, ?_⟩
                      refine S_w (ws' := [(h0, ob 2 (uF (uF (uF f 1 (iv (sk T n a2_58))) 2 (iv w)) 4 (iv (x + ((ts_59).length : Int))))), (ht, ob 6 ft), (hb, ar 160 T), (hc, ar 160 (wrL C x (ts_59)))]) rfl ?_
                      refine S_if_ne (tgt := 141) X dX2_atom_131 (by decide) (by decide) (fun h9 => absurd h9 (by decide)) (fun _ => ?_)
                      refine S_aload_n X dX2_atom_134 rfl rfl ?_
                      refine S_calli X (kX5_fail_2 l h0 ht hb f ft T n (sk T n a2_58) w (x + ((ts_59).length : Int)) hf0 hf1 hf2) (is := [0, 1, 2]) rfl (run_U X lkX2_36_2 0 rfl rfl (is := [0, 1, 2]) (avs := []) (rest := []) rfl rfl (nle rfl) ⟨by simp only [rmD]; omega, by simp only [rmD]; omega⟩ ⟨nle rfl, nle rfl⟩ dX2_atom_135 (by decide) rfl) (fun z_77 u_75 hp_76 => ?_)
                      obtain ⟨hz_78, hu_79⟩ := hp_76
                      subst hz_78
                      subst hu_79
                      refine ⟨rfl, ?_⟩
                      refine S_w (ws' := [(h0, ob 2 (uF (uF (uF f 1 (iv (sk T n a2_58))) 2 (iv (sk T n a2_58))) 4 (iv (x + ((ts_59).length : Int))))), (ht, ob 6 ft), (hb, ar 160 T), (hc, ar 160 (wrL C x (ts_59)))]) rfl ?_
                      refine S_if_eq (tgt := 145) X dX2_atom_138 (by decide) (by decide) (fun _ => ?_) (fun h9 => absurd h9 (by decide))
                      refine S_iconst X dX2_atom_145 ?_
                      exact S_zret X (Or.inl rfl) (nle rfl) (nle rfl) dX2_atom_146 (hPo _ _ (Or.inl ⟨_, _, _, _, rfl, rfl, by rw [hK2]; exact (pAtom_br (by assumption) hq_62).trans (if_neg hq_70)⟩))
                    ·
                      subst hz_71
                      subst hu_72
                      refine ⟨rfl, ?_⟩
                      refine S_w (ws' := [(h0, ob 2 (uF (uF (uF f 1 (iv (sk T n a2_58 + 1))) 2 (iv w)) 4 (iv (x + ((ts_59).length : Int))))), (ht, ob 6 ft), (hb, ar 160 T), (hc, ar 160 (wrL C x (ts_59)))]) rfl ?_
                      refine S_if_ne (tgt := 141) X dX2_atom_131 (by decide) (by decide) (fun _ => ?_) (fun h9 => absurd h9 (by decide))
                      refine S_iconst X dX2_atom_141 ?_
                      refine S_goto (tgt := 146) X dX2_atom_142 (by decide) ?_
                      exact S_zret X (Or.inr rfl) (nle rfl) (nle rfl) dX2_atom_146 (hPo _ _ (Or.inr ⟨_, ts_59, rfl, rfl, by rw [hK2]; exact (pAtom_br (by assumption) hq_62).trans (if_pos hq_73)⟩))
                ·
                  refine S_aload_n X dX2_atom_100 rfl rfl ?_
                  refine S_calli X (kX5_fail_2 l h0 ht hb f ft T n (sk T n a) w x hf0 hf1 hf2) (is := [0, 1, 2]) rfl (run_U X lkX2_36_2 0 rfl rfl (is := [0, 1, 2]) (avs := []) (rest := []) rfl rfl (nle rfl) ⟨by simp only [rmD]; omega, by simp only [rmD]; omega⟩ ⟨nle rfl, nle rfl⟩ dX2_atom_101 (by decide) rfl) (fun z_84 u_82 hp_83 => ?_)
                  obtain ⟨hz_85, hu_86⟩ := hp_83
                  subst hz_85
                  subst hu_86
                  refine ⟨rfl, ?_⟩
                  refine S_w (ws' := [(h0, ob 2 (uF (uF (uF f 1 (iv (sk T n a))) 2 (iv (sk T n a))) 4 (iv x))), (ht, ob 6 ft), (hb, ar 160 T), (hc, ar 160 C)]) rfl ?_
                  exact S_zret X (Or.inl rfl) (nle rfl) (nle rfl) dX2_atom_104 (hPo _ _ (Or.inl ⟨_, _, _, _, rfl, rfl, pAtom_no (by assumption) (by omega) (by omega)⟩))
            ·
              have hlt : sk T n a < n := ch_lt (T := T) (by omega)
              refine S_aload_n X dX2_atom_71 rfl rfl ?_
              refine S_dup X dX2_atom_72 ?_
              refine S_get (v := iv (sk T n a)) X fgX2_68_2 0 rfl rfl dX2_atom_73 ?_
              refine S_iconst X dX2_atom_76 ?_
              refine S_iadd X dX2_atom_77 ?_
              refine S_put X fpX2_68_2 0 rfl FT_i dX2_atom_78 ?_
              refine S_w (ws' := [(h0, ob 2 (uF (uF (uF f 1 (iv ((sk T n a) + 1))) 2 (iv w)) 4 (iv x))), (ht, ob 6 ft), (hb, ar 160 T), (hc, ar 160 C)]) (by simp only [List.set]; rw [uF_mv (j := 4) (k := 1) (by decide), uF_mv (j := 2) (k := 1) (by decide), uF_same (k := 1)]) ?_
              refine S_aload_n X dX2_atom_81 rfl rfl ?_
              refine S_iload_n X dX2_atom_82 rfl rfl ?_
              refine S_ineg X dX2_atom_83 ?_
              refine S_calli X (kX2_emit l h0 f ((sk T n a) + 1) w x hc C (-(ch T n (sk T n a))) hf3 (by (try simp only [List.length_append, List.length_singleton, Int.natCast_add, Int.natCast_one]); omega)) (is := [0, 3]) rfl (run_V X lkX2_56 0 rfl rfl (is := [0, 3]) (avs := [iv (-(ch T n (sk T n a)))]) (rest := []) rfl rfl (nle rfl) ⟨by simp only [rmD]; omega, by simp only [rmD]; omega⟩ ⟨nle rfl, nle rfl⟩ dX2_atom_84 (by decide) rfl) (fun z_89 u_87 hp_88 => ?_)
              obtain ⟨hz_90, hu_91⟩ := hp_88
              subst hz_90
              subst hu_91
              refine ⟨rfl, ?_⟩
              refine S_w (ws' := [(h0, ob 2 (uF (uF (uF f 1 (iv ((sk T n a) + 1))) 2 (iv w)) 4 (iv (x + 1)))), (ht, ob 6 ft), (hb, ar 160 T), (hc, ar 160 (uZ C x (-(ch T n (sk T n a)))))]) rfl ?_
              refine S_w (ws' := [(h0, ob 2 (uF (uF (uF f 1 (iv ((sk T n a) + 1))) 2 (iv w)) 4 (iv (x + (([-ch T n (sk T n a)]).length : Int))))), (ht, ob 6 ft), (hb, ar 160 T), (hc, ar 160 (wrL C x ([-ch T n (sk T n a)])))]) (by simp only [wrL_app, wrL, List.length_append, List.length_singleton, Int.natCast_add, Int.natCast_one, Int.add_assoc, List.append_assoc]) ?_
              exact S_zret X (Or.inr rfl) (nle rfl) (nle rfl) dX2_atom_87 (hPo _ _ (Or.inr ⟨_, [-ch T n (sk T n a)], rfl, rfl, pAtom_let (by assumption) (by omega)⟩))
  ·
    subst hz_12
    subst hu_13
    refine ⟨rfl, ?_⟩
    refine S_w (ws' := [(h0, ob 2 (uF (uF (uF f 1 (iv (sk T n a))) 2 (iv w)) 4 (iv x))), (ht, ob 6 ft), (hb, ar 160 T), (hc, ar 160 C)]) rfl ?_
    refine S_if_eq (tgt := 41) X dX2_atom_9 (by decide) (by decide) (fun h9 => absurd h9 (by decide)) (fun _ => ?_)
    refine S_aload_n X dX2_atom_12 rfl rfl ?_
    refine S_iconst X dX2_atom_13 ?_
    refine S_iconst X dX2_atom_14 ?_
    refine S_sipush X dX2_atom_15 rfl ?_
    refine S_calli X (kX5_readNumber_2 l h0 ht hb f ft T n (sk T n a) w x 4 0 9999 hf0 hf1 hf2 (by omega) (by omega) (by omega)) (is := [0, 1, 2]) rfl (run_U X lkX2_80_2 0 rfl rfl (is := [0, 1, 2]) (avs := [iv 4, iv 0, iv 9999]) (rest := []) rfl rfl (nle rfl) ⟨by simp only [rmD]; omega, by simp only [rmD]; omega⟩ ⟨nle rfl, nle rfl⟩ dX2_atom_18 (by decide) rfl) (fun z_95 u_93 hp_94 => ?_)
    rcases hp_94 with ⟨a2_96, fl_97, hz_98, hu_99, hq_100, hr_101⟩ | ⟨a2_102, v2_103, hz_104, hu_105, hq_106⟩
    ·
      subst hz_98
      subst hu_99
      refine ⟨rfl, ?_⟩
      refine S_w (ws' := [(h0, ob 2 (uF (uF (uF f 1 (iv a2_96)) 2 (iv fl_97)) 4 (iv x))), (ht, ob 6 ft), (hb, ar 160 T), (hc, ar 160 C)]) rfl ?_
      refine S_istore_n X dX2_atom_21 rfl (nle rfl) ?_
      refine S_iload_n X dX2_atom_22 rfl rfl ?_
      refine S_iconst X dX2_atom_23 ?_
      refine S_icmp_eq (tgt := 39) X dX2_atom_24 (by decide) (by decide) (by decide) (fun _ => ?_) (fun h9 => absurd h9 (by decide))
      refine S_iconst X dX2_atom_39 ?_
      exact S_zret X (Or.inl rfl) (nle rfl) (nle rfl) dX2_atom_40 (hPo _ _ (Or.inl ⟨_, _, _, _, rfl, rfl, by rw [pAtom_num (by assumption), hq_100]⟩))
    ·
      subst hz_104
      subst hu_105
      refine ⟨rfl, ?_⟩
      refine S_w (ws' := [(h0, ob 2 (uF (uF (uF f 1 (iv a2_102)) 2 (iv w)) 4 (iv x))), (ht, ob 6 ft), (hb, ar 160 T), (hc, ar 160 C)]) rfl ?_
      have hpn := (pNum_in (T := T) (n := n) (dg := 4) (lo := 0) (hi := 9999) (a := sk T n a) (by omega) (by decide) hn1 (by omega)).2 _ hq_106
      dsimp only at hpn
      refine S_istore_n X dX2_atom_21 rfl (nle rfl) ?_
      refine S_iload_n X dX2_atom_22 rfl rfl ?_
      refine S_iconst X dX2_atom_23 ?_
      refine S_icmp_eq (tgt := 39) X dX2_atom_24 (by decide) (by omega) (by decide) (fun c_108 => by exfalso; omega) (fun c_108 => ?_)
      refine S_aload_n X dX2_atom_27 rfl rfl ?_
      refine S_iload_n X dX2_atom_28 rfl rfl ?_
      refine S_calli X (kX2_emit l h0 f a2_102 w x hc C z_95 hf3 (by (try simp only [List.length_append, List.length_singleton, Int.natCast_add, Int.natCast_one]); omega)) (is := [0, 3]) rfl (run_V X lkX2_56 0 rfl rfl (is := [0, 3]) (avs := [iv z_95]) (rest := []) rfl rfl (nle rfl) ⟨by simp only [rmD]; omega, by simp only [rmD]; omega⟩ ⟨nle rfl, nle rfl⟩ dX2_atom_29 (by decide) rfl) (fun z_111 u_109 hp_110 => ?_)
      obtain ⟨hz_112, hu_113⟩ := hp_110
      subst hz_112
      subst hu_113
      refine ⟨rfl, ?_⟩
      refine S_w (ws' := [(h0, ob 2 (uF (uF (uF f 1 (iv a2_102)) 2 (iv w)) 4 (iv (x + 1)))), (ht, ob 6 ft), (hb, ar 160 T), (hc, ar 160 (uZ C x z_95))]) rfl ?_
      refine S_w (ws' := [(h0, ob 2 (uF (uF (uF f 1 (iv a2_102)) 2 (iv w)) 4 (iv (x + (([z_95]).length : Int))))), (ht, ob 6 ft), (hb, ar 160 T), (hc, ar 160 (wrL C x ([z_95])))]) (by simp only [wrL_app, wrL, List.length_append, List.length_singleton, Int.natCast_add, Int.natCast_one, Int.add_assoc, List.append_assoc]) ?_
      refine S_if_eq (tgt := 39) X dX2_atom_32 (by decide) (by decide) (fun h9 => absurd h9 (by decide)) (fun _ => ?_)
      refine S_iconst X dX2_atom_35 ?_
      refine S_goto (tgt := 40) X dX2_atom_36 (by decide) ?_
      exact S_zret X (Or.inr rfl) (nle rfl) (nle rfl) dX2_atom_40 (hPo _ _ (Or.inr ⟨_, [z_95], rfl, rfl, by rw [pAtom_num (by assumption), hq_106]⟩))
set_option maxHeartbeats 4000000 in
set_option maxRecDepth 100000 in
theorem kX2_sum (l : Launch) (K : Nat) (d : Nat) (hd : 5 ≤ d) (hat : C_X2_atom l K d) : C_X2_sum l K (d + 1) := by
  intro h0 ht hb f ft T n a w x hc C wi hf0 hf1 hf2 hf3 hT ha hx hw h6
  refine AMi.of2 rfl (nle rfl) ?_
  intro D G A p e s m args below meth c Po hPo X
  obtain ⟨hn0, hn1, hT2⟩ := id hT
  have hsk := sk_in (T := T) ha.2
  have hch := ch_in (a := sk T n a) hT (by omega)
  refine S_iconst X dX2_sum_0 ?_
  refine S_istore_n X dX2_sum_1 rfl (nle rfl) ?_
  refine S_aload_n X dX2_sum_2 rfl rfl ?_
  refine S_iload_n X dX2_sum_3 rfl rfl ?_
  refine S_calli X (hat h0 ht hb f ft T n a w x hc C wi hf0 hf1 hf2 hf3 (by omega) (by omega) (by (try simp only [List.length_append, List.length_singleton, Int.natCast_add, Int.natCast_one]); omega) (by omega) (by omega)) (is := [0, 1, 2, 3]) rfl (run_V X lkX2_74 0 rfl rfl (is := [0, 1, 2, 3]) (avs := [iv wi]) (rest := []) rfl rfl (nle rfl) ⟨by simp only [rmD]; omega, by simp only [rmD]; omega⟩ ⟨nle rfl, nle rfl⟩ dX2_sum_4 (by decide) rfl) (fun z_3 u_1 hp_2 => ?_)
  rcases hp_2 with ⟨a2_4, fl_5, x2_6, C2_7, hz_8, hu_9, hq_10⟩ | ⟨a2_11, ts_12, hz_13, hu_14, hq_15⟩
  ·
    subst hz_8
    subst hu_9
    refine ⟨rfl, ?_⟩
    refine S_w (ws' := [(h0, ob 2 (uF (uF (uF f 1 (iv a2_4)) 2 (iv fl_5)) 4 (iv x2_6))), (ht, ob 6 ft), (hb, ar 160 T), (hc, ar 160 C2_7)]) rfl ?_
    refine S_if_ne (tgt := 12) X dX2_sum_7 (by decide) (by decide) (fun h9 => absurd h9 (by decide)) (fun _ => ?_)
    refine S_iconst X dX2_sum_10 ?_
    exact S_zret X (Or.inl rfl) (nle rfl) (nle rfl) dX2_sum_11 (hPo _ _ (Or.inl ⟨_, _, _, _, rfl, rfl, pSum_f hq_10⟩))
  ·
    subst hz_13
    subst hu_14
    refine ⟨rfl, ?_⟩
    refine S_w (ws' := [(h0, ob 2 (uF (uF (uF f 1 (iv a2_11)) 2 (iv w)) 4 (iv (x + (ts_12.length : Int))))), (ht, ob 6 ft), (hb, ar 160 T), (hc, ar 160 (wrL C x ts_12))]) rfl ?_
    refine S_w (ws' := [(h0, ob 2 (uF (uF (uF f 1 (iv a2_11)) 2 (iv w)) 4 (iv (x + ((ts_12).length : Int))))), (ht, ob 6 ft), (hb, ar 160 T), (hc, ar 160 (wrL C x (ts_12)))]) (by simp only [wrL_app, wrL, List.length_append, List.length_singleton, Int.natCast_add, Int.natCast_one, Int.add_assoc, List.append_assoc]) ?_
    have ho_16 := ((pAS_ok (T := T) hn1 K).1 a ha.1 ha.2).2 _ hq_15
    dsimp only at ho_16
    refine S_if_ne (tgt := 12) X dX2_sum_7 (by decide) (by decide) (fun _ => ?_) (fun h9 => absurd h9 (by decide))
    refine S_iconst X dX2_sum_12 ?_
    refine S_istore_n X dX2_sum_13 rfl (nle rfl) ?_
    have lp14_1 : ∀ (N : Nat) (i : Int) (a1 : Int) (w1 : Int) (acc : List Int) (L : Nat → Option AV), 0 ≤ i ∧ i ≤ 161 ∧ a < a1 ∧ a1 ≤ n → (w1 = 0 ∧ x + (acc.length : Int) < a1) ∨ ((w1 = 43 ∨ w1 = 45) ∧ x + (acc.length : Int) + 1 < a1) → (∀ z9, sumL T n (pAtom T n K) (161 - i.toNat) w1 a1 acc = z9 → pSum T n K a = z9) → L 0 = some (rv h0) → L 1 = some (iv wi) → L 2 = some (iv w1) → L 3 = some (iv i) → 162 - i < (N : Int) → S_ p l e (rmD (d + 1) 0 0) s m args below meth c (MQ below (QcI D G A Po) args s 0 0 A) D G A 6 0 0 14 L [] [(h0, ob 2 (uF (uF (uF f 1 (iv a1)) 2 (iv w)) 4 (iv (x + ((acc).length : Int))))), (ht, ob 6 ft), (hb, ar 160 T), (hc, ar 160 (wrL C x (acc)))] := by
      intro N
      induction N with
      | zero =>
        intro i a1 w1 acc L14 hi hbd hk hL14_0 hL14_1 hL14_2 hL14_3 hN14
        exfalso; omega
      | succ N ih14 =>
        intro i a1 w1 acc L14 hi hbd hk hL14_0 hL14_1 hL14_2 hL14_3 hN14
        refine S_iload_n X dX2_sum_14 rfl hL14_3 ?_
        refine S_sipush X dX2_sum_15 rfl ?_
        refine S_icmp_gt (tgt := 153) X dX2_sum_18 (by decide) (by omega) (by decide) (fun c_18 => ?_) (fun c_18 => ?_)
        ·
          refine S_aload_n X dX2_sum_153 rfl hL14_0 ?_
          refine S_calli X (kX5_fail_2 l h0 ht hb f ft T n a1 w (x + ((acc).length : Int)) hf0 hf1 hf2) (is := [0, 1, 2]) rfl (run_U X lkX2_36_2 0 rfl rfl (is := [0, 1, 2]) (avs := []) (rest := []) rfl rfl (nle rfl) ⟨by simp only [rmD]; omega, by simp only [rmD]; omega⟩ ⟨nle rfl, nle rfl⟩ dX2_sum_154 (by decide) rfl) (fun z_21 u_19 hp_20 => ?_)
          obtain ⟨hz_22, hu_23⟩ := hp_20
          subst hz_22
          subst hu_23
          refine ⟨rfl, ?_⟩
          refine S_w (ws' := [(h0, ob 2 (uF (uF (uF f 1 (iv a1)) 2 (iv a1)) 4 (iv (x + ((acc).length : Int))))), (ht, ob 6 ft), (hb, ar 160 T), (hc, ar 160 (wrL C x (acc)))]) rfl ?_
          exact S_zret X (Or.inl rfl) (nle rfl) (nle rfl) dX2_sum_157 (hPo _ _ (Or.inl ⟨_, _, _, _, rfl, rfl, hk _ (by rw [show 161 - i.toNat = 0 by omega]; rfl)⟩))
        ·
          refine S_aload_n X dX2_sum_21 rfl hL14_0 ?_
          refine S_calli X (kX5_peek_2 l h0 ht hb f ft T n a1 w (x + ((acc).length : Int)) hf0 hf1 hf2 (by omega) (by omega)) (is := [0, 1, 2]) rfl (run_U X lkX2_40_2 0 rfl rfl (is := [0, 1, 2]) (avs := []) (rest := []) rfl rfl (nle rfl) ⟨by simp only [rmD]; omega, by simp only [rmD]; omega⟩ ⟨nle rfl, nle rfl⟩ dX2_sum_22 (by decide) rfl) (fun z_26 u_24 hp_25 => ?_)
          obtain ⟨hz_27, hu_28⟩ := hp_25
          subst hz_27
          subst hu_28
          refine ⟨rfl, ?_⟩
          refine S_w (ws' := [(h0, ob 2 (uF (uF (uF f 1 (iv (sk T n a1))) 2 (iv w)) 4 (iv (x + ((acc).length : Int))))), (ht, ob 6 ft), (hb, ar 160 T), (hc, ar 160 (wrL C x (acc)))]) rfl ?_
          have hsk1 := sk_in (T := T) (n := n) (a := a1) (by omega)
          have hch1 := ch_in (a := sk T n a1) hT (by omega)
          refine S_istore X dX2_sum_25 (nle rfl) ?_
          refine S_iload X dX2_sum_27 rfl ?_
          refine S_bipush X dX2_sum_29 rfl ?_
          refine S_icmp_eq (tgt := 41) X dX2_sum_31 (by decide) (by omega) (by decide) (fun c_29 => ?_) (fun c_29 => ?_)
          ·
            refine S_iconst X dX2_sum_41 ?_
            refine S_goto (tgt := 46) X dX2_sum_42 (by decide) ?_
            refine S_istore X dX2_sum_46 (nle rfl) ?_
            refine S_iload X dX2_sum_48 rfl ?_
            refine S_if_ne (tgt := 86) X dX2_sum_50 (by decide) (by decide) (fun _ => ?_) (fun h9 => absurd h9 (by decide))
            refine S_iload X dX2_sum_86 rfl ?_
            refine S_if_eq (tgt := 102) X dX2_sum_88 (by decide) (by decide) (fun h9 => absurd h9 (by decide)) (fun _ => ?_)
            refine S_iload_n X dX2_sum_91 rfl hL14_2 ?_
            refine S_if_eq (tgt := 102) X dX2_sum_92 (by decide) (by omega) (fun c_32 => ?_) (fun c_32 => ?_)
            ·
              refine S_iload X dX2_sum_102 rfl ?_
              refine S_if_eq (tgt := 112) X dX2_sum_104 (by decide) (by decide) (fun h9 => absurd h9 (by decide)) (fun _ => ?_)
              refine S_iload X dX2_sum_107 rfl ?_
              refine S_goto (tgt := 113) X dX2_sum_109 (by decide) ?_
              refine S_istore_n X dX2_sum_113 rfl (nle rfl) ?_
              have hlt1 : sk T n a1 < n := ch_lt (T := T) (by omega)
              refine S_aload_n X dX2_sum_114 rfl hL14_0 ?_
              refine S_dup X dX2_sum_115 ?_
              refine S_get (v := iv (sk T n a1)) X fgX2_68_2 0 rfl rfl dX2_sum_116 ?_
              refine S_iconst X dX2_sum_119 ?_
              refine S_iadd X dX2_sum_120 ?_
              refine S_put X fpX2_68_2 0 rfl FT_i dX2_sum_121 ?_
              refine S_w (ws' := [(h0, ob 2 (uF (uF (uF f 1 (iv ((sk T n a1) + 1))) 2 (iv w)) 4 (iv (x + ((acc).length : Int))))), (ht, ob 6 ft), (hb, ar 160 T), (hc, ar 160 (wrL C x (acc)))]) (by simp only [List.set]; rw [uF_mv (j := 4) (k := 1) (by decide), uF_mv (j := 2) (k := 1) (by decide), uF_same (k := 1)]) ?_
              refine S_aload_n X dX2_sum_124 rfl hL14_0 ?_
              refine S_iload_n X dX2_sum_125 rfl hL14_1 ?_
              refine S_calli X (hat h0 ht hb f ft T n ((sk T n a1) + 1) w (x + ((acc).length : Int)) hc (wrL C x (acc)) wi hf0 hf1 hf2 hf3 (by omega) (by omega) (by (try simp only [List.length_append, List.length_singleton, Int.natCast_add, Int.natCast_one]); omega) (by omega) (by omega)) (is := [0, 1, 2, 3]) rfl (run_V X lkX2_74 0 rfl rfl (is := [0, 1, 2, 3]) (avs := [iv wi]) (rest := []) rfl rfl (nle rfl) ⟨by simp only [rmD]; omega, by simp only [rmD]; omega⟩ ⟨nle rfl, nle rfl⟩ dX2_sum_126 (by decide) rfl) (fun z_36 u_34 hp_35 => ?_)
              rcases hp_35 with ⟨a2_37, fl_38, x2_39, C2_40, hz_41, hu_42, hq_43⟩ | ⟨a2_44, ts_45, hz_46, hu_47, hq_48⟩
              ·
                subst hz_41
                subst hu_42
                refine ⟨rfl, ?_⟩
                refine S_w (ws' := [(h0, ob 2 (uF (uF (uF f 1 (iv a2_37)) 2 (iv fl_38)) 4 (iv x2_39))), (ht, ob 6 ft), (hb, ar 160 T), (hc, ar 160 C2_40)]) rfl ?_
                refine S_if_ne (tgt := 134) X dX2_sum_129 (by decide) (by decide) (fun h9 => absurd h9 (by decide)) (fun _ => ?_)
                refine S_iconst X dX2_sum_132 ?_
                exact S_zret X (Or.inl rfl) (nle rfl) (nle rfl) dX2_sum_133 (hPo _ _ (Or.inl ⟨_, _, _, _, rfl, rfl, hk _ (by rw [fuel161 (by omega) (by omega)]; exact sumL_af (by omega) hq_43)⟩))
              ·
                subst hz_46
                subst hu_47
                refine ⟨rfl, ?_⟩
                refine S_w (ws' := [(h0, ob 2 (uF (uF (uF f 1 (iv a2_44)) 2 (iv w)) 4 (iv ((x + ((acc).length : Int)) + (ts_45.length : Int))))), (ht, ob 6 ft), (hb, ar 160 T), (hc, ar 160 (wrL (wrL C x (acc)) (x + ((acc).length : Int)) ts_45))]) rfl ?_
                refine S_w (ws' := [(h0, ob 2 (uF (uF (uF f 1 (iv a2_44)) 2 (iv w)) 4 (iv (x + ((acc ++ ts_45).length : Int))))), (ht, ob 6 ft), (hb, ar 160 T), (hc, ar 160 (wrL C x (acc ++ ts_45)))]) (by simp only [wrL_app, wrL, List.length_append, List.length_singleton, Int.natCast_add, Int.natCast_one, Int.add_assoc, List.append_assoc]) ?_
                have ho_49 := ((pAS_ok (T := T) hn1 K).1 (sk T n a1 + 1) (by omega) (by omega)).2 _ hq_48
                dsimp only at ho_49
                refine S_if_ne (tgt := 134) X dX2_sum_129 (by decide) (by decide) (fun _ => ?_) (fun h9 => absurd h9 (by decide))
                refine S_iload X dX2_sum_134 rfl ?_
                refine S_if_ne (tgt := 147) X dX2_sum_136 (by decide) (by decide) (fun _ => ?_) (fun h9 => absurd h9 (by decide))
                refine S_iinc X dX2_sum_147 (nle rfl) hL14_3 ?_
                refine S_goto (tgt := 14) X dX2_sum_150 (by decide) ?_
                exact ih14 (i + 1) a2_44 (ch T n (sk T n a1)) (acc ++ ts_45) _ (by omega) (by simp only [List.length_append, List.length_singleton, Int.natCast_add, Int.natCast_one]; omega) (fun z9 h9 => hk z9 (by rw [fuel161 (by omega) (by omega), sumL_a (by omega) hq_48, if_pos c_32]; exact h9)) hL14_0 hL14_1 rfl rfl (by omega)
            ·
              refine S_aload_n X dX2_sum_95 rfl hL14_0 ?_
              refine S_iload_n X dX2_sum_96 rfl hL14_2 ?_
              refine S_ineg X dX2_sum_97 ?_
              refine S_calli X (kX2_emit l h0 f (sk T n a1) w (x + ((acc).length : Int)) hc (wrL C x (acc)) (-w1) hf3 (by (try simp only [List.length_append, List.length_singleton, Int.natCast_add, Int.natCast_one]); omega)) (is := [0, 3]) rfl (run_V X lkX2_56 0 rfl rfl (is := [0, 3]) (avs := [iv (-w1)]) (rest := []) rfl rfl (nle rfl) ⟨by simp only [rmD]; omega, by simp only [rmD]; omega⟩ ⟨nle rfl, nle rfl⟩ dX2_sum_98 (by decide) rfl) (fun z_54 u_52 hp_53 => ?_)
              obtain ⟨hz_55, hu_56⟩ := hp_53
              subst hz_55
              subst hu_56
              refine ⟨rfl, ?_⟩
              refine S_w (ws' := [(h0, ob 2 (uF (uF (uF f 1 (iv (sk T n a1))) 2 (iv w)) 4 (iv ((x + ((acc).length : Int)) + 1)))), (ht, ob 6 ft), (hb, ar 160 T), (hc, ar 160 (uZ (wrL C x (acc)) (x + ((acc).length : Int)) (-w1)))]) rfl ?_
              refine S_w (ws' := [(h0, ob 2 (uF (uF (uF f 1 (iv (sk T n a1))) 2 (iv w)) 4 (iv (x + ((acc ++ [-w1]).length : Int))))), (ht, ob 6 ft), (hb, ar 160 T), (hc, ar 160 (wrL C x (acc ++ [-w1])))]) (by simp only [wrL_app, wrL, List.length_append, List.length_singleton, Int.natCast_add, Int.natCast_one, Int.add_assoc, List.append_assoc]) ?_
              refine S_pop X dX2_sum_101 ?_
              refine S_iload X dX2_sum_102 rfl ?_
              refine S_if_eq (tgt := 112) X dX2_sum_104 (by decide) (by decide) (fun h9 => absurd h9 (by decide)) (fun _ => ?_)
              refine S_iload X dX2_sum_107 rfl ?_
              refine S_goto (tgt := 113) X dX2_sum_109 (by decide) ?_
              refine S_istore_n X dX2_sum_113 rfl (nle rfl) ?_
              have hlt1 : sk T n a1 < n := ch_lt (T := T) (by omega)
              refine S_aload_n X dX2_sum_114 rfl hL14_0 ?_
              refine S_dup X dX2_sum_115 ?_
              refine S_get (v := iv (sk T n a1)) X fgX2_68_2 0 rfl rfl dX2_sum_116 ?_
              refine S_iconst X dX2_sum_119 ?_
              refine S_iadd X dX2_sum_120 ?_
              refine S_put X fpX2_68_2 0 rfl FT_i dX2_sum_121 ?_
              refine S_w (ws' := [(h0, ob 2 (uF (uF (uF f 1 (iv ((sk T n a1) + 1))) 2 (iv w)) 4 (iv (x + ((acc ++ [-w1]).length : Int))))), (ht, ob 6 ft), (hb, ar 160 T), (hc, ar 160 (wrL C x (acc ++ [-w1])))]) (by simp only [List.set]; rw [uF_mv (j := 4) (k := 1) (by decide), uF_mv (j := 2) (k := 1) (by decide), uF_same (k := 1)]) ?_
              refine S_aload_n X dX2_sum_124 rfl hL14_0 ?_
              refine S_iload_n X dX2_sum_125 rfl hL14_1 ?_
              refine S_calli X (hat h0 ht hb f ft T n ((sk T n a1) + 1) w (x + ((acc ++ [-w1]).length : Int)) hc (wrL C x (acc ++ [-w1])) wi hf0 hf1 hf2 hf3 (by omega) (by omega) (by (try simp only [List.length_append, List.length_singleton, Int.natCast_add, Int.natCast_one]); omega) (by omega) (by omega)) (is := [0, 1, 2, 3]) rfl (run_V X lkX2_74 0 rfl rfl (is := [0, 1, 2, 3]) (avs := [iv wi]) (rest := []) rfl rfl (nle rfl) ⟨by simp only [rmD]; omega, by simp only [rmD]; omega⟩ ⟨nle rfl, nle rfl⟩ dX2_sum_126 (by decide) rfl) (fun z_60 u_58 hp_59 => ?_)
              rcases hp_59 with ⟨a2_61, fl_62, x2_63, C2_64, hz_65, hu_66, hq_67⟩ | ⟨a2_68, ts_69, hz_70, hu_71, hq_72⟩
              ·
                subst hz_65
                subst hu_66
                refine ⟨rfl, ?_⟩
                refine S_w (ws' := [(h0, ob 2 (uF (uF (uF f 1 (iv a2_61)) 2 (iv fl_62)) 4 (iv x2_63))), (ht, ob 6 ft), (hb, ar 160 T), (hc, ar 160 C2_64)]) rfl ?_
                refine S_if_ne (tgt := 134) X dX2_sum_129 (by decide) (by decide) (fun h9 => absurd h9 (by decide)) (fun _ => ?_)
                refine S_iconst X dX2_sum_132 ?_
                exact S_zret X (Or.inl rfl) (nle rfl) (nle rfl) dX2_sum_133 (hPo _ _ (Or.inl ⟨_, _, _, _, rfl, rfl, hk _ (by rw [fuel161 (by omega) (by omega)]; exact sumL_af (by omega) hq_67)⟩))
              ·
                subst hz_70
                subst hu_71
                refine ⟨rfl, ?_⟩
                refine S_w (ws' := [(h0, ob 2 (uF (uF (uF f 1 (iv a2_68)) 2 (iv w)) 4 (iv ((x + ((acc ++ [-w1]).length : Int)) + (ts_69.length : Int))))), (ht, ob 6 ft), (hb, ar 160 T), (hc, ar 160 (wrL (wrL C x (acc ++ [-w1])) (x + ((acc ++ [-w1]).length : Int)) ts_69))]) rfl ?_
                refine S_w (ws' := [(h0, ob 2 (uF (uF (uF f 1 (iv a2_68)) 2 (iv w)) 4 (iv (x + ((acc ++ [-w1] ++ ts_69).length : Int))))), (ht, ob 6 ft), (hb, ar 160 T), (hc, ar 160 (wrL C x (acc ++ [-w1] ++ ts_69)))]) (by simp only [wrL_app, wrL, List.length_append, List.length_singleton, Int.natCast_add, Int.natCast_one, Int.add_assoc, List.append_assoc]) ?_
                have ho_73 := ((pAS_ok (T := T) hn1 K).1 (sk T n a1 + 1) (by omega) (by omega)).2 _ hq_72
                dsimp only at ho_73
                refine S_if_ne (tgt := 134) X dX2_sum_129 (by decide) (by decide) (fun _ => ?_) (fun h9 => absurd h9 (by decide))
                refine S_iload X dX2_sum_134 rfl ?_
                refine S_if_ne (tgt := 147) X dX2_sum_136 (by decide) (by decide) (fun _ => ?_) (fun h9 => absurd h9 (by decide))
                refine S_iinc X dX2_sum_147 (nle rfl) hL14_3 ?_
                refine S_goto (tgt := 14) X dX2_sum_150 (by decide) ?_
                exact ih14 (i + 1) a2_68 (ch T n (sk T n a1)) (acc ++ [-w1] ++ ts_69) _ (by omega) (by simp only [List.length_append, List.length_singleton, Int.natCast_add, Int.natCast_one]; omega) (fun z9 h9 => hk z9 (by rw [fuel161 (by omega) (by omega), sumL_a (by omega) hq_72, if_neg c_32]; exact h9)) hL14_0 hL14_1 rfl rfl (by omega)
          ·
            refine S_iload X dX2_sum_34 rfl ?_
            refine S_bipush X dX2_sum_36 rfl ?_
            refine S_icmp_ne (tgt := 45) X dX2_sum_38 (by decide) (by omega) (by decide) (fun c_76 => ?_) (fun c_76 => ?_)
            ·
              refine S_iconst X dX2_sum_45 ?_
              refine S_istore X dX2_sum_46 (nle rfl) ?_
              refine S_iload X dX2_sum_48 rfl ?_
              refine S_if_ne (tgt := 86) X dX2_sum_50 (by decide) (by decide) (fun h9 => absurd h9 (by decide)) (fun _ => ?_)
              refine S_iload X dX2_sum_53 rfl ?_
              refine S_bipush X dX2_sum_55 rfl ?_
              refine S_icmp_eq (tgt := 86) X dX2_sum_57 (by decide) (by omega) (by decide) (fun c_78 => ?_) (fun c_78 => ?_)
              ·
                refine S_iload X dX2_sum_86 rfl ?_
                refine S_if_eq (tgt := 102) X dX2_sum_88 (by decide) (by decide) (fun _ => ?_) (fun h9 => absurd h9 (by decide))
                refine S_iload X dX2_sum_102 rfl ?_
                refine S_if_eq (tgt := 112) X dX2_sum_104 (by decide) (by decide) (fun _ => ?_) (fun h9 => absurd h9 (by decide))
                refine S_iload_n X dX2_sum_112 rfl hL14_2 ?_
                refine S_istore_n X dX2_sum_113 rfl (nle rfl) ?_
                have hlt1 : sk T n a1 < n := ch_lt (T := T) (by omega)
                refine S_aload_n X dX2_sum_114 rfl hL14_0 ?_
                refine S_dup X dX2_sum_115 ?_
                refine S_get (v := iv (sk T n a1)) X fgX2_68_2 0 rfl rfl dX2_sum_116 ?_
                refine S_iconst X dX2_sum_119 ?_
                refine S_iadd X dX2_sum_120 ?_
                refine S_put X fpX2_68_2 0 rfl FT_i dX2_sum_121 ?_
                refine S_w (ws' := [(h0, ob 2 (uF (uF (uF f 1 (iv ((sk T n a1) + 1))) 2 (iv w)) 4 (iv (x + ((acc).length : Int))))), (ht, ob 6 ft), (hb, ar 160 T), (hc, ar 160 (wrL C x (acc)))]) (by simp only [List.set]; rw [uF_mv (j := 4) (k := 1) (by decide), uF_mv (j := 2) (k := 1) (by decide), uF_same (k := 1)]) ?_
                refine S_aload_n X dX2_sum_124 rfl hL14_0 ?_
                refine S_iload_n X dX2_sum_125 rfl hL14_1 ?_
                refine S_calli X (hat h0 ht hb f ft T n ((sk T n a1) + 1) w (x + ((acc).length : Int)) hc (wrL C x (acc)) wi hf0 hf1 hf2 hf3 (by omega) (by omega) (by (try simp only [List.length_append, List.length_singleton, Int.natCast_add, Int.natCast_one]); omega) (by omega) (by omega)) (is := [0, 1, 2, 3]) rfl (run_V X lkX2_74 0 rfl rfl (is := [0, 1, 2, 3]) (avs := [iv wi]) (rest := []) rfl rfl (nle rfl) ⟨by simp only [rmD]; omega, by simp only [rmD]; omega⟩ ⟨nle rfl, nle rfl⟩ dX2_sum_126 (by decide) rfl) (fun z_83 u_81 hp_82 => ?_)
                rcases hp_82 with ⟨a2_84, fl_85, x2_86, C2_87, hz_88, hu_89, hq_90⟩ | ⟨a2_91, ts_92, hz_93, hu_94, hq_95⟩
                ·
                  subst hz_88
                  subst hu_89
                  refine ⟨rfl, ?_⟩
                  refine S_w (ws' := [(h0, ob 2 (uF (uF (uF f 1 (iv a2_84)) 2 (iv fl_85)) 4 (iv x2_86))), (ht, ob 6 ft), (hb, ar 160 T), (hc, ar 160 C2_87)]) rfl ?_
                  refine S_if_ne (tgt := 134) X dX2_sum_129 (by decide) (by decide) (fun h9 => absurd h9 (by decide)) (fun _ => ?_)
                  refine S_iconst X dX2_sum_132 ?_
                  exact S_zret X (Or.inl rfl) (nle rfl) (nle rfl) dX2_sum_133 (hPo _ _ (Or.inl ⟨_, _, _, _, rfl, rfl, hk _ (by rw [fuel161 (by omega) (by omega)]; exact sumL_mf (by omega) hq_90)⟩))
                ·
                  subst hz_93
                  subst hu_94
                  refine ⟨rfl, ?_⟩
                  refine S_w (ws' := [(h0, ob 2 (uF (uF (uF f 1 (iv a2_91)) 2 (iv w)) 4 (iv ((x + ((acc).length : Int)) + (ts_92.length : Int))))), (ht, ob 6 ft), (hb, ar 160 T), (hc, ar 160 (wrL (wrL C x (acc)) (x + ((acc).length : Int)) ts_92))]) rfl ?_
                  refine S_w (ws' := [(h0, ob 2 (uF (uF (uF f 1 (iv a2_91)) 2 (iv w)) 4 (iv (x + ((acc ++ ts_92).length : Int))))), (ht, ob 6 ft), (hb, ar 160 T), (hc, ar 160 (wrL C x (acc ++ ts_92)))]) (by simp only [wrL_app, wrL, List.length_append, List.length_singleton, Int.natCast_add, Int.natCast_one, Int.add_assoc, List.append_assoc]) ?_
                  have ho_96 := ((pAS_ok (T := T) hn1 K).1 (sk T n a1 + 1) (by omega) (by omega)).2 _ hq_95
                  dsimp only at ho_96
                  refine S_if_ne (tgt := 134) X dX2_sum_129 (by decide) (by decide) (fun _ => ?_) (fun h9 => absurd h9 (by decide))
                  refine S_iload X dX2_sum_134 rfl ?_
                  refine S_if_ne (tgt := 147) X dX2_sum_136 (by decide) (by decide) (fun h9 => absurd h9 (by decide)) (fun _ => ?_)
                  refine S_aload_n X dX2_sum_139 rfl hL14_0 ?_
                  refine S_iload X dX2_sum_140 rfl ?_
                  refine S_ineg X dX2_sum_142 ?_
                  refine S_calli X (kX2_emit l h0 f a2_91 w (x + ((acc ++ ts_92).length : Int)) hc (wrL C x (acc ++ ts_92)) (-(ch T n (sk T n a1))) hf3 (by (try simp only [List.length_append, List.length_singleton, Int.natCast_add, Int.natCast_one]); omega)) (is := [0, 3]) rfl (run_V X lkX2_56 0 rfl rfl (is := [0, 3]) (avs := [iv (-(ch T n (sk T n a1)))]) (rest := []) rfl rfl (nle rfl) ⟨by simp only [rmD]; omega, by simp only [rmD]; omega⟩ ⟨nle rfl, nle rfl⟩ dX2_sum_143 (by decide) rfl) (fun z_101 u_99 hp_100 => ?_)
                  obtain ⟨hz_102, hu_103⟩ := hp_100
                  subst hz_102
                  subst hu_103
                  refine ⟨rfl, ?_⟩
                  refine S_w (ws' := [(h0, ob 2 (uF (uF (uF f 1 (iv a2_91)) 2 (iv w)) 4 (iv ((x + ((acc ++ ts_92).length : Int)) + 1)))), (ht, ob 6 ft), (hb, ar 160 T), (hc, ar 160 (uZ (wrL C x (acc ++ ts_92)) (x + ((acc ++ ts_92).length : Int)) (-(ch T n (sk T n a1)))))]) rfl ?_
                  refine S_w (ws' := [(h0, ob 2 (uF (uF (uF f 1 (iv a2_91)) 2 (iv w)) 4 (iv (x + ((acc ++ ts_92 ++ [-ch T n (sk T n a1)]).length : Int))))), (ht, ob 6 ft), (hb, ar 160 T), (hc, ar 160 (wrL C x (acc ++ ts_92 ++ [-ch T n (sk T n a1)])))]) (by simp only [wrL_app, wrL, List.length_append, List.length_singleton, Int.natCast_add, Int.natCast_one, Int.add_assoc, List.append_assoc]) ?_
                  refine S_pop X dX2_sum_146 ?_
                  refine S_iinc X dX2_sum_147 (nle rfl) hL14_3 ?_
                  refine S_goto (tgt := 14) X dX2_sum_150 (by decide) ?_
                  exact ih14 (i + 1) a2_91 w1 (acc ++ ts_92 ++ [-ch T n (sk T n a1)]) _ (by omega) (by simp only [List.length_append, List.length_singleton, Int.natCast_add, Int.natCast_one]; omega) (fun z9 h9 => hk z9 (by rw [fuel161 (by omega) (by omega), sumL_m (by omega) hq_95]; exact h9)) hL14_0 hL14_1 rfl rfl (by omega)
              ·
                refine S_iload X dX2_sum_60 rfl ?_
                refine S_bipush X dX2_sum_62 rfl ?_
                refine S_icmp_eq (tgt := 86) X dX2_sum_64 (by decide) (by omega) (by decide) (fun c_104 => ?_) (fun c_104 => ?_)
                ·
                  refine S_iload X dX2_sum_86 rfl ?_
                  refine S_if_eq (tgt := 102) X dX2_sum_88 (by decide) (by decide) (fun _ => ?_) (fun h9 => absurd h9 (by decide))
                  refine S_iload X dX2_sum_102 rfl ?_
                  refine S_if_eq (tgt := 112) X dX2_sum_104 (by decide) (by decide) (fun _ => ?_) (fun h9 => absurd h9 (by decide))
                  refine S_iload_n X dX2_sum_112 rfl hL14_2 ?_
                  refine S_istore_n X dX2_sum_113 rfl (nle rfl) ?_
                  have hlt1 : sk T n a1 < n := ch_lt (T := T) (by omega)
                  refine S_aload_n X dX2_sum_114 rfl hL14_0 ?_
                  refine S_dup X dX2_sum_115 ?_
                  refine S_get (v := iv (sk T n a1)) X fgX2_68_2 0 rfl rfl dX2_sum_116 ?_
                  refine S_iconst X dX2_sum_119 ?_
                  refine S_iadd X dX2_sum_120 ?_
                  refine S_put X fpX2_68_2 0 rfl FT_i dX2_sum_121 ?_
                  refine S_w (ws' := [(h0, ob 2 (uF (uF (uF f 1 (iv ((sk T n a1) + 1))) 2 (iv w)) 4 (iv (x + ((acc).length : Int))))), (ht, ob 6 ft), (hb, ar 160 T), (hc, ar 160 (wrL C x (acc)))]) (by simp only [List.set]; rw [uF_mv (j := 4) (k := 1) (by decide), uF_mv (j := 2) (k := 1) (by decide), uF_same (k := 1)]) ?_
                  refine S_aload_n X dX2_sum_124 rfl hL14_0 ?_
                  refine S_iload_n X dX2_sum_125 rfl hL14_1 ?_
                  refine S_calli X (hat h0 ht hb f ft T n ((sk T n a1) + 1) w (x + ((acc).length : Int)) hc (wrL C x (acc)) wi hf0 hf1 hf2 hf3 (by omega) (by omega) (by (try simp only [List.length_append, List.length_singleton, Int.natCast_add, Int.natCast_one]); omega) (by omega) (by omega)) (is := [0, 1, 2, 3]) rfl (run_V X lkX2_74 0 rfl rfl (is := [0, 1, 2, 3]) (avs := [iv wi]) (rest := []) rfl rfl (nle rfl) ⟨by simp only [rmD]; omega, by simp only [rmD]; omega⟩ ⟨nle rfl, nle rfl⟩ dX2_sum_126 (by decide) rfl) (fun z_109 u_107 hp_108 => ?_)
                  rcases hp_108 with ⟨a2_110, fl_111, x2_112, C2_113, hz_114, hu_115, hq_116⟩ | ⟨a2_117, ts_118, hz_119, hu_120, hq_121⟩
                  ·
                    subst hz_114
                    subst hu_115
                    refine ⟨rfl, ?_⟩
                    refine S_w (ws' := [(h0, ob 2 (uF (uF (uF f 1 (iv a2_110)) 2 (iv fl_111)) 4 (iv x2_112))), (ht, ob 6 ft), (hb, ar 160 T), (hc, ar 160 C2_113)]) rfl ?_
                    refine S_if_ne (tgt := 134) X dX2_sum_129 (by decide) (by decide) (fun h9 => absurd h9 (by decide)) (fun _ => ?_)
                    refine S_iconst X dX2_sum_132 ?_
                    exact S_zret X (Or.inl rfl) (nle rfl) (nle rfl) dX2_sum_133 (hPo _ _ (Or.inl ⟨_, _, _, _, rfl, rfl, hk _ (by rw [fuel161 (by omega) (by omega)]; exact sumL_mf (by omega) hq_116)⟩))
                  ·
                    subst hz_119
                    subst hu_120
                    refine ⟨rfl, ?_⟩
                    refine S_w (ws' := [(h0, ob 2 (uF (uF (uF f 1 (iv a2_117)) 2 (iv w)) 4 (iv ((x + ((acc).length : Int)) + (ts_118.length : Int))))), (ht, ob 6 ft), (hb, ar 160 T), (hc, ar 160 (wrL (wrL C x (acc)) (x + ((acc).length : Int)) ts_118))]) rfl ?_
                    refine S_w (ws' := [(h0, ob 2 (uF (uF (uF f 1 (iv a2_117)) 2 (iv w)) 4 (iv (x + ((acc ++ ts_118).length : Int))))), (ht, ob 6 ft), (hb, ar 160 T), (hc, ar 160 (wrL C x (acc ++ ts_118)))]) (by simp only [wrL_app, wrL, List.length_append, List.length_singleton, Int.natCast_add, Int.natCast_one, Int.add_assoc, List.append_assoc]) ?_
                    have ho_122 := ((pAS_ok (T := T) hn1 K).1 (sk T n a1 + 1) (by omega) (by omega)).2 _ hq_121
                    dsimp only at ho_122
                    refine S_if_ne (tgt := 134) X dX2_sum_129 (by decide) (by decide) (fun _ => ?_) (fun h9 => absurd h9 (by decide))
                    refine S_iload X dX2_sum_134 rfl ?_
                    refine S_if_ne (tgt := 147) X dX2_sum_136 (by decide) (by decide) (fun h9 => absurd h9 (by decide)) (fun _ => ?_)
                    refine S_aload_n X dX2_sum_139 rfl hL14_0 ?_
                    refine S_iload X dX2_sum_140 rfl ?_
                    refine S_ineg X dX2_sum_142 ?_
                    refine S_calli X (kX2_emit l h0 f a2_117 w (x + ((acc ++ ts_118).length : Int)) hc (wrL C x (acc ++ ts_118)) (-(ch T n (sk T n a1))) hf3 (by (try simp only [List.length_append, List.length_singleton, Int.natCast_add, Int.natCast_one]); omega)) (is := [0, 3]) rfl (run_V X lkX2_56 0 rfl rfl (is := [0, 3]) (avs := [iv (-(ch T n (sk T n a1)))]) (rest := []) rfl rfl (nle rfl) ⟨by simp only [rmD]; omega, by simp only [rmD]; omega⟩ ⟨nle rfl, nle rfl⟩ dX2_sum_143 (by decide) rfl) (fun z_127 u_125 hp_126 => ?_)
                    obtain ⟨hz_128, hu_129⟩ := hp_126
                    subst hz_128
                    subst hu_129
                    refine ⟨rfl, ?_⟩
                    refine S_w (ws' := [(h0, ob 2 (uF (uF (uF f 1 (iv a2_117)) 2 (iv w)) 4 (iv ((x + ((acc ++ ts_118).length : Int)) + 1)))), (ht, ob 6 ft), (hb, ar 160 T), (hc, ar 160 (uZ (wrL C x (acc ++ ts_118)) (x + ((acc ++ ts_118).length : Int)) (-(ch T n (sk T n a1)))))]) rfl ?_
                    refine S_w (ws' := [(h0, ob 2 (uF (uF (uF f 1 (iv a2_117)) 2 (iv w)) 4 (iv (x + ((acc ++ ts_118 ++ [-ch T n (sk T n a1)]).length : Int))))), (ht, ob 6 ft), (hb, ar 160 T), (hc, ar 160 (wrL C x (acc ++ ts_118 ++ [-ch T n (sk T n a1)])))]) (by simp only [wrL_app, wrL, List.length_append, List.length_singleton, Int.natCast_add, Int.natCast_one, Int.add_assoc, List.append_assoc]) ?_
                    refine S_pop X dX2_sum_146 ?_
                    refine S_iinc X dX2_sum_147 (nle rfl) hL14_3 ?_
                    refine S_goto (tgt := 14) X dX2_sum_150 (by decide) ?_
                    exact ih14 (i + 1) a2_117 w1 (acc ++ ts_118 ++ [-ch T n (sk T n a1)]) _ (by omega) (by simp only [List.length_append, List.length_singleton, Int.natCast_add, Int.natCast_one]; omega) (fun z9 h9 => hk z9 (by rw [fuel161 (by omega) (by omega), sumL_m (by omega) hq_121]; exact h9)) hL14_0 hL14_1 rfl rfl (by omega)
                ·
                  refine S_iload_n X dX2_sum_67 rfl hL14_2 ?_
                  refine S_if_eq (tgt := 80) X dX2_sum_68 (by decide) (by omega) (fun c_130 => ?_) (fun c_130 => ?_)
                  ·
                    refine S_iconst X dX2_sum_80 ?_
                    refine S_goto (tgt := 85) X dX2_sum_81 (by decide) ?_
                    exact S_zret X (Or.inr rfl) (nle rfl) (nle rfl) dX2_sum_85 (hPo _ _ (Or.inr ⟨_, acc, rfl, rfl, (hk (.inr (sk T n a1, if w1 = 0 then acc else acc ++ [-w1])) (by rw [fuel161 (by omega) (by omega)]; exact sumL_e (by omega) (by omega))).trans (by rw [if_pos c_130])⟩))
                  ·
                    refine S_aload_n X dX2_sum_71 rfl hL14_0 ?_
                    refine S_iload_n X dX2_sum_72 rfl hL14_2 ?_
                    refine S_ineg X dX2_sum_73 ?_
                    refine S_calli X (kX2_emit l h0 f (sk T n a1) w (x + ((acc).length : Int)) hc (wrL C x (acc)) (-w1) hf3 (by (try simp only [List.length_append, List.length_singleton, Int.natCast_add, Int.natCast_one]); omega)) (is := [0, 3]) rfl (run_V X lkX2_56 0 rfl rfl (is := [0, 3]) (avs := [iv (-w1)]) (rest := []) rfl rfl (nle rfl) ⟨by simp only [rmD]; omega, by simp only [rmD]; omega⟩ ⟨nle rfl, nle rfl⟩ dX2_sum_74 (by decide) rfl) (fun z_133 u_131 hp_132 => ?_)
                    obtain ⟨hz_134, hu_135⟩ := hp_132
                    subst hz_134
                    subst hu_135
                    refine ⟨rfl, ?_⟩
                    refine S_w (ws' := [(h0, ob 2 (uF (uF (uF f 1 (iv (sk T n a1))) 2 (iv w)) 4 (iv ((x + ((acc).length : Int)) + 1)))), (ht, ob 6 ft), (hb, ar 160 T), (hc, ar 160 (uZ (wrL C x (acc)) (x + ((acc).length : Int)) (-w1)))]) rfl ?_
                    refine S_w (ws' := [(h0, ob 2 (uF (uF (uF f 1 (iv (sk T n a1))) 2 (iv w)) 4 (iv (x + ((acc ++ [-w1]).length : Int))))), (ht, ob 6 ft), (hb, ar 160 T), (hc, ar 160 (wrL C x (acc ++ [-w1])))]) (by simp only [wrL_app, wrL, List.length_append, List.length_singleton, Int.natCast_add, Int.natCast_one, Int.add_assoc, List.append_assoc]) ?_
                    refine S_if_eq (tgt := 84) X dX2_sum_77 (by decide) (by decide) (fun h9 => absurd h9 (by decide)) (fun _ => ?_)
                    refine S_iconst X dX2_sum_80 ?_
                    refine S_goto (tgt := 85) X dX2_sum_81 (by decide) ?_
                    exact S_zret X (Or.inr rfl) (nle rfl) (nle rfl) dX2_sum_85 (hPo _ _ (Or.inr ⟨_, acc ++ [-w1], rfl, rfl, (hk (.inr (sk T n a1, if w1 = 0 then acc else acc ++ [-w1])) (by rw [fuel161 (by omega) (by omega)]; exact sumL_e (by omega) (by omega))).trans (by rw [if_neg c_130])⟩))
            ·
              refine S_iconst X dX2_sum_41 ?_
              refine S_goto (tgt := 46) X dX2_sum_42 (by decide) ?_
              refine S_istore X dX2_sum_46 (nle rfl) ?_
              refine S_iload X dX2_sum_48 rfl ?_
              refine S_if_ne (tgt := 86) X dX2_sum_50 (by decide) (by decide) (fun _ => ?_) (fun h9 => absurd h9 (by decide))
              refine S_iload X dX2_sum_86 rfl ?_
              refine S_if_eq (tgt := 102) X dX2_sum_88 (by decide) (by decide) (fun h9 => absurd h9 (by decide)) (fun _ => ?_)
              refine S_iload_n X dX2_sum_91 rfl hL14_2 ?_
              refine S_if_eq (tgt := 102) X dX2_sum_92 (by decide) (by omega) (fun c_139 => ?_) (fun c_139 => ?_)
              ·
                refine S_iload X dX2_sum_102 rfl ?_
                refine S_if_eq (tgt := 112) X dX2_sum_104 (by decide) (by decide) (fun h9 => absurd h9 (by decide)) (fun _ => ?_)
                refine S_iload X dX2_sum_107 rfl ?_
                refine S_goto (tgt := 113) X dX2_sum_109 (by decide) ?_
                refine S_istore_n X dX2_sum_113 rfl (nle rfl) ?_
                have hlt1 : sk T n a1 < n := ch_lt (T := T) (by omega)
                refine S_aload_n X dX2_sum_114 rfl hL14_0 ?_
                refine S_dup X dX2_sum_115 ?_
                refine S_get (v := iv (sk T n a1)) X fgX2_68_2 0 rfl rfl dX2_sum_116 ?_
                refine S_iconst X dX2_sum_119 ?_
                refine S_iadd X dX2_sum_120 ?_
                refine S_put X fpX2_68_2 0 rfl FT_i dX2_sum_121 ?_
                refine S_w (ws' := [(h0, ob 2 (uF (uF (uF f 1 (iv ((sk T n a1) + 1))) 2 (iv w)) 4 (iv (x + ((acc).length : Int))))), (ht, ob 6 ft), (hb, ar 160 T), (hc, ar 160 (wrL C x (acc)))]) (by simp only [List.set]; rw [uF_mv (j := 4) (k := 1) (by decide), uF_mv (j := 2) (k := 1) (by decide), uF_same (k := 1)]) ?_
                refine S_aload_n X dX2_sum_124 rfl hL14_0 ?_
                refine S_iload_n X dX2_sum_125 rfl hL14_1 ?_
                refine S_calli X (hat h0 ht hb f ft T n ((sk T n a1) + 1) w (x + ((acc).length : Int)) hc (wrL C x (acc)) wi hf0 hf1 hf2 hf3 (by omega) (by omega) (by (try simp only [List.length_append, List.length_singleton, Int.natCast_add, Int.natCast_one]); omega) (by omega) (by omega)) (is := [0, 1, 2, 3]) rfl (run_V X lkX2_74 0 rfl rfl (is := [0, 1, 2, 3]) (avs := [iv wi]) (rest := []) rfl rfl (nle rfl) ⟨by simp only [rmD]; omega, by simp only [rmD]; omega⟩ ⟨nle rfl, nle rfl⟩ dX2_sum_126 (by decide) rfl) (fun z_143 u_141 hp_142 => ?_)
                rcases hp_142 with ⟨a2_144, fl_145, x2_146, C2_147, hz_148, hu_149, hq_150⟩ | ⟨a2_151, ts_152, hz_153, hu_154, hq_155⟩
                ·
                  subst hz_148
                  subst hu_149
                  refine ⟨rfl, ?_⟩
                  refine S_w (ws' := [(h0, ob 2 (uF (uF (uF f 1 (iv a2_144)) 2 (iv fl_145)) 4 (iv x2_146))), (ht, ob 6 ft), (hb, ar 160 T), (hc, ar 160 C2_147)]) rfl ?_
                  refine S_if_ne (tgt := 134) X dX2_sum_129 (by decide) (by decide) (fun h9 => absurd h9 (by decide)) (fun _ => ?_)
                  refine S_iconst X dX2_sum_132 ?_
                  exact S_zret X (Or.inl rfl) (nle rfl) (nle rfl) dX2_sum_133 (hPo _ _ (Or.inl ⟨_, _, _, _, rfl, rfl, hk _ (by rw [fuel161 (by omega) (by omega)]; exact sumL_af (by omega) hq_150)⟩))
                ·
                  subst hz_153
                  subst hu_154
                  refine ⟨rfl, ?_⟩
                  refine S_w (ws' := [(h0, ob 2 (uF (uF (uF f 1 (iv a2_151)) 2 (iv w)) 4 (iv ((x + ((acc).length : Int)) + (ts_152.length : Int))))), (ht, ob 6 ft), (hb, ar 160 T), (hc, ar 160 (wrL (wrL C x (acc)) (x + ((acc).length : Int)) ts_152))]) rfl ?_
                  refine S_w (ws' := [(h0, ob 2 (uF (uF (uF f 1 (iv a2_151)) 2 (iv w)) 4 (iv (x + ((acc ++ ts_152).length : Int))))), (ht, ob 6 ft), (hb, ar 160 T), (hc, ar 160 (wrL C x (acc ++ ts_152)))]) (by simp only [wrL_app, wrL, List.length_append, List.length_singleton, Int.natCast_add, Int.natCast_one, Int.add_assoc, List.append_assoc]) ?_
                  have ho_156 := ((pAS_ok (T := T) hn1 K).1 (sk T n a1 + 1) (by omega) (by omega)).2 _ hq_155
                  dsimp only at ho_156
                  refine S_if_ne (tgt := 134) X dX2_sum_129 (by decide) (by decide) (fun _ => ?_) (fun h9 => absurd h9 (by decide))
                  refine S_iload X dX2_sum_134 rfl ?_
                  refine S_if_ne (tgt := 147) X dX2_sum_136 (by decide) (by decide) (fun _ => ?_) (fun h9 => absurd h9 (by decide))
                  refine S_iinc X dX2_sum_147 (nle rfl) hL14_3 ?_
                  refine S_goto (tgt := 14) X dX2_sum_150 (by decide) ?_
                  exact ih14 (i + 1) a2_151 (ch T n (sk T n a1)) (acc ++ ts_152) _ (by omega) (by simp only [List.length_append, List.length_singleton, Int.natCast_add, Int.natCast_one]; omega) (fun z9 h9 => hk z9 (by rw [fuel161 (by omega) (by omega), sumL_a (by omega) hq_155, if_pos c_139]; exact h9)) hL14_0 hL14_1 rfl rfl (by omega)
              ·
                refine S_aload_n X dX2_sum_95 rfl hL14_0 ?_
                refine S_iload_n X dX2_sum_96 rfl hL14_2 ?_
                refine S_ineg X dX2_sum_97 ?_
                refine S_calli X (kX2_emit l h0 f (sk T n a1) w (x + ((acc).length : Int)) hc (wrL C x (acc)) (-w1) hf3 (by (try simp only [List.length_append, List.length_singleton, Int.natCast_add, Int.natCast_one]); omega)) (is := [0, 3]) rfl (run_V X lkX2_56 0 rfl rfl (is := [0, 3]) (avs := [iv (-w1)]) (rest := []) rfl rfl (nle rfl) ⟨by simp only [rmD]; omega, by simp only [rmD]; omega⟩ ⟨nle rfl, nle rfl⟩ dX2_sum_98 (by decide) rfl) (fun z_161 u_159 hp_160 => ?_)
                obtain ⟨hz_162, hu_163⟩ := hp_160
                subst hz_162
                subst hu_163
                refine ⟨rfl, ?_⟩
                refine S_w (ws' := [(h0, ob 2 (uF (uF (uF f 1 (iv (sk T n a1))) 2 (iv w)) 4 (iv ((x + ((acc).length : Int)) + 1)))), (ht, ob 6 ft), (hb, ar 160 T), (hc, ar 160 (uZ (wrL C x (acc)) (x + ((acc).length : Int)) (-w1)))]) rfl ?_
                refine S_w (ws' := [(h0, ob 2 (uF (uF (uF f 1 (iv (sk T n a1))) 2 (iv w)) 4 (iv (x + ((acc ++ [-w1]).length : Int))))), (ht, ob 6 ft), (hb, ar 160 T), (hc, ar 160 (wrL C x (acc ++ [-w1])))]) (by simp only [wrL_app, wrL, List.length_append, List.length_singleton, Int.natCast_add, Int.natCast_one, Int.add_assoc, List.append_assoc]) ?_
                refine S_pop X dX2_sum_101 ?_
                refine S_iload X dX2_sum_102 rfl ?_
                refine S_if_eq (tgt := 112) X dX2_sum_104 (by decide) (by decide) (fun h9 => absurd h9 (by decide)) (fun _ => ?_)
                refine S_iload X dX2_sum_107 rfl ?_
                refine S_goto (tgt := 113) X dX2_sum_109 (by decide) ?_
                refine S_istore_n X dX2_sum_113 rfl (nle rfl) ?_
                have hlt1 : sk T n a1 < n := ch_lt (T := T) (by omega)
                refine S_aload_n X dX2_sum_114 rfl hL14_0 ?_
                refine S_dup X dX2_sum_115 ?_
                refine S_get (v := iv (sk T n a1)) X fgX2_68_2 0 rfl rfl dX2_sum_116 ?_
                refine S_iconst X dX2_sum_119 ?_
                refine S_iadd X dX2_sum_120 ?_
                refine S_put X fpX2_68_2 0 rfl FT_i dX2_sum_121 ?_
                refine S_w (ws' := [(h0, ob 2 (uF (uF (uF f 1 (iv ((sk T n a1) + 1))) 2 (iv w)) 4 (iv (x + ((acc ++ [-w1]).length : Int))))), (ht, ob 6 ft), (hb, ar 160 T), (hc, ar 160 (wrL C x (acc ++ [-w1])))]) (by simp only [List.set]; rw [uF_mv (j := 4) (k := 1) (by decide), uF_mv (j := 2) (k := 1) (by decide), uF_same (k := 1)]) ?_
                refine S_aload_n X dX2_sum_124 rfl hL14_0 ?_
                refine S_iload_n X dX2_sum_125 rfl hL14_1 ?_
                refine S_calli X (hat h0 ht hb f ft T n ((sk T n a1) + 1) w (x + ((acc ++ [-w1]).length : Int)) hc (wrL C x (acc ++ [-w1])) wi hf0 hf1 hf2 hf3 (by omega) (by omega) (by (try simp only [List.length_append, List.length_singleton, Int.natCast_add, Int.natCast_one]); omega) (by omega) (by omega)) (is := [0, 1, 2, 3]) rfl (run_V X lkX2_74 0 rfl rfl (is := [0, 1, 2, 3]) (avs := [iv wi]) (rest := []) rfl rfl (nle rfl) ⟨by simp only [rmD]; omega, by simp only [rmD]; omega⟩ ⟨nle rfl, nle rfl⟩ dX2_sum_126 (by decide) rfl) (fun z_167 u_165 hp_166 => ?_)
                rcases hp_166 with ⟨a2_168, fl_169, x2_170, C2_171, hz_172, hu_173, hq_174⟩ | ⟨a2_175, ts_176, hz_177, hu_178, hq_179⟩
                ·
                  subst hz_172
                  subst hu_173
                  refine ⟨rfl, ?_⟩
                  refine S_w (ws' := [(h0, ob 2 (uF (uF (uF f 1 (iv a2_168)) 2 (iv fl_169)) 4 (iv x2_170))), (ht, ob 6 ft), (hb, ar 160 T), (hc, ar 160 C2_171)]) rfl ?_
                  refine S_if_ne (tgt := 134) X dX2_sum_129 (by decide) (by decide) (fun h9 => absurd h9 (by decide)) (fun _ => ?_)
                  refine S_iconst X dX2_sum_132 ?_
                  exact S_zret X (Or.inl rfl) (nle rfl) (nle rfl) dX2_sum_133 (hPo _ _ (Or.inl ⟨_, _, _, _, rfl, rfl, hk _ (by rw [fuel161 (by omega) (by omega)]; exact sumL_af (by omega) hq_174)⟩))
                ·
                  subst hz_177
                  subst hu_178
                  refine ⟨rfl, ?_⟩
                  refine S_w (ws' := [(h0, ob 2 (uF (uF (uF f 1 (iv a2_175)) 2 (iv w)) 4 (iv ((x + ((acc ++ [-w1]).length : Int)) + (ts_176.length : Int))))), (ht, ob 6 ft), (hb, ar 160 T), (hc, ar 160 (wrL (wrL C x (acc ++ [-w1])) (x + ((acc ++ [-w1]).length : Int)) ts_176))]) rfl ?_
                  refine S_w (ws' := [(h0, ob 2 (uF (uF (uF f 1 (iv a2_175)) 2 (iv w)) 4 (iv (x + ((acc ++ [-w1] ++ ts_176).length : Int))))), (ht, ob 6 ft), (hb, ar 160 T), (hc, ar 160 (wrL C x (acc ++ [-w1] ++ ts_176)))]) (by simp only [wrL_app, wrL, List.length_append, List.length_singleton, Int.natCast_add, Int.natCast_one, Int.add_assoc, List.append_assoc]) ?_
                  have ho_180 := ((pAS_ok (T := T) hn1 K).1 (sk T n a1 + 1) (by omega) (by omega)).2 _ hq_179
                  dsimp only at ho_180
                  refine S_if_ne (tgt := 134) X dX2_sum_129 (by decide) (by decide) (fun _ => ?_) (fun h9 => absurd h9 (by decide))
                  refine S_iload X dX2_sum_134 rfl ?_
                  refine S_if_ne (tgt := 147) X dX2_sum_136 (by decide) (by decide) (fun _ => ?_) (fun h9 => absurd h9 (by decide))
                  refine S_iinc X dX2_sum_147 (nle rfl) hL14_3 ?_
                  refine S_goto (tgt := 14) X dX2_sum_150 (by decide) ?_
                  exact ih14 (i + 1) a2_175 (ch T n (sk T n a1)) (acc ++ [-w1] ++ ts_176) _ (by omega) (by simp only [List.length_append, List.length_singleton, Int.natCast_add, Int.natCast_one]; omega) (fun z9 h9 => hk z9 (by rw [fuel161 (by omega) (by omega), sumL_a (by omega) hq_179, if_neg c_139]; exact h9)) hL14_0 hL14_1 rfl rfl (by omega)
    exact lp14_1 (Int.toNat (162 - 0) + 1) 0 a2_11 0 ts_12 _ (by omega) (by omega) (fun z9 h9 => (pSum_r hq_15).trans h9) rfl rfl rfl rfl (by omega)
set_option maxHeartbeats 4000000 in
set_option maxRecDepth 100000 in
theorem kX2_comparison (l : Launch) (K : Nat) (d : Nat) (hd : 5 ≤ d) (hsu : C_X2_sum l K d) : C_X2_comparison l K (d + 1) := by
  intro h0 ht hb f ft T n a w x hc C wi hf0 hf1 hf2 hf3 hT ha hx hw h6
  refine AMi.of2 rfl (nle rfl) ?_
  intro D G A p e s m args below meth c Po hPo X
  obtain ⟨hn0, hn1, hT2⟩ := id hT
  have hsk := sk_in (T := T) ha.2
  have hch := ch_in (a := sk T n a) hT (by omega)
  refine S_aload_n X dX2_comparison_0 rfl rfl ?_
  refine S_calli X (kX5_peek_2 l h0 ht hb f ft T n a w x hf0 hf1 hf2 (by omega) (by omega)) (is := [0, 1, 2]) rfl (run_U X lkX2_40_2 0 rfl rfl (is := [0, 1, 2]) (avs := []) (rest := []) rfl rfl (nle rfl) ⟨by simp only [rmD]; omega, by simp only [rmD]; omega⟩ ⟨nle rfl, nle rfl⟩ dX2_comparison_1 (by decide) rfl) (fun z_3 u_1 hp_2 => ?_)
  obtain ⟨hz_4, hu_5⟩ := hp_2
  subst hz_4
  subst hu_5
  refine ⟨rfl, ?_⟩
  refine S_w (ws' := [(h0, ob 2 (uF (uF (uF f 1 (iv (sk T n a))) 2 (iv w)) 4 (iv x))), (ht, ob 6 ft), (hb, ar 160 T), (hc, ar 160 C)]) rfl ?_
  refine S_istore_n X dX2_comparison_4 rfl (nle rfl) ?_
  refine S_iload_n X dX2_comparison_5 rfl rfl ?_
  refine S_calli X (kX2_isComparison l (ch T n (sk T n a)) (by omega)) (is := []) rfl (run_S X lkX2_53 (is := []) (avs := [iv (ch T n (sk T n a))]) (rest := []) rfl rfl (nle rfl) ⟨by simp only [rmD]; omega, by simp only [rmD]; omega⟩ ⟨nle rfl, nle rfl⟩ dX2_comparison_6 (by decide) rfl) (fun z_8 u_6 hp_7 => ?_)
  rcases hp_7 with ⟨hz_9, hu_10, hq_11⟩ | ⟨hz_12, hu_13, hq_14⟩
  ·
    subst hz_9
    subst hu_10
    refine ⟨rfl, ?_⟩
    refine S_w (ws' := [(h0, ob 2 (uF (uF (uF f 1 (iv (sk T n a))) 2 (iv w)) 4 (iv x))), (ht, ob 6 ft), (hb, ar 160 T), (hc, ar 160 C)]) rfl ?_
    refine S_if_ne (tgt := 17) X dX2_comparison_9 (by decide) (by decide) (fun h9 => absurd h9 (by decide)) (fun _ => ?_)
    refine S_aload_n X dX2_comparison_12 rfl rfl ?_
    refine S_calli X (kX5_fail_2 l h0 ht hb f ft T n (sk T n a) w x hf0 hf1 hf2) (is := [0, 1, 2]) rfl (run_U X lkX2_36_2 0 rfl rfl (is := [0, 1, 2]) (avs := []) (rest := []) rfl rfl (nle rfl) ⟨by simp only [rmD]; omega, by simp only [rmD]; omega⟩ ⟨nle rfl, nle rfl⟩ dX2_comparison_13 (by decide) rfl) (fun z_18 u_16 hp_17 => ?_)
    obtain ⟨hz_19, hu_20⟩ := hp_17
    subst hz_19
    subst hu_20
    refine ⟨rfl, ?_⟩
    refine S_w (ws' := [(h0, ob 2 (uF (uF (uF f 1 (iv (sk T n a))) 2 (iv (sk T n a))) 4 (iv x))), (ht, ob 6 ft), (hb, ar 160 T), (hc, ar 160 C)]) rfl ?_
    exact S_zret X (Or.inl rfl) (nle rfl) (nle rfl) dX2_comparison_16 (hPo _ _ (Or.inl ⟨_, _, _, _, rfl, rfl, cmp_n (by assumption)⟩))
  ·
    subst hz_12
    subst hu_13
    refine ⟨rfl, ?_⟩
    refine S_w (ws' := [(h0, ob 2 (uF (uF (uF f 1 (iv (sk T n a))) 2 (iv w)) 4 (iv x))), (ht, ob 6 ft), (hb, ar 160 T), (hc, ar 160 C)]) rfl ?_
    refine S_if_ne (tgt := 17) X dX2_comparison_9 (by decide) (by decide) (fun _ => ?_) (fun h9 => absurd h9 (by decide))
    have hlt : sk T n a < n := ch_lt (T := T) (by omega)
    refine S_aload_n X dX2_comparison_17 rfl rfl ?_
    refine S_dup X dX2_comparison_18 ?_
    refine S_get (v := iv (sk T n a)) X fgX2_68_2 0 rfl rfl dX2_comparison_19 ?_
    refine S_iconst X dX2_comparison_22 ?_
    refine S_iadd X dX2_comparison_23 ?_
    refine S_put X fpX2_68_2 0 rfl FT_i dX2_comparison_24 ?_
    refine S_w (ws' := [(h0, ob 2 (uF (uF (uF f 1 (iv ((sk T n a) + 1))) 2 (iv w)) 4 (iv x))), (ht, ob 6 ft), (hb, ar 160 T), (hc, ar 160 C)]) (by simp only [List.set]; rw [uF_mv (j := 4) (k := 1) (by decide), uF_mv (j := 2) (k := 1) (by decide), uF_same (k := 1)]) ?_
    refine S_aload_n X dX2_comparison_27 rfl rfl ?_
    refine S_iload_n X dX2_comparison_28 rfl rfl ?_
    refine S_calli X (hsu h0 ht hb f ft T n ((sk T n a) + 1) w x hc C wi hf0 hf1 hf2 hf3 (by omega) (by omega) (by (try simp only [List.length_append, List.length_singleton, Int.natCast_add, Int.natCast_one]); omega) (by omega) (by omega)) (is := [0, 1, 2, 3]) rfl (run_V X lkX2_50 0 rfl rfl (is := [0, 1, 2, 3]) (avs := [iv wi]) (rest := []) rfl rfl (nle rfl) ⟨by simp only [rmD]; omega, by simp only [rmD]; omega⟩ ⟨nle rfl, nle rfl⟩ dX2_comparison_29 (by decide) rfl) (fun z_24 u_22 hp_23 => ?_)
    rcases hp_23 with ⟨a2_25, fl_26, x2_27, C2_28, hz_29, hu_30, hq_31⟩ | ⟨a2_32, ts_33, hz_34, hu_35, hq_36⟩
    ·
      subst hz_29
      subst hu_30
      refine ⟨rfl, ?_⟩
      refine S_w (ws' := [(h0, ob 2 (uF (uF (uF f 1 (iv a2_25)) 2 (iv fl_26)) 4 (iv x2_27))), (ht, ob 6 ft), (hb, ar 160 T), (hc, ar 160 C2_28)]) rfl ?_
      refine S_if_eq (tgt := 48) X dX2_comparison_32 (by decide) (by decide) (fun _ => ?_) (fun h9 => absurd h9 (by decide))
      refine S_iconst X dX2_comparison_48 ?_
      exact S_zret X (Or.inl rfl) (nle rfl) (nle rfl) dX2_comparison_49 (hPo _ _ (Or.inl ⟨_, _, _, _, rfl, rfl, cmp_f (by assumption) hq_31⟩))
    ·
      subst hz_34
      subst hu_35
      refine ⟨rfl, ?_⟩
      refine S_w (ws' := [(h0, ob 2 (uF (uF (uF f 1 (iv a2_32)) 2 (iv w)) 4 (iv (x + (ts_33.length : Int))))), (ht, ob 6 ft), (hb, ar 160 T), (hc, ar 160 (wrL C x ts_33))]) rfl ?_
      refine S_w (ws' := [(h0, ob 2 (uF (uF (uF f 1 (iv a2_32)) 2 (iv w)) 4 (iv (x + ((ts_33).length : Int))))), (ht, ob 6 ft), (hb, ar 160 T), (hc, ar 160 (wrL C x (ts_33)))]) (by simp only [wrL_app, wrL, List.length_append, List.length_singleton, Int.natCast_add, Int.natCast_one, Int.add_assoc, List.append_assoc]) ?_
      have ho_37 := ((pAS_ok (T := T) hn1 K).2 (sk T n a + 1) (by omega) (by omega)).2 _ hq_36
      dsimp only at ho_37
      refine S_if_eq (tgt := 48) X dX2_comparison_32 (by decide) (by decide) (fun h9 => absurd h9 (by decide)) (fun _ => ?_)
      refine S_aload_n X dX2_comparison_35 rfl rfl ?_
      refine S_iload_n X dX2_comparison_36 rfl rfl ?_
      refine S_ineg X dX2_comparison_37 ?_
      refine S_calli X (kX2_emit l h0 f a2_32 w (x + ((ts_33).length : Int)) hc (wrL C x (ts_33)) (-(ch T n (sk T n a))) hf3 (by (try simp only [List.length_append, List.length_singleton, Int.natCast_add, Int.natCast_one]); omega)) (is := [0, 3]) rfl (run_V X lkX2_56 0 rfl rfl (is := [0, 3]) (avs := [iv (-(ch T n (sk T n a)))]) (rest := []) rfl rfl (nle rfl) ⟨by simp only [rmD]; omega, by simp only [rmD]; omega⟩ ⟨nle rfl, nle rfl⟩ dX2_comparison_38 (by decide) rfl) (fun z_41 u_39 hp_40 => ?_)
      obtain ⟨hz_42, hu_43⟩ := hp_40
      subst hz_42
      subst hu_43
      refine ⟨rfl, ?_⟩
      refine S_w (ws' := [(h0, ob 2 (uF (uF (uF f 1 (iv a2_32)) 2 (iv w)) 4 (iv ((x + ((ts_33).length : Int)) + 1)))), (ht, ob 6 ft), (hb, ar 160 T), (hc, ar 160 (uZ (wrL C x (ts_33)) (x + ((ts_33).length : Int)) (-(ch T n (sk T n a)))))]) rfl ?_
      refine S_w (ws' := [(h0, ob 2 (uF (uF (uF f 1 (iv a2_32)) 2 (iv w)) 4 (iv (x + ((ts_33 ++ [-ch T n (sk T n a)]).length : Int))))), (ht, ob 6 ft), (hb, ar 160 T), (hc, ar 160 (wrL C x (ts_33 ++ [-ch T n (sk T n a)])))]) (by simp only [wrL_app, wrL, List.length_append, List.length_singleton, Int.natCast_add, Int.natCast_one, Int.add_assoc, List.append_assoc]) ?_
      refine S_if_eq (tgt := 48) X dX2_comparison_41 (by decide) (by decide) (fun h9 => absurd h9 (by decide)) (fun _ => ?_)
      refine S_iconst X dX2_comparison_44 ?_
      refine S_goto (tgt := 49) X dX2_comparison_45 (by decide) ?_
      exact S_zret X (Or.inr rfl) (nle rfl) (nle rfl) dX2_comparison_49 (hPo _ _ (Or.inr ⟨_, ts_33 ++ [-ch T n (sk T n a)], rfl, rfl, cmp_r (by assumption) hq_36⟩))
