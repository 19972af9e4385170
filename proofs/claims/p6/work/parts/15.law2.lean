theorem moreL_o {T : Int → Int} {n a b : Int} {unit : Int → LR} {f : Nat} {w : Bool} {acc ts : List Int} (h : ch T n (sk T n a) = 124) (h2 : unit (sk T n a + 1) = .inr (b, ts)) : moreL T n unit (f + 1) w a acc = moreL T n unit f true b ((if w then acc ++ [-124] else acc) ++ ts) := by rw [moreL, if_pos h, h2]
theorem moreL_of {T : Int → Int} {n a g : Int} {unit : Int → LR} {f : Nat} {w : Bool} {acc : List Int} (h : ch T n (sk T n a) = 124) (h2 : unit (sk T n a + 1) = .inl g) : moreL T n unit (f + 1) w a acc = .inl g := by rw [moreL, if_pos h, h2]
theorem moreL_a {T : Int → Int} {n a b : Int} {unit : Int → LR} {f : Nat} {w : Bool} {acc ts : List Int} (h : ch T n (sk T n a) = 38) (h2 : unit (sk T n a + 1) = .inr (b, ts)) : moreL T n unit (f + 1) w a acc = moreL T n unit f w b (acc ++ ts ++ [-38]) := by rw [moreL, if_neg (by omega), if_pos h, h2]
theorem moreL_af {T : Int → Int} {n a g : Int} {unit : Int → LR} {f : Nat} {w : Bool} {acc : List Int} (h : ch T n (sk T n a) = 38) (h2 : unit (sk T n a + 1) = .inl g) : moreL T n unit (f + 1) w a acc = .inl g := by rw [moreL, if_neg (by omega), if_pos h, h2]
theorem moreL_e {T : Int → Int} {n a : Int} {unit : Int → LR} {f : Nat} {w : Bool} {acc : List Int} (h : ¬ ch T n (sk T n a) = 124) (h2 : ¬ ch T n (sk T n a) = 38) : moreL T n unit (f + 1) w a acc = .inr (sk T n a, if w then acc ++ [-124] else acc) := by rw [moreL, if_neg h, if_neg h2]
theorem pCond_f {T : Int → Int} {n a f : Int} {k : Nat} (h : pUnit T n k a = .inl f) : pCond T n k a = .inl f := by unfold pCond condG; rw [h]
theorem pCond_r {T : Int → Int} {n a b : Int} {k : Nat} {ts : List Int} (h : pUnit T n k a = .inr (b, ts)) : pCond T n k a = moreL T n (pUnit T n k) 161 false b ts := by unfold pCond condG; rw [h]
theorem pUnit_0 (T : Int → Int) (n : Int) : pUnit T n 0 = unitG T n (fun _ => .inl 0) (fun _ => .inl 0) 0 := rfl
theorem pUnit_s (T : Int → Int) (n : Int) (k : Nat) : pUnit T n (k + 1) = unitG T n (pCond T n k) (pUnit T n k) (k + 1) := rfl
theorem unit_sf {T : Int → Int} {n a f : Int} {k : Nat} (h : ch T n (sk T n a) ≠ 33 ∧ ch T n (sk T n a) ≠ 40) (h2 : pSum T n k (sk T n a) = .inl f) : pUnit T n k a = .inl f := by
  cases k with
  | zero => rw [pUnit_0, unitG, if_pos h, h2]
  | succ k => rw [pUnit_s, unitG, if_pos h, h2]
theorem unit_cf {T : Int → Int} {n a b f : Int} {k : Nat} {ts : List Int} (h : ch T n (sk T n a) ≠ 33 ∧ ch T n (sk T n a) ≠ 40) (h2 : pSum T n k (sk T n a) = .inr (b, ts)) (h3 : cmpG T n k b = .inl f) : pUnit T n k a = .inl f := by
  cases k with
  | zero => rw [pUnit_0, unitG, if_pos h, h2]; show (match cmpG T n 0 b with | .inl f => (.inl f : LR) | .inr r => .inr (r.1, ts ++ r.2)) = _; rw [h3]
  | succ k => rw [pUnit_s, unitG, if_pos h, h2]; show (match cmpG T n (k + 1) b with | .inl f => (.inl f : LR) | .inr r => .inr (r.1, ts ++ r.2)) = _; rw [h3]
theorem unit_c {T : Int → Int} {n a b b2 : Int} {k : Nat} {ts ts2 : List Int} (h : ch T n (sk T n a) ≠ 33 ∧ ch T n (sk T n a) ≠ 40) (h2 : pSum T n k (sk T n a) = .inr (b, ts)) (h3 : cmpG T n k b = .inr (b2, ts2)) : pUnit T n k a = .inr (b2, ts ++ ts2) := by
  cases k with
  | zero => rw [pUnit_0, unitG, if_pos h, h2]; show (match cmpG T n 0 b with | .inl f => (.inl f : LR) | .inr r => .inr (r.1, ts ++ r.2)) = _; rw [h3]
  | succ k => rw [pUnit_s, unitG, if_pos h, h2]; show (match cmpG T n (k + 1) b with | .inl f => (.inl f : LR) | .inr r => .inr (r.1, ts ++ r.2)) = _; rw [h3]
theorem unit_d {T : Int → Int} {n a : Int} {k : Nat} (h : ¬ (ch T n (sk T n a) ≠ 33 ∧ ch T n (sk T n a) ≠ 40)) (hk : k = 0) : pUnit T n k a = .inl (sk T n a) := by
  subst hk
  rw [pUnit_0, unitG, if_neg h, if_pos rfl]
theorem unit_nf {T : Int → Int} {n a f : Int} {k : Nat} (h : ch T n (sk T n a) = 33) (h2 : pUnit T n k (sk T n a + 1) = .inl f) : pUnit T n (k + 1) a = .inl f := by
  rw [pUnit_s, unitG, if_neg (by omega), if_neg (by omega), if_pos h, h2]
theorem unit_n {T : Int → Int} {n a b : Int} {k : Nat} {ts : List Int} (h : ch T n (sk T n a) = 33) (h2 : pUnit T n k (sk T n a + 1) = .inr (b, ts)) : pUnit T n (k + 1) a = .inr (b, ts ++ [-33]) := by
  rw [pUnit_s, unitG, if_neg (by omega), if_neg (by omega), if_pos h, h2]
theorem unit_pf {T : Int → Int} {n a f : Int} {k : Nat} (h : ch T n (sk T n a) = 40) (h2 : pCond T n k (sk T n a + 1) = .inl f) : pUnit T n (k + 1) a = .inl f := by
  rw [pUnit_s, unitG, if_neg (by omega), if_neg (by omega), if_neg (by omega), h2]
theorem unit_p {T : Int → Int} {n a b : Int} {k : Nat} {ts : List Int} (h : ch T n (sk T n a) = 40) (h2 : pCond T n k (sk T n a + 1) = .inr (b, ts)) : pUnit T n (k + 1) a = if ch T n (sk T n b) = 41 then .inr (sk T n b + 1, ts) else .inl (sk T n b) := by
  rw [pUnit_s, unitG, if_neg (by omega), if_neg (by omega), if_neg (by omega), h2]
def negG (T : Int → Int) (n : Int) (k : Nat) (a : Int) : LR := match pUnit T n k a with
  | .inl f => .inl f
  | .inr q => .inr (q.1, q.2 ++ [-33])
theorem neg_f {T : Int → Int} {n a f : Int} {k : Nat} (h2 : pUnit T n k a = .inl f) : negG T n k a = .inl f := by rw [negG, h2]
theorem neg_r {T : Int → Int} {n a b : Int} {k : Nat} {ts : List Int} (h2 : pUnit T n k a = .inr (b, ts)) : negG T n k a = .inr (b, ts ++ [-33]) := by rw [negG, h2]
theorem unit_ng {T : Int → Int} {n a : Int} {k : Nat} (h : ch T n (sk T n a) = 33) : pUnit T n (k + 1) a = negG T n k (sk T n a + 1) := by
  rw [pUnit_s, unitG, if_neg (by omega), if_neg (by omega), if_pos h]
  rfl
theorem negG_ok {T : Int → Int} {n : Int} (hn : n ≤ 160) (k : Nat) (a : Int) (h0 : 0 ≤ a) (ha : a ≤ n) : (∀ f, negG T n k a = .inl f → 0 ≤ f ∧ f ≤ n) ∧ (∀ q, negG T n k a = .inr q → a < q.1 ∧ q.1 ≤ n ∧ (q.2.length : Int) ≤ q.1 - a + 1 ∧ 0 < q.2.length ∧ ∀ t ∈ q.2, -200 ≤ t ∧ t ≤ 9999) := by
  have h1 := pUnit_ok (T := T) hn k a h0 ha
  cases hp : pUnit T n k a with
  | inl f => rw [neg_f hp]; exact ⟨fun f' e => (by cases e; exact h1.1 f hp), fun q e => (by cases e)⟩
  | inr q =>
    obtain ⟨b, ts⟩ := q
    have h2 := h1.2 _ hp
    dsimp only at h2
    rw [neg_r hp]
    refine ⟨fun f' e => (by cases e), fun q e => ?_⟩
    cases e
    exact ⟨h2.1, h2.2.1, by simp only [List.length_append, List.length_singleton]; omega, by simp, ok_app h2.2.2.2.2 (ok_one (by decide))⟩
def C_X2_unit (l : Launch) (K : Nat) (d : Nat) : Prop := ∀ (h0 : Nat) (ht : Nat) (hb : Nat) (f : Nat → AV) (ft : Nat → AV) (T : Int → Int) (n : Int) (a : Int) (w : Int) (x : Int) (hc : Nat) (C : Int → Int) (wi : Int), (f 0 = rv ht) → (ft 0 = rv hb) → (ft 1 = iv n) → (f 3 = rv hc) → (okT T n) → (0 ≤ a ∧ a ≤ n) → (0 ≤ x ∧ x < a) → (wi + K = 6) → (0 ≤ wi) → AMi l yX2_unit cX2_unit 3 .boolean d 0 0 [rv h0, iv wi] [(h0, ob 2 (uF (uF (uF f 1 (iv a)) 2 (iv w)) 4 (iv x))), (ht, ob 6 ft), (hb, ar 160 T), (hc, ar 160 C)] (fun z u => (∃ a2 : Int, ∃ fl : Int, ∃ x2 : Int, ∃ C2 : Int → Int, z = 0 ∧ u = [(h0, ob 2 (uF (uF (uF f 1 (iv a2)) 2 (iv fl)) 4 (iv x2))), (ht, ob 6 ft), (hb, ar 160 T), (hc, ar 160 C2)] ∧ pUnit T n K a = .inl fl) ∨ (∃ a2 : Int, ∃ ts : List Int, z = 1 ∧ u = [(h0, ob 2 (uF (uF (uF f 1 (iv a2)) 2 (iv w)) 4 (iv (x + (ts.length : Int))))), (ht, ob 6 ft), (hb, ar 160 T), (hc, ar 160 (wrL C x ts))] ∧ pUnit T n K a = .inr (a2, ts)))
def C_X2_negated (l : Launch) (K : Nat) (d : Nat) : Prop := ∀ (h0 : Nat) (ht : Nat) (hb : Nat) (f : Nat → AV) (ft : Nat → AV) (T : Int → Int) (n : Int) (a : Int) (w : Int) (x : Int) (hc : Nat) (C : Int → Int) (wi : Int), (f 0 = rv ht) → (ft 0 = rv hb) → (ft 1 = iv n) → (f 3 = rv hc) → (okT T n) → (0 ≤ a ∧ a ≤ n) → (0 ≤ x ∧ x < a) → (wi + K = 6) → (0 ≤ wi) → AMi l yX2_negated cX2_negated 2 .boolean d 0 0 [rv h0, iv wi] [(h0, ob 2 (uF (uF (uF f 1 (iv a)) 2 (iv w)) 4 (iv x))), (ht, ob 6 ft), (hb, ar 160 T), (hc, ar 160 C)] (fun z u => (∃ a2 : Int, ∃ fl : Int, ∃ x2 : Int, ∃ C2 : Int → Int, z = 0 ∧ u = [(h0, ob 2 (uF (uF (uF f 1 (iv a2)) 2 (iv fl)) 4 (iv x2))), (ht, ob 6 ft), (hb, ar 160 T), (hc, ar 160 C2)] ∧ negG T n K a = .inl fl) ∨ (∃ a2 : Int, ∃ ts : List Int, z = 1 ∧ u = [(h0, ob 2 (uF (uF (uF f 1 (iv a2)) 2 (iv w)) 4 (iv (x + (ts.length : Int))))), (ht, ob 6 ft), (hb, ar 160 T), (hc, ar 160 (wrL C x ts))] ∧ negG T n K a = .inr (a2, ts)))
def C_X2_moreUnits (l : Launch) (K : Nat) (d : Nat) : Prop := ∀ (h0 : Nat) (ht : Nat) (hb : Nat) (f : Nat → AV) (ft : Nat → AV) (T : Int → Int) (n : Int) (a : Int) (w : Int) (x : Int) (hc : Nat) (C : Int → Int) (wi : Int) (tl : List Int), (f 0 = rv ht) → (ft 0 = rv hb) → (ft 1 = iv n) → (f 3 = rv hc) → (okT T n) → (0 ≤ a ∧ a ≤ n) → (0 ≤ x ∧ x + (tl.length : Int) < a) → (wi + K = 6) → (0 ≤ wi) → AMi l yX2_moreUnits cX2_moreUnits 6 .boolean d 0 0 [rv h0, iv wi] [(h0, ob 2 (uF (uF (uF f 1 (iv a)) 2 (iv w)) 4 (iv (x + ((tl).length : Int))))), (ht, ob 6 ft), (hb, ar 160 T), (hc, ar 160 (wrL C x (tl)))] (fun z u => (∃ a2 : Int, ∃ fl : Int, ∃ x2 : Int, ∃ C2 : Int → Int, z = 0 ∧ u = [(h0, ob 2 (uF (uF (uF f 1 (iv a2)) 2 (iv fl)) 4 (iv x2))), (ht, ob 6 ft), (hb, ar 160 T), (hc, ar 160 C2)] ∧ moreL T n (pUnit T n K) 161 false a tl = .inl fl) ∨ (∃ a2 : Int, ∃ ts : List Int, z = 1 ∧ u = [(h0, ob 2 (uF (uF (uF f 1 (iv a2)) 2 (iv w)) 4 (iv (x + ((ts).length : Int))))), (ht, ob 6 ft), (hb, ar 160 T), (hc, ar 160 (wrL C x (ts)))] ∧ moreL T n (pUnit T n K) 161 false a tl = .inr (a2, ts)))
def C_X2_condition (l : Launch) (K : Nat) (d : Nat) : Prop := ∀ (h0 : Nat) (ht : Nat) (hb : Nat) (f : Nat → AV) (ft : Nat → AV) (T : Int → Int) (n : Int) (a : Int) (w : Int) (x : Int) (hc : Nat) (C : Int → Int) (wi : Int), (f 0 = rv ht) → (ft 0 = rv hb) → (ft 1 = iv n) → (f 3 = rv hc) → (okT T n) → (0 ≤ a ∧ a ≤ n) → (0 ≤ x ∧ x < a) → (wi + K = 6) → (0 ≤ wi) → AMi l yX2_condition cX2_condition 2 .boolean d 0 0 [rv h0, iv wi] [(h0, ob 2 (uF (uF (uF f 1 (iv a)) 2 (iv w)) 4 (iv x))), (ht, ob 6 ft), (hb, ar 160 T), (hc, ar 160 C)] (fun z u => (∃ a2 : Int, ∃ fl : Int, ∃ x2 : Int, ∃ C2 : Int → Int, z = 0 ∧ u = [(h0, ob 2 (uF (uF (uF f 1 (iv a2)) 2 (iv fl)) 4 (iv x2))), (ht, ob 6 ft), (hb, ar 160 T), (hc, ar 160 C2)] ∧ pCond T n K a = .inl fl) ∨ (∃ a2 : Int, ∃ ts : List Int, z = 1 ∧ u = [(h0, ob 2 (uF (uF (uF f 1 (iv a2)) 2 (iv w)) 4 (iv (x + (ts.length : Int))))), (ht, ob 6 ft), (hb, ar 160 T), (hc, ar 160 (wrL C x ts))] ∧ pCond T n K a = .inr (a2, ts)))
set_option maxHeartbeats 4000000 in
set_option maxRecDepth 100000 in
theorem kX2_negated (l : Launch) (K : Nat) (d : Nat) (hd : 5 ≤ d) (hun : C_X2_unit l K d) : C_X2_negated l K (d + 1) := by
  intro h0 ht hb f ft T n a w x hc C wi hf0 hf1 hf2 hf3 hT ha hx hw h6
  refine AMi.of2 rfl (nle rfl) ?_
  intro D G A p e s m args below meth c Po hPo X
  obtain ⟨hn0, hn1, hT2⟩ := id hT
  have hsk := sk_in (T := T) ha.2
  have hch := ch_in (a := sk T n a) hT (by omega)
  refine S_aload_n X dX2_negated_0 rfl rfl ?_
  refine S_iload_n X dX2_negated_1 rfl rfl ?_
  refine S_calli X (hun h0 ht hb f ft T n a w x hc C wi hf0 hf1 hf2 hf3 (by omega) (by omega) (by (try simp only [List.length_append, List.length_singleton, Int.natCast_add, Int.natCast_one]); omega) (by omega) (by omega)) (is := [0, 1, 2, 3]) rfl (run_V X lkX2_65 0 rfl rfl (is := [0, 1, 2, 3]) (avs := [iv wi]) (rest := []) rfl rfl (nle rfl) ⟨by simp only [rmD]; omega, by simp only [rmD]; omega⟩ ⟨nle rfl, nle rfl⟩ dX2_negated_2 (by decide) rfl) (fun z_3 u_1 hp_2 => ?_)
  rcases hp_2 with ⟨a2_4, fl_5, x2_6, C2_7, hz_8, hu_9, hq_10⟩ | ⟨a2_11, ts_12, hz_13, hu_14, hq_15⟩
  ·
    subst hz_8
    subst hu_9
    refine ⟨rfl, ?_⟩
    refine S_w (ws' := [(h0, ob 2 (uF (uF (uF f 1 (iv a2_4)) 2 (iv fl_5)) 4 (iv x2_6))), (ht, ob 6 ft), (hb, ar 160 T), (hc, ar 160 C2_7)]) rfl ?_
    refine S_if_eq (tgt := 21) X dX2_negated_5 (by decide) (by decide) (fun _ => ?_) (fun h9 => absurd h9 (by decide))
    refine S_iconst X dX2_negated_21 ?_
    exact S_zret X (Or.inl rfl) (nle rfl) (nle rfl) dX2_negated_22 (hPo _ _ (Or.inl ⟨_, _, _, _, rfl, rfl, neg_f hq_10⟩))
  ·
    subst hz_13
    subst hu_14
    refine ⟨rfl, ?_⟩
    refine S_w (ws' := [(h0, ob 2 (uF (uF (uF f 1 (iv a2_11)) 2 (iv w)) 4 (iv (x + (ts_12.length : Int))))), (ht, ob 6 ft), (hb, ar 160 T), (hc, ar 160 (wrL C x ts_12))]) rfl ?_
    refine S_w (ws' := [(h0, ob 2 (uF (uF (uF f 1 (iv a2_11)) 2 (iv w)) 4 (iv (x + ((ts_12).length : Int))))), (ht, ob 6 ft), (hb, ar 160 T), (hc, ar 160 (wrL C x (ts_12)))]) (by simp only [wrL_app, wrL, List.length_append, List.length_singleton, Int.natCast_add, Int.natCast_one, Int.add_assoc, List.append_assoc]) ?_
    have ho_16 := (pUnit_ok (T := T) hn1 K (a) (by omega) (by omega)).2 _ hq_15
    dsimp only at ho_16
    refine S_if_eq (tgt := 21) X dX2_negated_5 (by decide) (by decide) (fun h9 => absurd h9 (by decide)) (fun _ => ?_)
    refine S_aload_n X dX2_negated_8 rfl rfl ?_
    refine S_bipush X dX2_negated_9 rfl ?_
    refine S_calli X (kX2_emit l h0 f a2_11 w (x + ((ts_12).length : Int)) hc (wrL C x (ts_12)) (-33) hf3 (by (try simp only [List.length_append, List.length_singleton, Int.natCast_add, Int.natCast_one]); omega)) (is := [0, 3]) rfl (run_V X lkX2_56 0 rfl rfl (is := [0, 3]) (avs := [iv (-33)]) (rest := []) rfl rfl (nle rfl) ⟨by simp only [rmD]; omega, by simp only [rmD]; omega⟩ ⟨nle rfl, nle rfl⟩ dX2_negated_11 (by decide) rfl) (fun z_20 u_18 hp_19 => ?_)
    obtain ⟨hz_21, hu_22⟩ := hp_19
    subst hz_21
    subst hu_22
    refine ⟨rfl, ?_⟩
    refine S_w (ws' := [(h0, ob 2 (uF (uF (uF f 1 (iv a2_11)) 2 (iv w)) 4 (iv ((x + ((ts_12).length : Int)) + 1)))), (ht, ob 6 ft), (hb, ar 160 T), (hc, ar 160 (uZ (wrL C x (ts_12)) (x + ((ts_12).length : Int)) (-33)))]) rfl ?_
    refine S_w (ws' := [(h0, ob 2 (uF (uF (uF f 1 (iv a2_11)) 2 (iv w)) 4 (iv (x + ((ts_12 ++ [-33]).length : Int))))), (ht, ob 6 ft), (hb, ar 160 T), (hc, ar 160 (wrL C x (ts_12 ++ [-33])))]) (by simp only [wrL_app, wrL, List.length_append, List.length_singleton, Int.natCast_add, Int.natCast_one, Int.add_assoc, List.append_assoc]) ?_
    refine S_if_eq (tgt := 21) X dX2_negated_14 (by decide) (by decide) (fun h9 => absurd h9 (by decide)) (fun _ => ?_)
    refine S_iconst X dX2_negated_17 ?_
    refine S_goto (tgt := 22) X dX2_negated_18 (by decide) ?_
    exact S_zret X (Or.inr rfl) (nle rfl) (nle rfl) dX2_negated_22 (hPo _ _ (Or.inr ⟨_, ts_12 ++ [-33], rfl, rfl, neg_r hq_15⟩))
set_option maxHeartbeats 4000000 in
set_option maxRecDepth 100000 in
theorem kX2_moreUnits (l : Launch) (K : Nat) (d : Nat) (hd : 5 ≤ d) (hun : C_X2_unit l K d) : C_X2_moreUnits l K (d + 1) := by
  intro h0 ht hb f ft T n a w x hc C wi tl hf0 hf1 hf2 hf3 hT ha hx hw h6
  refine AMi.of2 rfl (nle rfl) ?_
  intro D G A p e s m args below meth c Po hPo X
  obtain ⟨hn0, hn1, hT2⟩ := id hT
  have hsk := sk_in (T := T) ha.2
  have hch := ch_in (a := sk T n a) hT (by omega)
  refine S_iconst X dX2_moreUnits_0 ?_
  refine S_istore_n X dX2_moreUnits_1 rfl (nle rfl) ?_
  refine S_iconst X dX2_moreUnits_2 ?_
  refine S_istore_n X dX2_moreUnits_3 rfl (nle rfl) ?_
  have lp4_0 : ∀ (N : Nat) (i : Int) (a1 : Int) (w1 : Int) (wb : Bool) (acc : List Int) (L : Nat → Option AV), 0 ≤ i ∧ i ≤ 161 ∧ a ≤ a1 ∧ a1 ≤ n → (w1 = 0 ∧ wb = false ∧ x + (acc.length : Int) < a1) ∨ (w1 = 1 ∧ wb = true ∧ x + (acc.length : Int) + 1 < a1) → (∀ z9, moreL T n (pUnit T n K) (161 - i.toNat) wb a1 acc = z9 → moreL T n (pUnit T n K) 161 false a tl = z9) → L 0 = some (rv h0) → L 1 = some (iv wi) → L 2 = some (iv w1) → L 3 = some (iv i) → 162 - i < (N : Int) → S_ p l e (rmD (d + 1) 0 0) s m args below meth c (MQ below (QcI D G A Po) args s 0 0 A) D G A 6 0 0 4 L [] [(h0, ob 2 (uF (uF (uF f 1 (iv a1)) 2 (iv w)) 4 (iv (x + ((acc).length : Int))))), (ht, ob 6 ft), (hb, ar 160 T), (hc, ar 160 (wrL C x (acc)))] := by
    intro N
    induction N with
    | zero =>
      intro i a1 w1 wb acc L4 hi hbd hk hL4_0 hL4_1 hL4_2 hL4_3 hN4
      exfalso; omega
    | succ N ih4 =>
      intro i a1 w1 wb acc L4 hi hbd hk hL4_0 hL4_1 hL4_2 hL4_3 hN4
      refine S_iload_n X dX2_moreUnits_4 rfl hL4_3 ?_
      refine S_sipush X dX2_moreUnits_5 rfl ?_
      refine S_icmp_gt (tgt := 133) X dX2_moreUnits_8 (by decide) (by omega) (by decide) (fun c_1 => ?_) (fun c_1 => ?_)
      ·
        refine S_aload_n X dX2_moreUnits_133 rfl hL4_0 ?_
        refine S_calli X (kX5_fail_2 l h0 ht hb f ft T n a1 w (x + ((acc).length : Int)) hf0 hf1 hf2) (is := [0, 1, 2]) rfl (run_U X lkX2_36_2 0 rfl rfl (is := [0, 1, 2]) (avs := []) (rest := []) rfl rfl (nle rfl) ⟨by simp only [rmD]; omega, by simp only [rmD]; omega⟩ ⟨nle rfl, nle rfl⟩ dX2_moreUnits_134 (by decide) rfl) (fun z_4 u_2 hp_3 => ?_)
        obtain ⟨hz_5, hu_6⟩ := hp_3
        subst hz_5
        subst hu_6
        refine ⟨rfl, ?_⟩
        refine S_w (ws' := [(h0, ob 2 (uF (uF (uF f 1 (iv a1)) 2 (iv a1)) 4 (iv (x + ((acc).length : Int))))), (ht, ob 6 ft), (hb, ar 160 T), (hc, ar 160 (wrL C x (acc)))]) rfl ?_
        exact S_zret X (Or.inl rfl) (nle rfl) (nle rfl) dX2_moreUnits_137 (hPo _ _ (Or.inl ⟨_, _, _, _, rfl, rfl, hk (.inl a1) (by rw [show 161 - i.toNat = 0 by omega]; rfl)⟩))
      ·
        refine S_aload_n X dX2_moreUnits_11 rfl hL4_0 ?_
        refine S_calli X (kX5_peek_2 l h0 ht hb f ft T n a1 w (x + ((acc).length : Int)) hf0 hf1 hf2 (by omega) (by omega)) (is := [0, 1, 2]) rfl (run_U X lkX2_40_2 0 rfl rfl (is := [0, 1, 2]) (avs := []) (rest := []) rfl rfl (nle rfl) ⟨by simp only [rmD]; omega, by simp only [rmD]; omega⟩ ⟨nle rfl, nle rfl⟩ dX2_moreUnits_12 (by decide) rfl) (fun z_9 u_7 hp_8 => ?_)
        obtain ⟨hz_10, hu_11⟩ := hp_8
        subst hz_10
        subst hu_11
        refine ⟨rfl, ?_⟩
        refine S_w (ws' := [(h0, ob 2 (uF (uF (uF f 1 (iv (sk T n a1))) 2 (iv w)) 4 (iv (x + ((acc).length : Int))))), (ht, ob 6 ft), (hb, ar 160 T), (hc, ar 160 (wrL C x (acc)))]) rfl ?_
        have hsk1 := sk_in (T := T) (n := n) (a := a1) (by omega)
        have hch1 := ch_in (a := sk T n a1) hT (by omega)
        refine S_istore X dX2_moreUnits_15 (nle rfl) ?_
        refine S_iload X dX2_moreUnits_17 rfl ?_
        refine S_bipush X dX2_moreUnits_19 rfl ?_
        refine S_icmp_eq (tgt := 50) X dX2_moreUnits_21 (by decide) (by omega) (by decide) (fun c_12 => ?_) (fun c_12 => ?_)
        ·
          refine S_iload X dX2_moreUnits_50 rfl ?_
          refine S_bipush X dX2_moreUnits_52 rfl ?_
          refine S_icmp_ne (tgt := 61) X dX2_moreUnits_54 (by decide) (by omega) (by decide) (fun c_13 => by exfalso; omega) (fun c_13 => ?_)
          refine S_iconst X dX2_moreUnits_57 ?_
          refine S_goto (tgt := 62) X dX2_moreUnits_58 (by decide) ?_
          refine S_istore X dX2_moreUnits_62 (nle rfl) ?_
          refine S_iload X dX2_moreUnits_64 rfl ?_
          refine S_if_eq (tgt := 80) X dX2_moreUnits_66 (by decide) (by decide) (fun h9 => absurd h9 (by decide)) (fun _ => ?_)
          refine S_iload_n X dX2_moreUnits_69 rfl hL4_2 ?_
          refine S_if_eq (tgt := 80) X dX2_moreUnits_70 (by decide) (by omega) (fun c_15 => ?_) (fun c_15 => ?_)
          ·
            have hw_c_15 : wb = false := hbd.elim (fun q9 => q9.2.1) (fun q9 => absurd q9.1 (by omega))
            refine S_iload X dX2_moreUnits_80 rfl ?_
            refine S_if_ne (tgt := 89) X dX2_moreUnits_82 (by decide) (by decide) (fun _ => ?_) (fun h9 => absurd h9 (by decide))
            refine S_iconst X dX2_moreUnits_89 ?_
            refine S_goto (tgt := 94) X dX2_moreUnits_90 (by decide) ?_
            refine S_istore_n X dX2_moreUnits_94 rfl (nle rfl) ?_
            have hlt1 : sk T n a1 < n := ch_lt (T := T) (by omega)
            refine S_aload_n X dX2_moreUnits_95 rfl hL4_0 ?_
            refine S_dup X dX2_moreUnits_96 ?_
            refine S_get (v := iv (sk T n a1)) X fgX2_68_2 0 rfl rfl dX2_moreUnits_97 ?_
            refine S_iconst X dX2_moreUnits_100 ?_
            refine S_iadd X dX2_moreUnits_101 ?_
            refine S_put X fpX2_68_2 0 rfl FT_i dX2_moreUnits_102 ?_
            refine S_w (ws' := [(h0, ob 2 (uF (uF (uF f 1 (iv ((sk T n a1) + 1))) 2 (iv w)) 4 (iv (x + ((acc).length : Int))))), (ht, ob 6 ft), (hb, ar 160 T), (hc, ar 160 (wrL C x (acc)))]) (by simp only [List.set]; rw [uF_mv (j := 4) (k := 1) (by decide), uF_mv (j := 2) (k := 1) (by decide), uF_same (k := 1)]) ?_
            refine S_aload_n X dX2_moreUnits_105 rfl hL4_0 ?_
            refine S_iload_n X dX2_moreUnits_106 rfl hL4_1 ?_
            refine S_calli X (hun h0 ht hb f ft T n ((sk T n a1) + 1) w (x + ((acc).length : Int)) hc (wrL C x (acc)) wi hf0 hf1 hf2 hf3 (by omega) (by omega) (by (try simp only [List.length_append, List.length_singleton, Int.natCast_add, Int.natCast_one]); omega) (by omega) (by omega)) (is := [0, 1, 2, 3]) rfl (run_V X lkX2_65 0 rfl rfl (is := [0, 1, 2, 3]) (avs := [iv wi]) (rest := []) rfl rfl (nle rfl) ⟨by simp only [rmD]; omega, by simp only [rmD]; omega⟩ ⟨nle rfl, nle rfl⟩ dX2_moreUnits_107 (by decide) rfl) (fun z_19 u_17 hp_18 => ?_)
            rcases hp_18 with ⟨a2_20, fl_21, x2_22, C2_23, hz_24, hu_25, hq_26⟩ | ⟨a2_27, ts_28, hz_29, hu_30, hq_31⟩
            ·
              subst hz_24
              subst hu_25
              refine ⟨rfl, ?_⟩
              refine S_w (ws' := [(h0, ob 2 (uF (uF (uF f 1 (iv a2_20)) 2 (iv fl_21)) 4 (iv x2_22))), (ht, ob 6 ft), (hb, ar 160 T), (hc, ar 160 C2_23)]) rfl ?_
              refine S_if_ne (tgt := 115) X dX2_moreUnits_110 (by decide) (by decide) (fun h9 => absurd h9 (by decide)) (fun _ => ?_)
              refine S_iconst X dX2_moreUnits_113 ?_
              exact S_zret X (Or.inl rfl) (nle rfl) (nle rfl) dX2_moreUnits_114 (hPo _ _ (Or.inl ⟨_, _, _, _, rfl, rfl, hk (.inl _) (by rw [fuel161 (by omega) (by omega)]; exact moreL_of (by omega) hq_26)⟩))
            ·
              subst hz_29
              subst hu_30
              refine ⟨rfl, ?_⟩
              refine S_w (ws' := [(h0, ob 2 (uF (uF (uF f 1 (iv a2_27)) 2 (iv w)) 4 (iv ((x + ((acc).length : Int)) + (ts_28.length : Int))))), (ht, ob 6 ft), (hb, ar 160 T), (hc, ar 160 (wrL (wrL C x (acc)) (x + ((acc).length : Int)) ts_28))]) rfl ?_
              refine S_w (ws' := [(h0, ob 2 (uF (uF (uF f 1 (iv a2_27)) 2 (iv w)) 4 (iv (x + ((acc ++ ts_28).length : Int))))), (ht, ob 6 ft), (hb, ar 160 T), (hc, ar 160 (wrL C x (acc ++ ts_28)))]) (by simp only [wrL_app, wrL, List.length_append, List.length_singleton, Int.natCast_add, Int.natCast_one, Int.add_assoc, List.append_assoc]) ?_
              have ho_32 := (pUnit_ok (T := T) hn1 K (sk T n a1 + 1) (by omega) (by omega)).2 _ hq_31
              dsimp only at ho_32
              refine S_if_ne (tgt := 115) X dX2_moreUnits_110 (by decide) (by decide) (fun _ => ?_) (fun h9 => absurd h9 (by decide))
              refine S_iload X dX2_moreUnits_115 rfl ?_
              refine S_if_ne (tgt := 127) X dX2_moreUnits_117 (by decide) (by decide) (fun _ => ?_) (fun h9 => absurd h9 (by decide))
              refine S_iinc X dX2_moreUnits_127 (nle rfl) hL4_3 ?_
              refine S_goto (tgt := 4) X dX2_moreUnits_130 (by decide) ?_
              exact ih4 (i + 1) a2_27 1 true (acc ++ ts_28) _ (by omega) (Or.inr ⟨rfl, rfl, by simp only [List.length_append, List.length_singleton, Int.natCast_add, Int.natCast_one]; omega⟩) (fun z9 h9 => hk z9 (by rw [fuel161 (by omega) (by omega), moreL_o (by omega) hq_31]; simp only [hw_c_15, Bool.false_eq_true, if_true, if_false]; exact h9)) hL4_0 hL4_1 rfl rfl (by omega)
          ·
            have hw_c_15 : wb = true := hbd.elim (fun q9 => absurd q9.1 c_15) (fun q9 => q9.2.1)
            have hw1 : w1 = 1 := by omega
            refine S_aload_n X dX2_moreUnits_73 rfl hL4_0 ?_
            refine S_bipush X dX2_moreUnits_74 rfl ?_
            refine S_calli X (kX2_emit l h0 f (sk T n a1) w (x + ((acc).length : Int)) hc (wrL C x (acc)) (-124) hf3 (by (try simp only [List.length_append, List.length_singleton, Int.natCast_add, Int.natCast_one]); omega)) (is := [0, 3]) rfl (run_V X lkX2_56 0 rfl rfl (is := [0, 3]) (avs := [iv (-124)]) (rest := []) rfl rfl (nle rfl) ⟨by simp only [rmD]; omega, by simp only [rmD]; omega⟩ ⟨nle rfl, nle rfl⟩ dX2_moreUnits_76 (by decide) rfl) (fun z_37 u_35 hp_36 => ?_)
            obtain ⟨hz_38, hu_39⟩ := hp_36
            subst hz_38
            subst hu_39
            refine ⟨rfl, ?_⟩
            refine S_w (ws' := [(h0, ob 2 (uF (uF (uF f 1 (iv (sk T n a1))) 2 (iv w)) 4 (iv ((x + ((acc).length : Int)) + 1)))), (ht, ob 6 ft), (hb, ar 160 T), (hc, ar 160 (uZ (wrL C x (acc)) (x + ((acc).length : Int)) (-124)))]) rfl ?_
            refine S_w (ws' := [(h0, ob 2 (uF (uF (uF f 1 (iv (sk T n a1))) 2 (iv w)) 4 (iv (x + ((acc ++ [-124]).length : Int))))), (ht, ob 6 ft), (hb, ar 160 T), (hc, ar 160 (wrL C x (acc ++ [-124])))]) (by simp only [wrL_app, wrL, List.length_append, List.length_singleton, Int.natCast_add, Int.natCast_one, Int.add_assoc, List.append_assoc]) ?_
            refine S_pop X dX2_moreUnits_79 ?_
            refine S_iload X dX2_moreUnits_80 rfl ?_
            refine S_if_ne (tgt := 89) X dX2_moreUnits_82 (by decide) (by decide) (fun _ => ?_) (fun h9 => absurd h9 (by decide))
            refine S_iconst X dX2_moreUnits_89 ?_
            refine S_goto (tgt := 94) X dX2_moreUnits_90 (by decide) ?_
            refine S_istore_n X dX2_moreUnits_94 rfl (nle rfl) ?_
            have hlt1 : sk T n a1 < n := ch_lt (T := T) (by omega)
            refine S_aload_n X dX2_moreUnits_95 rfl hL4_0 ?_
            refine S_dup X dX2_moreUnits_96 ?_
            refine S_get (v := iv (sk T n a1)) X fgX2_68_2 0 rfl rfl dX2_moreUnits_97 ?_
            refine S_iconst X dX2_moreUnits_100 ?_
            refine S_iadd X dX2_moreUnits_101 ?_
            refine S_put X fpX2_68_2 0 rfl FT_i dX2_moreUnits_102 ?_
            refine S_w (ws' := [(h0, ob 2 (uF (uF (uF f 1 (iv ((sk T n a1) + 1))) 2 (iv w)) 4 (iv (x + ((acc ++ [-124]).length : Int))))), (ht, ob 6 ft), (hb, ar 160 T), (hc, ar 160 (wrL C x (acc ++ [-124])))]) (by simp only [List.set]; rw [uF_mv (j := 4) (k := 1) (by decide), uF_mv (j := 2) (k := 1) (by decide), uF_same (k := 1)]) ?_
            refine S_aload_n X dX2_moreUnits_105 rfl hL4_0 ?_
            refine S_iload_n X dX2_moreUnits_106 rfl hL4_1 ?_
            refine S_calli X (hun h0 ht hb f ft T n ((sk T n a1) + 1) w (x + ((acc ++ [-124]).length : Int)) hc (wrL C x (acc ++ [-124])) wi hf0 hf1 hf2 hf3 (by omega) (by omega) (by (try simp only [List.length_append, List.length_singleton, Int.natCast_add, Int.natCast_one]); omega) (by omega) (by omega)) (is := [0, 1, 2, 3]) rfl (run_V X lkX2_65 0 rfl rfl (is := [0, 1, 2, 3]) (avs := [iv wi]) (rest := []) rfl rfl (nle rfl) ⟨by simp only [rmD]; omega, by simp only [rmD]; omega⟩ ⟨nle rfl, nle rfl⟩ dX2_moreUnits_107 (by decide) rfl) (fun z_43 u_41 hp_42 => ?_)
            rcases hp_42 with ⟨a2_44, fl_45, x2_46, C2_47, hz_48, hu_49, hq_50⟩ | ⟨a2_51, ts_52, hz_53, hu_54, hq_55⟩
            ·
              subst hz_48
              subst hu_49
              refine ⟨rfl, ?_⟩
              refine S_w (ws' := [(h0, ob 2 (uF (uF (uF f 1 (iv a2_44)) 2 (iv fl_45)) 4 (iv x2_46))), (ht, ob 6 ft), (hb, ar 160 T), (hc, ar 160 C2_47)]) rfl ?_
              refine S_if_ne (tgt := 115) X dX2_moreUnits_110 (by decide) (by decide) (fun h9 => absurd h9 (by decide)) (fun _ => ?_)
              refine S_iconst X dX2_moreUnits_113 ?_
              exact S_zret X (Or.inl rfl) (nle rfl) (nle rfl) dX2_moreUnits_114 (hPo _ _ (Or.inl ⟨_, _, _, _, rfl, rfl, hk (.inl _) (by rw [fuel161 (by omega) (by omega)]; exact moreL_of (by omega) hq_50)⟩))
            ·
              subst hz_53
              subst hu_54
              refine ⟨rfl, ?_⟩
              refine S_w (ws' := [(h0, ob 2 (uF (uF (uF f 1 (iv a2_51)) 2 (iv w)) 4 (iv ((x + ((acc ++ [-124]).length : Int)) + (ts_52.length : Int))))), (ht, ob 6 ft), (hb, ar 160 T), (hc, ar 160 (wrL (wrL C x (acc ++ [-124])) (x + ((acc ++ [-124]).length : Int)) ts_52))]) rfl ?_
              refine S_w (ws' := [(h0, ob 2 (uF (uF (uF f 1 (iv a2_51)) 2 (iv w)) 4 (iv (x + ((acc ++ [-124] ++ ts_52).length : Int))))), (ht, ob 6 ft), (hb, ar 160 T), (hc, ar 160 (wrL C x (acc ++ [-124] ++ ts_52)))]) (by simp only [wrL_app, wrL, List.length_append, List.length_singleton, Int.natCast_add, Int.natCast_one, Int.add_assoc, List.append_assoc]) ?_
              have ho_56 := (pUnit_ok (T := T) hn1 K (sk T n a1 + 1) (by omega) (by omega)).2 _ hq_55
              dsimp only at ho_56
              refine S_if_ne (tgt := 115) X dX2_moreUnits_110 (by decide) (by decide) (fun _ => ?_) (fun h9 => absurd h9 (by decide))
              refine S_iload X dX2_moreUnits_115 rfl ?_
              refine S_if_ne (tgt := 127) X dX2_moreUnits_117 (by decide) (by decide) (fun _ => ?_) (fun h9 => absurd h9 (by decide))
              refine S_iinc X dX2_moreUnits_127 (nle rfl) hL4_3 ?_
              refine S_goto (tgt := 4) X dX2_moreUnits_130 (by decide) ?_
              exact ih4 (i + 1) a2_51 1 true (acc ++ [-124] ++ ts_52) _ (by omega) (Or.inr ⟨rfl, rfl, by simp only [List.length_append, List.length_singleton, Int.natCast_add, Int.natCast_one]; omega⟩) (fun z9 h9 => hk z9 (by rw [fuel161 (by omega) (by omega), moreL_o (by omega) hq_55]; simp only [hw_c_15, Bool.false_eq_true, if_true, if_false]; exact h9)) hL4_0 hL4_1 rfl rfl (by omega)
        ·
          refine S_iload X dX2_moreUnits_24 rfl ?_
          refine S_bipush X dX2_moreUnits_26 rfl ?_
          refine S_icmp_eq (tgt := 50) X dX2_moreUnits_28 (by decide) (by omega) (by decide) (fun c_59 => ?_) (fun c_59 => ?_)
          ·
            refine S_iload X dX2_moreUnits_50 rfl ?_
            refine S_bipush X dX2_moreUnits_52 rfl ?_
            refine S_icmp_ne (tgt := 61) X dX2_moreUnits_54 (by decide) (by omega) (by decide) (fun c_60 => ?_) (fun c_60 => by exfalso; omega)
            refine S_iconst X dX2_moreUnits_61 ?_
            refine S_istore X dX2_moreUnits_62 (nle rfl) ?_
            refine S_iload X dX2_moreUnits_64 rfl ?_
            refine S_if_eq (tgt := 80) X dX2_moreUnits_66 (by decide) (by decide) (fun _ => ?_) (fun h9 => absurd h9 (by decide))
            refine S_iload X dX2_moreUnits_80 rfl ?_
            refine S_if_ne (tgt := 89) X dX2_moreUnits_82 (by decide) (by decide) (fun h9 => absurd h9 (by decide)) (fun _ => ?_)
            refine S_iload_n X dX2_moreUnits_85 rfl hL4_2 ?_
            refine S_if_eq (tgt := 93) X dX2_moreUnits_86 (by decide) (by omega) (fun c_63 => ?_) (fun c_63 => ?_)
            ·
              have hw_c_63 : wb = false := hbd.elim (fun q9 => q9.2.1) (fun q9 => absurd q9.1 (by omega))
              refine S_iconst X dX2_moreUnits_93 ?_
              refine S_istore_n X dX2_moreUnits_94 rfl (nle rfl) ?_
              have hlt1 : sk T n a1 < n := ch_lt (T := T) (by omega)
              refine S_aload_n X dX2_moreUnits_95 rfl hL4_0 ?_
              refine S_dup X dX2_moreUnits_96 ?_
              refine S_get (v := iv (sk T n a1)) X fgX2_68_2 0 rfl rfl dX2_moreUnits_97 ?_
              refine S_iconst X dX2_moreUnits_100 ?_
              refine S_iadd X dX2_moreUnits_101 ?_
              refine S_put X fpX2_68_2 0 rfl FT_i dX2_moreUnits_102 ?_
              refine S_w (ws' := [(h0, ob 2 (uF (uF (uF f 1 (iv ((sk T n a1) + 1))) 2 (iv w)) 4 (iv (x + ((acc).length : Int))))), (ht, ob 6 ft), (hb, ar 160 T), (hc, ar 160 (wrL C x (acc)))]) (by simp only [List.set]; rw [uF_mv (j := 4) (k := 1) (by decide), uF_mv (j := 2) (k := 1) (by decide), uF_same (k := 1)]) ?_
              refine S_aload_n X dX2_moreUnits_105 rfl hL4_0 ?_
              refine S_iload_n X dX2_moreUnits_106 rfl hL4_1 ?_
              refine S_calli X (hun h0 ht hb f ft T n ((sk T n a1) + 1) w (x + ((acc).length : Int)) hc (wrL C x (acc)) wi hf0 hf1 hf2 hf3 (by omega) (by omega) (by (try simp only [List.length_append, List.length_singleton, Int.natCast_add, Int.natCast_one]); omega) (by omega) (by omega)) (is := [0, 1, 2, 3]) rfl (run_V X lkX2_65 0 rfl rfl (is := [0, 1, 2, 3]) (avs := [iv wi]) (rest := []) rfl rfl (nle rfl) ⟨by simp only [rmD]; omega, by simp only [rmD]; omega⟩ ⟨nle rfl, nle rfl⟩ dX2_moreUnits_107 (by decide) rfl) (fun z_66 u_64 hp_65 => ?_)
              rcases hp_65 with ⟨a2_67, fl_68, x2_69, C2_70, hz_71, hu_72, hq_73⟩ | ⟨a2_74, ts_75, hz_76, hu_77, hq_78⟩
              ·
                subst hz_71
                subst hu_72
                refine ⟨rfl, ?_⟩
                refine S_w (ws' := [(h0, ob 2 (uF (uF (uF f 1 (iv a2_67)) 2 (iv fl_68)) 4 (iv x2_69))), (ht, ob 6 ft), (hb, ar 160 T), (hc, ar 160 C2_70)]) rfl ?_
                refine S_if_ne (tgt := 115) X dX2_moreUnits_110 (by decide) (by decide) (fun h9 => absurd h9 (by decide)) (fun _ => ?_)
                refine S_iconst X dX2_moreUnits_113 ?_
                exact S_zret X (Or.inl rfl) (nle rfl) (nle rfl) dX2_moreUnits_114 (hPo _ _ (Or.inl ⟨_, _, _, _, rfl, rfl, hk (.inl _) (by rw [fuel161 (by omega) (by omega)]; exact moreL_af (by omega) hq_73)⟩))
              ·
                subst hz_76
                subst hu_77
                refine ⟨rfl, ?_⟩
                refine S_w (ws' := [(h0, ob 2 (uF (uF (uF f 1 (iv a2_74)) 2 (iv w)) 4 (iv ((x + ((acc).length : Int)) + (ts_75.length : Int))))), (ht, ob 6 ft), (hb, ar 160 T), (hc, ar 160 (wrL (wrL C x (acc)) (x + ((acc).length : Int)) ts_75))]) rfl ?_
                refine S_w (ws' := [(h0, ob 2 (uF (uF (uF f 1 (iv a2_74)) 2 (iv w)) 4 (iv (x + ((acc ++ ts_75).length : Int))))), (ht, ob 6 ft), (hb, ar 160 T), (hc, ar 160 (wrL C x (acc ++ ts_75)))]) (by simp only [wrL_app, wrL, List.length_append, List.length_singleton, Int.natCast_add, Int.natCast_one, Int.add_assoc, List.append_assoc]) ?_
                have ho_79 := (pUnit_ok (T := T) hn1 K (sk T n a1 + 1) (by omega) (by omega)).2 _ hq_78
                dsimp only at ho_79
                refine S_if_ne (tgt := 115) X dX2_moreUnits_110 (by decide) (by decide) (fun _ => ?_) (fun h9 => absurd h9 (by decide))
                refine S_iload X dX2_moreUnits_115 rfl ?_
                refine S_if_ne (tgt := 127) X dX2_moreUnits_117 (by decide) (by decide) (fun h9 => absurd h9 (by decide)) (fun _ => ?_)
                refine S_aload_n X dX2_moreUnits_120 rfl hL4_0 ?_
                refine S_bipush X dX2_moreUnits_121 rfl ?_
                refine S_calli X (kX2_emit l h0 f a2_74 w (x + ((acc ++ ts_75).length : Int)) hc (wrL C x (acc ++ ts_75)) (-38) hf3 (by (try simp only [List.length_append, List.length_singleton, Int.natCast_add, Int.natCast_one]); omega)) (is := [0, 3]) rfl (run_V X lkX2_56 0 rfl rfl (is := [0, 3]) (avs := [iv (-38)]) (rest := []) rfl rfl (nle rfl) ⟨by simp only [rmD]; omega, by simp only [rmD]; omega⟩ ⟨nle rfl, nle rfl⟩ dX2_moreUnits_123 (by decide) rfl) (fun z_84 u_82 hp_83 => ?_)
                obtain ⟨hz_85, hu_86⟩ := hp_83
                subst hz_85
                subst hu_86
                refine ⟨rfl, ?_⟩
                refine S_w (ws' := [(h0, ob 2 (uF (uF (uF f 1 (iv a2_74)) 2 (iv w)) 4 (iv ((x + ((acc ++ ts_75).length : Int)) + 1)))), (ht, ob 6 ft), (hb, ar 160 T), (hc, ar 160 (uZ (wrL C x (acc ++ ts_75)) (x + ((acc ++ ts_75).length : Int)) (-38)))]) rfl ?_
                refine S_w (ws' := [(h0, ob 2 (uF (uF (uF f 1 (iv a2_74)) 2 (iv w)) 4 (iv (x + ((acc ++ ts_75 ++ [-38]).length : Int))))), (ht, ob 6 ft), (hb, ar 160 T), (hc, ar 160 (wrL C x (acc ++ ts_75 ++ [-38])))]) (by simp only [wrL_app, wrL, List.length_append, List.length_singleton, Int.natCast_add, Int.natCast_one, Int.add_assoc, List.append_assoc]) ?_
                refine S_pop X dX2_moreUnits_126 ?_
                refine S_iinc X dX2_moreUnits_127 (nle rfl) hL4_3 ?_
                refine S_goto (tgt := 4) X dX2_moreUnits_130 (by decide) ?_
                exact ih4 (i + 1) a2_74 0 false (acc ++ ts_75 ++ [-38]) _ (by omega) (Or.inl ⟨rfl, rfl, by simp only [List.length_append, List.length_singleton, Int.natCast_add, Int.natCast_one]; omega⟩) (fun z9 h9 => hk z9 (by rw [fuel161 (by omega) (by omega), moreL_a (by omega) hq_78]; rw [hw_c_63]; exact h9)) hL4_0 hL4_1 rfl rfl (by omega)
            ·
              have hw_c_63 : wb = true := hbd.elim (fun q9 => absurd q9.1 c_63) (fun q9 => q9.2.1)
              have hw1 : w1 = 1 := by omega
              refine S_iconst X dX2_moreUnits_89 ?_
              refine S_goto (tgt := 94) X dX2_moreUnits_90 (by decide) ?_
              refine S_istore_n X dX2_moreUnits_94 rfl (nle rfl) ?_
              have hlt1 : sk T n a1 < n := ch_lt (T := T) (by omega)
              refine S_aload_n X dX2_moreUnits_95 rfl hL4_0 ?_
              refine S_dup X dX2_moreUnits_96 ?_
              refine S_get (v := iv (sk T n a1)) X fgX2_68_2 0 rfl rfl dX2_moreUnits_97 ?_
              refine S_iconst X dX2_moreUnits_100 ?_
              refine S_iadd X dX2_moreUnits_101 ?_
              refine S_put X fpX2_68_2 0 rfl FT_i dX2_moreUnits_102 ?_
              refine S_w (ws' := [(h0, ob 2 (uF (uF (uF f 1 (iv ((sk T n a1) + 1))) 2 (iv w)) 4 (iv (x + ((acc).length : Int))))), (ht, ob 6 ft), (hb, ar 160 T), (hc, ar 160 (wrL C x (acc)))]) (by simp only [List.set]; rw [uF_mv (j := 4) (k := 1) (by decide), uF_mv (j := 2) (k := 1) (by decide), uF_same (k := 1)]) ?_
              refine S_aload_n X dX2_moreUnits_105 rfl hL4_0 ?_
              refine S_iload_n X dX2_moreUnits_106 rfl hL4_1 ?_
              refine S_calli X (hun h0 ht hb f ft T n ((sk T n a1) + 1) w (x + ((acc).length : Int)) hc (wrL C x (acc)) wi hf0 hf1 hf2 hf3 (by omega) (by omega) (by (try simp only [List.length_append, List.length_singleton, Int.natCast_add, Int.natCast_one]); omega) (by omega) (by omega)) (is := [0, 1, 2, 3]) rfl (run_V X lkX2_65 0 rfl rfl (is := [0, 1, 2, 3]) (avs := [iv wi]) (rest := []) rfl rfl (nle rfl) ⟨by simp only [rmD]; omega, by simp only [rmD]; omega⟩ ⟨nle rfl, nle rfl⟩ dX2_moreUnits_107 (by decide) rfl) (fun z_89 u_87 hp_88 => ?_)
              rcases hp_88 with ⟨a2_90, fl_91, x2_92, C2_93, hz_94, hu_95, hq_96⟩ | ⟨a2_97, ts_98, hz_99, hu_100, hq_101⟩
              ·
                subst hz_94
                subst hu_95
                refine ⟨rfl, ?_⟩
                refine S_w (ws' := [(h0, ob 2 (uF (uF (uF f 1 (iv a2_90)) 2 (iv fl_91)) 4 (iv x2_92))), (ht, ob 6 ft), (hb, ar 160 T), (hc, ar 160 C2_93)]) rfl ?_
                refine S_if_ne (tgt := 115) X dX2_moreUnits_110 (by decide) (by decide) (fun h9 => absurd h9 (by decide)) (fun _ => ?_)
                refine S_iconst X dX2_moreUnits_113 ?_
                exact S_zret X (Or.inl rfl) (nle rfl) (nle rfl) dX2_moreUnits_114 (hPo _ _ (Or.inl ⟨_, _, _, _, rfl, rfl, hk (.inl _) (by rw [fuel161 (by omega) (by omega)]; exact moreL_af (by omega) hq_96)⟩))
              ·
                subst hz_99
                subst hu_100
                refine ⟨rfl, ?_⟩
                refine S_w (ws' := [(h0, ob 2 (uF (uF (uF f 1 (iv a2_97)) 2 (iv w)) 4 (iv ((x + ((acc).length : Int)) + (ts_98.length : Int))))), (ht, ob 6 ft), (hb, ar 160 T), (hc, ar 160 (wrL (wrL C x (acc)) (x + ((acc).length : Int)) ts_98))]) rfl ?_
                refine S_w (ws' := [(h0, ob 2 (uF (uF (uF f 1 (iv a2_97)) 2 (iv w)) 4 (iv (x + ((acc ++ ts_98).length : Int))))), (ht, ob 6 ft), (hb, ar 160 T), (hc, ar 160 (wrL C x (acc ++ ts_98)))]) (by simp only [wrL_app, wrL, List.length_append, List.length_singleton, Int.natCast_add, Int.natCast_one, Int.add_assoc, List.append_assoc]) ?_
                have ho_102 := (pUnit_ok (T := T) hn1 K (sk T n a1 + 1) (by omega) (by omega)).2 _ hq_101
                dsimp only at ho_102
                refine S_if_ne (tgt := 115) X dX2_moreUnits_110 (by decide) (by decide) (fun _ => ?_) (fun h9 => absurd h9 (by decide))
                refine S_iload X dX2_moreUnits_115 rfl ?_
                refine S_if_ne (tgt := 127) X dX2_moreUnits_117 (by decide) (by decide) (fun h9 => absurd h9 (by decide)) (fun _ => ?_)
                refine S_aload_n X dX2_moreUnits_120 rfl hL4_0 ?_
                refine S_bipush X dX2_moreUnits_121 rfl ?_
                refine S_calli X (kX2_emit l h0 f a2_97 w (x + ((acc ++ ts_98).length : Int)) hc (wrL C x (acc ++ ts_98)) (-38) hf3 (by (try simp only [List.length_append, List.length_singleton, Int.natCast_add, Int.natCast_one]); omega)) (is := [0, 3]) rfl (run_V X lkX2_56 0 rfl rfl (is := [0, 3]) (avs := [iv (-38)]) (rest := []) rfl rfl (nle rfl) ⟨by simp only [rmD]; omega, by simp only [rmD]; omega⟩ ⟨nle rfl, nle rfl⟩ dX2_moreUnits_123 (by decide) rfl) (fun z_107 u_105 hp_106 => ?_)
                obtain ⟨hz_108, hu_109⟩ := hp_106
                subst hz_108
                subst hu_109
                refine ⟨rfl, ?_⟩
                refine S_w (ws' := [(h0, ob 2 (uF (uF (uF f 1 (iv a2_97)) 2 (iv w)) 4 (iv ((x + ((acc ++ ts_98).length : Int)) + 1)))), (ht, ob 6 ft), (hb, ar 160 T), (hc, ar 160 (uZ (wrL C x (acc ++ ts_98)) (x + ((acc ++ ts_98).length : Int)) (-38)))]) rfl ?_
                refine S_w (ws' := [(h0, ob 2 (uF (uF (uF f 1 (iv a2_97)) 2 (iv w)) 4 (iv (x + ((acc ++ ts_98 ++ [-38]).length : Int))))), (ht, ob 6 ft), (hb, ar 160 T), (hc, ar 160 (wrL C x (acc ++ ts_98 ++ [-38])))]) (by simp only [wrL_app, wrL, List.length_append, List.length_singleton, Int.natCast_add, Int.natCast_one, Int.add_assoc, List.append_assoc]) ?_
                refine S_pop X dX2_moreUnits_126 ?_
                refine S_iinc X dX2_moreUnits_127 (nle rfl) hL4_3 ?_
                refine S_goto (tgt := 4) X dX2_moreUnits_130 (by decide) ?_
                exact ih4 (i + 1) a2_97 1 true (acc ++ ts_98 ++ [-38]) _ (by omega) (Or.inr ⟨rfl, rfl, by simp only [List.length_append, List.length_singleton, Int.natCast_add, Int.natCast_one]; omega⟩) (fun z9 h9 => hk z9 (by rw [fuel161 (by omega) (by omega), moreL_a (by omega) hq_101]; rw [hw_c_63]; exact h9)) hL4_0 hL4_1 rfl rfl (by omega)
          ·
            refine S_iload_n X dX2_moreUnits_31 rfl hL4_2 ?_
            refine S_if_eq (tgt := 44) X dX2_moreUnits_32 (by decide) (by omega) (fun c_110 => ?_) (fun c_110 => ?_)
            ·
              have hw_c_110 : wb = false := hbd.elim (fun q9 => q9.2.1) (fun q9 => absurd q9.1 (by omega))
              refine S_iconst X dX2_moreUnits_44 ?_
              refine S_goto (tgt := 49) X dX2_moreUnits_45 (by decide) ?_
              exact S_zret X (Or.inr rfl) (nle rfl) (nle rfl) dX2_moreUnits_49 (hPo _ _ (Or.inr ⟨_, acc, rfl, rfl, hk (.inr (sk T n a1, acc)) (by rw [fuel161 (by omega) (by omega), moreL_e (by omega) (by omega)]; simp [hw_c_110])⟩))
            ·
              have hw_c_110 : wb = true := hbd.elim (fun q9 => absurd q9.1 c_110) (fun q9 => q9.2.1)
              have hw1 : w1 = 1 := by omega
              refine S_aload_n X dX2_moreUnits_35 rfl hL4_0 ?_
              refine S_bipush X dX2_moreUnits_36 rfl ?_
              refine S_calli X (kX2_emit l h0 f (sk T n a1) w (x + ((acc).length : Int)) hc (wrL C x (acc)) (-124) hf3 (by (try simp only [List.length_append, List.length_singleton, Int.natCast_add, Int.natCast_one]); omega)) (is := [0, 3]) rfl (run_V X lkX2_56 0 rfl rfl (is := [0, 3]) (avs := [iv (-124)]) (rest := []) rfl rfl (nle rfl) ⟨by simp only [rmD]; omega, by simp only [rmD]; omega⟩ ⟨nle rfl, nle rfl⟩ dX2_moreUnits_38 (by decide) rfl) (fun z_113 u_111 hp_112 => ?_)
              obtain ⟨hz_114, hu_115⟩ := hp_112
              subst hz_114
              subst hu_115
              refine ⟨rfl, ?_⟩
              refine S_w (ws' := [(h0, ob 2 (uF (uF (uF f 1 (iv (sk T n a1))) 2 (iv w)) 4 (iv ((x + ((acc).length : Int)) + 1)))), (ht, ob 6 ft), (hb, ar 160 T), (hc, ar 160 (uZ (wrL C x (acc)) (x + ((acc).length : Int)) (-124)))]) rfl ?_
              refine S_w (ws' := [(h0, ob 2 (uF (uF (uF f 1 (iv (sk T n a1))) 2 (iv w)) 4 (iv (x + ((acc ++ [-124]).length : Int))))), (ht, ob 6 ft), (hb, ar 160 T), (hc, ar 160 (wrL C x (acc ++ [-124])))]) (by simp only [wrL_app, wrL, List.length_append, List.length_singleton, Int.natCast_add, Int.natCast_one, Int.add_assoc, List.append_assoc]) ?_
              refine S_if_eq (tgt := 48) X dX2_moreUnits_41 (by decide) (by decide) (fun h9 => absurd h9 (by decide)) (fun _ => ?_)
              refine S_iconst X dX2_moreUnits_44 ?_
              refine S_goto (tgt := 49) X dX2_moreUnits_45 (by decide) ?_
              exact S_zret X (Or.inr rfl) (nle rfl) (nle rfl) dX2_moreUnits_49 (hPo _ _ (Or.inr ⟨_, acc ++ [-124], rfl, rfl, hk (.inr (sk T n a1, acc ++ [-124])) (by rw [fuel161 (by omega) (by omega), moreL_e (by omega) (by omega)]; simp [hw_c_110])⟩))
  exact lp4_0 (Int.toNat (162 - 0) + 1) 0 a 0 false tl _ (by omega) (Or.inl ⟨rfl, rfl, by omega⟩) (fun z9 h9 => h9) rfl rfl rfl rfl (by omega)
set_option maxHeartbeats 4000000 in
set_option maxRecDepth 100000 in
theorem kX2_condition (l : Launch) (K : Nat) (d : Nat) (hd : 5 ≤ d) (d1 : Nat) (hd1 : d1 ≤ d) (hun : C_X2_unit l K d1) (d2 : Nat) (hd2 : d2 ≤ d) (hmo : C_X2_moreUnits l K d2) : C_X2_condition l K (d + 1) := by
  intro h0 ht hb f ft T n a w x hc C wi hf0 hf1 hf2 hf3 hT ha hx hw h6
  refine AMi.of2 rfl (nle rfl) ?_
  intro D G A p e s m args below meth c Po hPo X
  obtain ⟨hn0, hn1, hT2⟩ := id hT
  have hsk := sk_in (T := T) ha.2
  have hch := ch_in (a := sk T n a) hT (by omega)
  refine S_aload_n X dX2_condition_0 rfl rfl ?_
  refine S_iload_n X dX2_condition_1 rfl rfl ?_
  refine S_calli X (hun h0 ht hb f ft T n a w x hc C wi hf0 hf1 hf2 hf3 (by omega) (by omega) (by (try simp only [List.length_append, List.length_singleton, Int.natCast_add, Int.natCast_one]); omega) (by omega) (by omega)) (is := [0, 1, 2, 3]) rfl (run_V X lkX2_65 0 rfl rfl (is := [0, 1, 2, 3]) (avs := [iv wi]) (rest := []) rfl rfl (nle rfl) ⟨by simp only [rmD]; omega, by simp only [rmD]; omega⟩ ⟨nle rfl, nle rfl⟩ dX2_condition_2 (by decide) rfl) (fun z_3 u_1 hp_2 => ?_)
  rcases hp_2 with ⟨a2_4, fl_5, x2_6, C2_7, hz_8, hu_9, hq_10⟩ | ⟨a2_11, ts_12, hz_13, hu_14, hq_15⟩
  ·
    subst hz_8
    subst hu_9
    refine ⟨rfl, ?_⟩
    refine S_w (ws' := [(h0, ob 2 (uF (uF (uF f 1 (iv a2_4)) 2 (iv fl_5)) 4 (iv x2_6))), (ht, ob 6 ft), (hb, ar 160 T), (hc, ar 160 C2_7)]) rfl ?_
    refine S_if_eq (tgt := 20) X dX2_condition_5 (by decide) (by decide) (fun _ => ?_) (fun h9 => absurd h9 (by decide))
    refine S_iconst X dX2_condition_20 ?_
    exact S_zret X (Or.inl rfl) (nle rfl) (nle rfl) dX2_condition_21 (hPo _ _ (Or.inl ⟨_, _, _, _, rfl, rfl, pCond_f hq_10⟩))
  ·
    subst hz_13
    subst hu_14
    refine ⟨rfl, ?_⟩
    refine S_w (ws' := [(h0, ob 2 (uF (uF (uF f 1 (iv a2_11)) 2 (iv w)) 4 (iv (x + (ts_12.length : Int))))), (ht, ob 6 ft), (hb, ar 160 T), (hc, ar 160 (wrL C x ts_12))]) rfl ?_
    refine S_w (ws' := [(h0, ob 2 (uF (uF (uF f 1 (iv a2_11)) 2 (iv w)) 4 (iv (x + ((ts_12).length : Int))))), (ht, ob 6 ft), (hb, ar 160 T), (hc, ar 160 (wrL C x (ts_12)))]) (by simp only [wrL_app, wrL, List.length_append, List.length_singleton, Int.natCast_add, Int.natCast_one, Int.add_assoc, List.append_assoc]) ?_
    have ho_16 := (pUnit_ok (T := T) hn1 K (a) (by omega) (by omega)).2 _ hq_15
    dsimp only at ho_16
    refine S_if_eq (tgt := 20) X dX2_condition_5 (by decide) (by decide) (fun h9 => absurd h9 (by decide)) (fun _ => ?_)
    refine S_aload_n X dX2_condition_8 rfl rfl ?_
    refine S_iload_n X dX2_condition_9 rfl rfl ?_
    refine S_calli X (hmo h0 ht hb f ft T n a2_11 w x hc C wi ts_12 hf0 hf1 hf2 hf3 (by omega) (by omega) (by (try simp only [List.length_append, List.length_singleton, Int.natCast_add, Int.natCast_one]); omega) (by omega) (by omega)) (is := [0, 1, 2, 3]) rfl (run_V X lkX2_62 0 rfl rfl (is := [0, 1, 2, 3]) (avs := [iv wi]) (rest := []) rfl rfl (nle rfl) ⟨by simp only [rmD]; omega, by simp only [rmD]; omega⟩ ⟨nle rfl, nle rfl⟩ dX2_condition_10 (by decide) rfl) (fun z_20 u_18 hp_19 => ?_)
    rcases hp_19 with ⟨a2_21, fl_22, x2_23, C2_24, hz_25, hu_26, hq_27⟩ | ⟨a2_28, ts_29, hz_30, hu_31, hq_32⟩
    ·
      subst hz_25
      subst hu_26
      refine ⟨rfl, ?_⟩
      refine S_w (ws' := [(h0, ob 2 (uF (uF (uF f 1 (iv a2_21)) 2 (iv fl_22)) 4 (iv x2_23))), (ht, ob 6 ft), (hb, ar 160 T), (hc, ar 160 C2_24)]) rfl ?_
      refine S_if_eq (tgt := 20) X dX2_condition_13 (by decide) (by decide) (fun _ => ?_) (fun h9 => absurd h9 (by decide))
      refine S_iconst X dX2_condition_20 ?_
      exact S_zret X (Or.inl rfl) (nle rfl) (nle rfl) dX2_condition_21 (hPo _ _ (Or.inl ⟨_, _, _, _, rfl, rfl, (pCond_r hq_15).trans hq_27⟩))
    ·
      subst hz_30
      subst hu_31
      refine ⟨rfl, ?_⟩
      refine S_w (ws' := [(h0, ob 2 (uF (uF (uF f 1 (iv a2_28)) 2 (iv w)) 4 (iv (x + ((ts_29).length : Int))))), (ht, ob 6 ft), (hb, ar 160 T), (hc, ar 160 (wrL C x (ts_29)))]) rfl ?_
      refine S_if_eq (tgt := 20) X dX2_condition_13 (by decide) (by decide) (fun h9 => absurd h9 (by decide)) (fun _ => ?_)
      refine S_iconst X dX2_condition_16 ?_
      refine S_goto (tgt := 21) X dX2_condition_17 (by decide) ?_
      exact S_zret X (Or.inr rfl) (nle rfl) (nle rfl) dX2_condition_21 (hPo _ _ (Or.inr ⟨_, ts_29, rfl, rfl, (pCond_r hq_15).trans hq_32⟩))
set_option maxHeartbeats 4000000 in
set_option maxRecDepth 100000 in
theorem kX2_unit (l : Launch) (K : Nat) (d : Nat) (hd : 5 ≤ d) (d1 : Nat) (hd1 : d1 ≤ d) (hsu : C_X2_sum l K d1) (d2 : Nat) (hd2 : d2 ≤ d) (hcm : C_X2_comparison l K d2) (d3 : Nat) (hd3 : d3 ≤ d) (hne : ∀ K2 : Nat, K = K2 + 1 → C_X2_negated l K2 d3) (d4 : Nat) (hd4 : d4 ≤ d) (hco : ∀ K2 : Nat, K = K2 + 1 → C_X2_condition l K2 d4) : C_X2_unit l K (d + 1) := by
  intro h0 ht hb f ft T n a w x hc C wi hf0 hf1 hf2 hf3 hT ha hx hw h6
  refine AMi.of2 rfl (nle rfl) ?_
  intro D G A p e s m args below meth c Po hPo X
  obtain ⟨hn0, hn1, hT2⟩ := id hT
  have hsk := sk_in (T := T) ha.2
  have hch := ch_in (a := sk T n a) hT (by omega)
  refine S_aload_n X dX2_unit_0 rfl rfl ?_
  refine S_calli X (kX5_peek_2 l h0 ht hb f ft T n a w x hf0 hf1 hf2 (by omega) (by omega)) (is := [0, 1, 2]) rfl (run_U X lkX2_40_2 0 rfl rfl (is := [0, 1, 2]) (avs := []) (rest := []) rfl rfl (nle rfl) ⟨by simp only [rmD]; omega, by simp only [rmD]; omega⟩ ⟨nle rfl, nle rfl⟩ dX2_unit_1 (by decide) rfl) (fun z_3 u_1 hp_2 => ?_)
  obtain ⟨hz_4, hu_5⟩ := hp_2
  subst hz_4
  subst hu_5
  refine ⟨rfl, ?_⟩
  refine S_w (ws' := [(h0, ob 2 (uF (uF (uF f 1 (iv (sk T n a))) 2 (iv w)) 4 (iv x))), (ht, ob 6 ft), (hb, ar 160 T), (hc, ar 160 C)]) rfl ?_
  refine S_istore_n X dX2_unit_4 rfl (nle rfl) ?_
  refine S_iload_n X dX2_unit_5 rfl rfl ?_
  refine S_bipush X dX2_unit_6 rfl ?_
  refine S_icmp_eq (tgt := 39) X dX2_unit_8 (by decide) (by omega) (by decide) (fun c_6 => ?_) (fun c_6 => ?_)
  ·
    refine S_iload_n X dX2_unit_39 rfl rfl ?_
    refine S_bipush X dX2_unit_40 rfl ?_
    refine S_icmp_lt (tgt := 50) X dX2_unit_42 (by decide) (by omega) (by decide) (fun c_7 => ?_) (fun c_7 => ?_)
    ·
      have hlt : sk T n a < n := ch_lt (T := T) (by omega)
      obtain ⟨K2, hK2⟩ : ∃ K2 : Nat, K = K2 + 1 := ⟨K - 1, by omega⟩
      refine S_aload_n X dX2_unit_50 rfl rfl ?_
      refine S_dup X dX2_unit_51 ?_
      refine S_get (v := iv (sk T n a)) X fgX2_68_2 0 rfl rfl dX2_unit_52 ?_
      refine S_iconst X dX2_unit_55 ?_
      refine S_iadd X dX2_unit_56 ?_
      refine S_put X fpX2_68_2 0 rfl FT_i dX2_unit_57 ?_
      refine S_w (ws' := [(h0, ob 2 (uF (uF (uF f 1 (iv ((sk T n a) + 1))) 2 (iv w)) 4 (iv x))), (ht, ob 6 ft), (hb, ar 160 T), (hc, ar 160 C)]) (by simp only [List.set]; rw [uF_mv (j := 4) (k := 1) (by decide), uF_mv (j := 2) (k := 1) (by decide), uF_same (k := 1)]) ?_
      refine S_iload_n X dX2_unit_60 rfl rfl ?_
      refine S_bipush X dX2_unit_61 rfl ?_
      refine S_icmp_ne (tgt := 74) X dX2_unit_63 (by decide) (by omega) (by decide) (fun c_8 => ?_) (fun c_8 => ?_)
      ·
        refine S_aload_n X dX2_unit_74 rfl rfl ?_
        refine S_iload_n X dX2_unit_75 rfl rfl ?_
        refine S_iconst X dX2_unit_76 ?_
        refine S_iadd X dX2_unit_77 ?_
        refine S_calli X ((hco K2 hK2) h0 ht hb f ft T n ((sk T n a) + 1) w x hc C (wi + 1) hf0 hf1 hf2 hf3 (by omega) (by omega) (by (try simp only [List.length_append, List.length_singleton, Int.natCast_add, Int.natCast_one]); omega) (by omega) (by omega)) (is := [0, 1, 2, 3]) rfl (run_V X lkX2_44 0 rfl rfl (is := [0, 1, 2, 3]) (avs := [iv (wi + 1)]) (rest := []) rfl rfl (nle rfl) ⟨by simp only [rmD]; omega, by simp only [rmD]; omega⟩ ⟨nle rfl, nle rfl⟩ dX2_unit_78 (by decide) rfl) (fun z_11 u_9 hp_10 => ?_)
        rcases hp_10 with ⟨a2_12, fl_13, x2_14, C2_15, hz_16, hu_17, hq_18⟩ | ⟨a2_19, ts_20, hz_21, hu_22, hq_23⟩
        ·
          subst hz_16
          subst hu_17
          refine ⟨rfl, ?_⟩
          refine S_w (ws' := [(h0, ob 2 (uF (uF (uF f 1 (iv a2_12)) 2 (iv fl_13)) 4 (iv x2_14))), (ht, ob 6 ft), (hb, ar 160 T), (hc, ar 160 C2_15)]) rfl ?_
          refine S_if_eq (tgt := 104) X dX2_unit_81 (by decide) (by decide) (fun _ => ?_) (fun h9 => absurd h9 (by decide))
          refine S_iconst X dX2_unit_104 ?_
          exact S_zret X (Or.inl rfl) (nle rfl) (nle rfl) dX2_unit_105 (hPo _ _ (Or.inl ⟨_, _, _, _, rfl, rfl, by rw [hK2]; exact unit_pf (by omega) hq_18⟩))
        ·
          subst hz_21
          subst hu_22
          refine ⟨rfl, ?_⟩
          refine S_w (ws' := [(h0, ob 2 (uF (uF (uF f 1 (iv a2_19)) 2 (iv w)) 4 (iv (x + (ts_20.length : Int))))), (ht, ob 6 ft), (hb, ar 160 T), (hc, ar 160 (wrL C x ts_20))]) rfl ?_
          refine S_w (ws' := [(h0, ob 2 (uF (uF (uF f 1 (iv a2_19)) 2 (iv w)) 4 (iv (x + ((ts_20).length : Int))))), (ht, ob 6 ft), (hb, ar 160 T), (hc, ar 160 (wrL C x (ts_20)))]) (by simp only [wrL_app, wrL, List.length_append, List.length_singleton, Int.natCast_add, Int.natCast_one, Int.add_assoc, List.append_assoc]) ?_
          have ho_24 := (pCond_ok (T := T) hn1 K2 (sk T n a + 1) (by omega) (by omega)).2 _ hq_23
          dsimp only at ho_24
          refine S_if_eq (tgt := 104) X dX2_unit_81 (by decide) (by decide) (fun h9 => absurd h9 (by decide)) (fun _ => ?_)
          refine S_aload_n X dX2_unit_84 rfl rfl ?_
          refine S_bipush X dX2_unit_85 rfl ?_
          refine S_calli X (kX5_take_2 l h0 ht hb f ft T n a2_19 w (x + ((ts_20).length : Int)) 41 hf0 hf1 hf2 (by omega) (by omega) (by omega)) (is := [0, 1, 2]) rfl (run_U X lkX2_32_2 0 rfl rfl (is := [0, 1, 2]) (avs := [iv 41]) (rest := []) rfl rfl (nle rfl) ⟨by simp only [rmD]; omega, by simp only [rmD]; omega⟩ ⟨nle rfl, nle rfl⟩ dX2_unit_87 (by decide) rfl) (fun z_28 u_26 hp_27 => ?_)
          rcases hp_27 with ⟨hz_29, hu_30, hq_31⟩ | ⟨hz_32, hu_33, hq_34⟩
          ·
            subst hz_29
            subst hu_30
            refine ⟨rfl, ?_⟩
            refine S_w (ws' := [(h0, ob 2 (uF (uF (uF f 1 (iv (sk T n a2_19))) 2 (iv w)) 4 (iv (x + ((ts_20).length : Int))))), (ht, ob 6 ft), (hb, ar 160 T), (hc, ar 160 (wrL C x (ts_20)))]) rfl ?_
            refine S_if_ne (tgt := 100) X dX2_unit_90 (by decide) (by decide) (fun h9 => absurd h9 (by decide)) (fun _ => ?_)
            refine S_aload_n X dX2_unit_93 rfl rfl ?_
            refine S_calli X (kX5_fail_2 l h0 ht hb f ft T n (sk T n a2_19) w (x + ((ts_20).length : Int)) hf0 hf1 hf2) (is := [0, 1, 2]) rfl (run_U X lkX2_36_2 0 rfl rfl (is := [0, 1, 2]) (avs := []) (rest := []) rfl rfl (nle rfl) ⟨by simp only [rmD]; omega, by simp only [rmD]; omega⟩ ⟨nle rfl, nle rfl⟩ dX2_unit_94 (by decide) rfl) (fun z_38 u_36 hp_37 => ?_)
            obtain ⟨hz_39, hu_40⟩ := hp_37
            subst hz_39
            subst hu_40
            refine ⟨rfl, ?_⟩
            refine S_w (ws' := [(h0, ob 2 (uF (uF (uF f 1 (iv (sk T n a2_19))) 2 (iv (sk T n a2_19))) 4 (iv (x + ((ts_20).length : Int))))), (ht, ob 6 ft), (hb, ar 160 T), (hc, ar 160 (wrL C x (ts_20)))]) rfl ?_
            refine S_if_eq (tgt := 104) X dX2_unit_97 (by decide) (by decide) (fun _ => ?_) (fun h9 => absurd h9 (by decide))
            refine S_iconst X dX2_unit_104 ?_
            exact S_zret X (Or.inl rfl) (nle rfl) (nle rfl) dX2_unit_105 (hPo _ _ (Or.inl ⟨_, _, _, _, rfl, rfl, by rw [hK2]; exact (unit_p (by omega) hq_23).trans (if_neg hq_31)⟩))
          ·
            subst hz_32
            subst hu_33
            refine ⟨rfl, ?_⟩
            refine S_w (ws' := [(h0, ob 2 (uF (uF (uF f 1 (iv (sk T n a2_19 + 1))) 2 (iv w)) 4 (iv (x + ((ts_20).length : Int))))), (ht, ob 6 ft), (hb, ar 160 T), (hc, ar 160 (wrL C x (ts_20)))]) rfl ?_
            refine S_if_ne (tgt := 100) X dX2_unit_90 (by decide) (by decide) (fun _ => ?_) (fun h9 => absurd h9 (by decide))
            refine S_iconst X dX2_unit_100 ?_
            refine S_goto (tgt := 105) X dX2_unit_101 (by decide) ?_
            exact S_zret X (Or.inr rfl) (nle rfl) (nle rfl) dX2_unit_105 (hPo _ _ (Or.inr ⟨_, ts_20, rfl, rfl, by rw [hK2]; exact (unit_p (by omega) hq_23).trans (if_pos hq_34)⟩))
      ·
        refine S_aload_n X dX2_unit_66 rfl rfl ?_
        refine S_iload_n X dX2_unit_67 rfl rfl ?_
        refine S_iconst X dX2_unit_68 ?_
        refine S_iadd X dX2_unit_69 ?_
        refine S_calli X ((hne K2 hK2) h0 ht hb f ft T n ((sk T n a) + 1) w x hc C (wi + 1) hf0 hf1 hf2 hf3 (by omega) (by omega) (by (try simp only [List.length_append, List.length_singleton, Int.natCast_add, Int.natCast_one]); omega) (by omega) (by omega)) (is := [0, 1, 2, 3]) rfl (run_V X lkX2_71 0 rfl rfl (is := [0, 1, 2, 3]) (avs := [iv (wi + 1)]) (rest := []) rfl rfl (nle rfl) ⟨by simp only [rmD]; omega, by simp only [rmD]; omega⟩ ⟨nle rfl, nle rfl⟩ dX2_unit_70 (by decide) rfl) (fun z_45 u_43 hp_44 => ?_)
        rcases hp_44 with ⟨a2_46, fl_47, x2_48, C2_49, hz_50, hu_51, hq_52⟩ | ⟨a2_53, ts_54, hz_55, hu_56, hq_57⟩
        ·
          subst hz_50
          subst hu_51
          refine ⟨rfl, ?_⟩
          refine S_w (ws' := [(h0, ob 2 (uF (uF (uF f 1 (iv a2_46)) 2 (iv fl_47)) 4 (iv x2_48))), (ht, ob 6 ft), (hb, ar 160 T), (hc, ar 160 C2_49)]) rfl ?_
          exact S_zret X (Or.inl rfl) (nle rfl) (nle rfl) dX2_unit_73 (hPo _ _ (Or.inl ⟨_, _, _, _, rfl, rfl, by rw [hK2, unit_ng (by omega)]; exact hq_52⟩))
        ·
          subst hz_55
          subst hu_56
          refine ⟨rfl, ?_⟩
          refine S_w (ws' := [(h0, ob 2 (uF (uF (uF f 1 (iv a2_53)) 2 (iv w)) 4 (iv (x + (ts_54.length : Int))))), (ht, ob 6 ft), (hb, ar 160 T), (hc, ar 160 (wrL C x ts_54))]) rfl ?_
          refine S_w (ws' := [(h0, ob 2 (uF (uF (uF f 1 (iv a2_53)) 2 (iv w)) 4 (iv (x + ((ts_54).length : Int))))), (ht, ob 6 ft), (hb, ar 160 T), (hc, ar 160 (wrL C x (ts_54)))]) (by simp only [wrL_app, wrL, List.length_append, List.length_singleton, Int.natCast_add, Int.natCast_one, Int.add_assoc, List.append_assoc]) ?_
          exact S_zret X (Or.inr rfl) (nle rfl) (nle rfl) dX2_unit_73 (hPo _ _ (Or.inr ⟨_, ts_54, rfl, rfl, by rw [hK2, unit_ng (by omega)]; exact hq_57⟩))
    ·
      refine S_aload_n X dX2_unit_45 rfl rfl ?_
      refine S_calli X (kX5_fail_2 l h0 ht hb f ft T n (sk T n a) w x hf0 hf1 hf2) (is := [0, 1, 2]) rfl (run_U X lkX2_36_2 0 rfl rfl (is := [0, 1, 2]) (avs := []) (rest := []) rfl rfl (nle rfl) ⟨by simp only [rmD]; omega, by simp only [rmD]; omega⟩ ⟨nle rfl, nle rfl⟩ dX2_unit_46 (by decide) rfl) (fun z_60 u_58 hp_59 => ?_)
      obtain ⟨hz_61, hu_62⟩ := hp_59
      subst hz_61
      subst hu_62
      refine ⟨rfl, ?_⟩
      refine S_w (ws' := [(h0, ob 2 (uF (uF (uF f 1 (iv (sk T n a))) 2 (iv (sk T n a))) 4 (iv x))), (ht, ob 6 ft), (hb, ar 160 T), (hc, ar 160 C)]) rfl ?_
      exact S_zret X (Or.inl rfl) (nle rfl) (nle rfl) dX2_unit_49 (hPo _ _ (Or.inl ⟨_, _, _, _, rfl, rfl, unit_d (by omega) (by omega)⟩))
  ·
    refine S_iload_n X dX2_unit_11 rfl rfl ?_
    refine S_bipush X dX2_unit_12 rfl ?_
    refine S_icmp_eq (tgt := 39) X dX2_unit_14 (by decide) (by omega) (by decide) (fun c_63 => ?_) (fun c_63 => ?_)
    ·
      refine S_iload_n X dX2_unit_39 rfl rfl ?_
      refine S_bipush X dX2_unit_40 rfl ?_
      refine S_icmp_lt (tgt := 50) X dX2_unit_42 (by decide) (by omega) (by decide) (fun c_64 => ?_) (fun c_64 => ?_)
      ·
        have hlt : sk T n a < n := ch_lt (T := T) (by omega)
        obtain ⟨K2, hK2⟩ : ∃ K2 : Nat, K = K2 + 1 := ⟨K - 1, by omega⟩
        refine S_aload_n X dX2_unit_50 rfl rfl ?_
        refine S_dup X dX2_unit_51 ?_
        refine S_get (v := iv (sk T n a)) X fgX2_68_2 0 rfl rfl dX2_unit_52 ?_
        refine S_iconst X dX2_unit_55 ?_
        refine S_iadd X dX2_unit_56 ?_
        refine S_put X fpX2_68_2 0 rfl FT_i dX2_unit_57 ?_
        refine S_w (ws' := [(h0, ob 2 (uF (uF (uF f 1 (iv ((sk T n a) + 1))) 2 (iv w)) 4 (iv x))), (ht, ob 6 ft), (hb, ar 160 T), (hc, ar 160 C)]) (by simp only [List.set]; rw [uF_mv (j := 4) (k := 1) (by decide), uF_mv (j := 2) (k := 1) (by decide), uF_same (k := 1)]) ?_
        refine S_iload_n X dX2_unit_60 rfl rfl ?_
        refine S_bipush X dX2_unit_61 rfl ?_
        refine S_icmp_ne (tgt := 74) X dX2_unit_63 (by decide) (by omega) (by decide) (fun c_65 => ?_) (fun c_65 => ?_)
        ·
          refine S_aload_n X dX2_unit_74 rfl rfl ?_
          refine S_iload_n X dX2_unit_75 rfl rfl ?_
          refine S_iconst X dX2_unit_76 ?_
          refine S_iadd X dX2_unit_77 ?_
          refine S_calli X ((hco K2 hK2) h0 ht hb f ft T n ((sk T n a) + 1) w x hc C (wi + 1) hf0 hf1 hf2 hf3 (by omega) (by omega) (by (try simp only [List.length_append, List.length_singleton, Int.natCast_add, Int.natCast_one]); omega) (by omega) (by omega)) (is := [0, 1, 2, 3]) rfl (run_V X lkX2_44 0 rfl rfl (is := [0, 1, 2, 3]) (avs := [iv (wi + 1)]) (rest := []) rfl rfl (nle rfl) ⟨by simp only [rmD]; omega, by simp only [rmD]; omega⟩ ⟨nle rfl, nle rfl⟩ dX2_unit_78 (by decide) rfl) (fun z_68 u_66 hp_67 => ?_)
          rcases hp_67 with ⟨a2_69, fl_70, x2_71, C2_72, hz_73, hu_74, hq_75⟩ | ⟨a2_76, ts_77, hz_78, hu_79, hq_80⟩
          ·
            subst hz_73
            subst hu_74
            refine ⟨rfl, ?_⟩
            refine S_w (ws' := [(h0, ob 2 (uF (uF (uF f 1 (iv a2_69)) 2 (iv fl_70)) 4 (iv x2_71))), (ht, ob 6 ft), (hb, ar 160 T), (hc, ar 160 C2_72)]) rfl ?_
            refine S_if_eq (tgt := 104) X dX2_unit_81 (by decide) (by decide) (fun _ => ?_) (fun h9 => absurd h9 (by decide))
            refine S_iconst X dX2_unit_104 ?_
            exact S_zret X (Or.inl rfl) (nle rfl) (nle rfl) dX2_unit_105 (hPo _ _ (Or.inl ⟨_, _, _, _, rfl, rfl, by rw [hK2]; exact unit_pf (by omega) hq_75⟩))
          ·
            subst hz_78
            subst hu_79
            refine ⟨rfl, ?_⟩
            refine S_w (ws' := [(h0, ob 2 (uF (uF (uF f 1 (iv a2_76)) 2 (iv w)) 4 (iv (x + (ts_77.length : Int))))), (ht, ob 6 ft), (hb, ar 160 T), (hc, ar 160 (wrL C x ts_77))]) rfl ?_
            refine S_w (ws' := [(h0, ob 2 (uF (uF (uF f 1 (iv a2_76)) 2 (iv w)) 4 (iv (x + ((ts_77).length : Int))))), (ht, ob 6 ft), (hb, ar 160 T), (hc, ar 160 (wrL C x (ts_77)))]) (by simp only [wrL_app, wrL, List.length_append, List.length_singleton, Int.natCast_add, Int.natCast_one, Int.add_assoc, List.append_assoc]) ?_
            have ho_81 := (pCond_ok (T := T) hn1 K2 (sk T n a + 1) (by omega) (by omega)).2 _ hq_80
            dsimp only at ho_81
            refine S_if_eq (tgt := 104) X dX2_unit_81 (by decide) (by decide) (fun h9 => absurd h9 (by decide)) (fun _ => ?_)
            refine S_aload_n X dX2_unit_84 rfl rfl ?_
            refine S_bipush X dX2_unit_85 rfl ?_
            refine S_calli X (kX5_take_2 l h0 ht hb f ft T n a2_76 w (x + ((ts_77).length : Int)) 41 hf0 hf1 hf2 (by omega) (by omega) (by omega)) (is := [0, 1, 2]) rfl (run_U X lkX2_32_2 0 rfl rfl (is := [0, 1, 2]) (avs := [iv 41]) (rest := []) rfl rfl (nle rfl) ⟨by simp only [rmD]; omega, by simp only [rmD]; omega⟩ ⟨nle rfl, nle rfl⟩ dX2_unit_87 (by decide) rfl) (fun z_85 u_83 hp_84 => ?_)
            rcases hp_84 with ⟨hz_86, hu_87, hq_88⟩ | ⟨hz_89, hu_90, hq_91⟩
            ·
              subst hz_86
              subst hu_87
              refine ⟨rfl, ?_⟩
              refine S_w (ws' := [(h0, ob 2 (uF (uF (uF f 1 (iv (sk T n a2_76))) 2 (iv w)) 4 (iv (x + ((ts_77).length : Int))))), (ht, ob 6 ft), (hb, ar 160 T), (hc, ar 160 (wrL C x (ts_77)))]) rfl ?_
              refine S_if_ne (tgt := 100) X dX2_unit_90 (by decide) (by decide) (fun h9 => absurd h9 (by decide)) (fun _ => ?_)
              refine S_aload_n X dX2_unit_93 rfl rfl ?_
              refine S_calli X (kX5_fail_2 l h0 ht hb f ft T n (sk T n a2_76) w (x + ((ts_77).length : Int)) hf0 hf1 hf2) (is := [0, 1, 2]) rfl (run_U X lkX2_36_2 0 rfl rfl (is := [0, 1, 2]) (avs := []) (rest := []) rfl rfl (nle rfl) ⟨by simp only [rmD]; omega, by simp only [rmD]; omega⟩ ⟨nle rfl, nle rfl⟩ dX2_unit_94 (by decide) rfl) (fun z_95 u_93 hp_94 => ?_)
              obtain ⟨hz_96, hu_97⟩ := hp_94
              subst hz_96
              subst hu_97
              refine ⟨rfl, ?_⟩
              refine S_w (ws' := [(h0, ob 2 (uF (uF (uF f 1 (iv (sk T n a2_76))) 2 (iv (sk T n a2_76))) 4 (iv (x + ((ts_77).length : Int))))), (ht, ob 6 ft), (hb, ar 160 T), (hc, ar 160 (wrL C x (ts_77)))]) rfl ?_
              refine S_if_eq (tgt := 104) X dX2_unit_97 (by decide) (by decide) (fun _ => ?_) (fun h9 => absurd h9 (by decide))
              refine S_iconst X dX2_unit_104 ?_
              exact S_zret X (Or.inl rfl) (nle rfl) (nle rfl) dX2_unit_105 (hPo _ _ (Or.inl ⟨_, _, _, _, rfl, rfl, by rw [hK2]; exact (unit_p (by omega) hq_80).trans (if_neg hq_88)⟩))
            ·
              subst hz_89
              subst hu_90
              refine ⟨rfl, ?_⟩
              refine S_w (ws' := [(h0, ob 2 (uF (uF (uF f 1 (iv (sk T n a2_76 + 1))) 2 (iv w)) 4 (iv (x + ((ts_77).length : Int))))), (ht, ob 6 ft), (hb, ar 160 T), (hc, ar 160 (wrL C x (ts_77)))]) rfl ?_
              refine S_if_ne (tgt := 100) X dX2_unit_90 (by decide) (by decide) (fun _ => ?_) (fun h9 => absurd h9 (by decide))
              refine S_iconst X dX2_unit_100 ?_
              refine S_goto (tgt := 105) X dX2_unit_101 (by decide) ?_
              exact S_zret X (Or.inr rfl) (nle rfl) (nle rfl) dX2_unit_105 (hPo _ _ (Or.inr ⟨_, ts_77, rfl, rfl, by rw [hK2]; exact (unit_p (by omega) hq_80).trans (if_pos hq_91)⟩))
        ·
          refine S_aload_n X dX2_unit_66 rfl rfl ?_
          refine S_iload_n X dX2_unit_67 rfl rfl ?_
          refine S_iconst X dX2_unit_68 ?_
          refine S_iadd X dX2_unit_69 ?_
          refine S_calli X ((hne K2 hK2) h0 ht hb f ft T n ((sk T n a) + 1) w x hc C (wi + 1) hf0 hf1 hf2 hf3 (by omega) (by omega) (by (try simp only [List.length_append, List.length_singleton, Int.natCast_add, Int.natCast_one]); omega) (by omega) (by omega)) (is := [0, 1, 2, 3]) rfl (run_V X lkX2_71 0 rfl rfl (is := [0, 1, 2, 3]) (avs := [iv (wi + 1)]) (rest := []) rfl rfl (nle rfl) ⟨by simp only [rmD]; omega, by simp only [rmD]; omega⟩ ⟨nle rfl, nle rfl⟩ dX2_unit_70 (by decide) rfl) (fun z_102 u_100 hp_101 => ?_)
          rcases hp_101 with ⟨a2_103, fl_104, x2_105, C2_106, hz_107, hu_108, hq_109⟩ | ⟨a2_110, ts_111, hz_112, hu_113, hq_114⟩
          ·
            subst hz_107
            subst hu_108
            refine ⟨rfl, ?_⟩
            refine S_w (ws' := [(h0, ob 2 (uF (uF (uF f 1 (iv a2_103)) 2 (iv fl_104)) 4 (iv x2_105))), (ht, ob 6 ft), (hb, ar 160 T), (hc, ar 160 C2_106)]) rfl ?_
            exact S_zret X (Or.inl rfl) (nle rfl) (nle rfl) dX2_unit_73 (hPo _ _ (Or.inl ⟨_, _, _, _, rfl, rfl, by rw [hK2, unit_ng (by omega)]; exact hq_109⟩))
          ·
            subst hz_112
            subst hu_113
            refine ⟨rfl, ?_⟩
            refine S_w (ws' := [(h0, ob 2 (uF (uF (uF f 1 (iv a2_110)) 2 (iv w)) 4 (iv (x + (ts_111.length : Int))))), (ht, ob 6 ft), (hb, ar 160 T), (hc, ar 160 (wrL C x ts_111))]) rfl ?_
            refine S_w (ws' := [(h0, ob 2 (uF (uF (uF f 1 (iv a2_110)) 2 (iv w)) 4 (iv (x + ((ts_111).length : Int))))), (ht, ob 6 ft), (hb, ar 160 T), (hc, ar 160 (wrL C x (ts_111)))]) (by simp only [wrL_app, wrL, List.length_append, List.length_singleton, Int.natCast_add, Int.natCast_one, Int.add_assoc, List.append_assoc]) ?_
            exact S_zret X (Or.inr rfl) (nle rfl) (nle rfl) dX2_unit_73 (hPo _ _ (Or.inr ⟨_, ts_111, rfl, rfl, by rw [hK2, unit_ng (by omega)]; exact hq_114⟩))
      ·
        refine S_aload_n X dX2_unit_45 rfl rfl ?_
        refine S_calli X (kX5_fail_2 l h0 ht hb f ft T n (sk T n a) w x hf0 hf1 hf2) (is := [0, 1, 2]) rfl (run_U X lkX2_36_2 0 rfl rfl (is := [0, 1, 2]) (avs := []) (rest := []) rfl rfl (nle rfl) ⟨by simp only [rmD]; omega, by simp only [rmD]; omega⟩ ⟨nle rfl, nle rfl⟩ dX2_unit_46 (by decide) rfl) (fun z_117 u_115 hp_116 => ?_)
        obtain ⟨hz_118, hu_119⟩ := hp_116
        subst hz_118
        subst hu_119
        refine ⟨rfl, ?_⟩
        refine S_w (ws' := [(h0, ob 2 (uF (uF (uF f 1 (iv (sk T n a))) 2 (iv (sk T n a))) 4 (iv x))), (ht, ob 6 ft), (hb, ar 160 T), (hc, ar 160 C)]) rfl ?_
        exact S_zret X (Or.inl rfl) (nle rfl) (nle rfl) dX2_unit_49 (hPo _ _ (Or.inl ⟨_, _, _, _, rfl, rfl, unit_d (by omega) (by omega)⟩))
    ·
      refine S_aload_n X dX2_unit_17 rfl rfl ?_
      refine S_iload_n X dX2_unit_18 rfl rfl ?_
      refine S_calli X (hsu h0 ht hb f ft T n (sk T n a) w x hc C wi hf0 hf1 hf2 hf3 (by omega) (by omega) (by (try simp only [List.length_append, List.length_singleton, Int.natCast_add, Int.natCast_one]); omega) (by omega) (by omega)) (is := [0, 1, 2, 3]) rfl (run_V X lkX2_50 0 rfl rfl (is := [0, 1, 2, 3]) (avs := [iv wi]) (rest := []) rfl rfl (nle rfl) ⟨by simp only [rmD]; omega, by simp only [rmD]; omega⟩ ⟨nle rfl, nle rfl⟩ dX2_unit_19 (by decide) rfl) (fun z_122 u_120 hp_121 => ?_)
      rcases hp_121 with ⟨a2_123, fl_124, x2_125, C2_126, hz_127, hu_128, hq_129⟩ | ⟨a2_130, ts_131, hz_132, hu_133, hq_134⟩
      ·
        subst hz_127
        subst hu_128
        refine ⟨rfl, ?_⟩
        refine S_w (ws' := [(h0, ob 2 (uF (uF (uF f 1 (iv a2_123)) 2 (iv fl_124)) 4 (iv x2_125))), (ht, ob 6 ft), (hb, ar 160 T), (hc, ar 160 C2_126)]) rfl ?_
        refine S_if_eq (tgt := 37) X dX2_unit_22 (by decide) (by decide) (fun _ => ?_) (fun h9 => absurd h9 (by decide))
        refine S_iconst X dX2_unit_37 ?_
        exact S_zret X (Or.inl rfl) (nle rfl) (nle rfl) dX2_unit_38 (hPo _ _ (Or.inl ⟨_, _, _, _, rfl, rfl, unit_sf (by omega) hq_129⟩))
      ·
        subst hz_132
        subst hu_133
        refine ⟨rfl, ?_⟩
        refine S_w (ws' := [(h0, ob 2 (uF (uF (uF f 1 (iv a2_130)) 2 (iv w)) 4 (iv (x + (ts_131.length : Int))))), (ht, ob 6 ft), (hb, ar 160 T), (hc, ar 160 (wrL C x ts_131))]) rfl ?_
        refine S_w (ws' := [(h0, ob 2 (uF (uF (uF f 1 (iv a2_130)) 2 (iv w)) 4 (iv (x + ((ts_131).length : Int))))), (ht, ob 6 ft), (hb, ar 160 T), (hc, ar 160 (wrL C x (ts_131)))]) (by simp only [wrL_app, wrL, List.length_append, List.length_singleton, Int.natCast_add, Int.natCast_one, Int.add_assoc, List.append_assoc]) ?_
        have ho_135 := ((pAS_ok (T := T) hn1 K).2 (sk T n a) (by omega) (by omega)).2 _ hq_134
        dsimp only at ho_135
        refine S_if_eq (tgt := 37) X dX2_unit_22 (by decide) (by decide) (fun h9 => absurd h9 (by decide)) (fun _ => ?_)
        refine S_aload_n X dX2_unit_25 rfl rfl ?_
        refine S_iload_n X dX2_unit_26 rfl rfl ?_
        refine S_calli X (hcm h0 ht hb f ft T n a2_130 w (x + ((ts_131).length : Int)) hc (wrL C x (ts_131)) wi hf0 hf1 hf2 hf3 (by omega) (by omega) (by (try simp only [List.length_append, List.length_singleton, Int.natCast_add, Int.natCast_one]); omega) (by omega) (by omega)) (is := [0, 1, 2, 3]) rfl (run_V X lkX2_59 0 rfl rfl (is := [0, 1, 2, 3]) (avs := [iv wi]) (rest := []) rfl rfl (nle rfl) ⟨by simp only [rmD]; omega, by simp only [rmD]; omega⟩ ⟨nle rfl, nle rfl⟩ dX2_unit_27 (by decide) rfl) (fun z_139 u_137 hp_138 => ?_)
        rcases hp_138 with ⟨a2_140, fl_141, x2_142, C2_143, hz_144, hu_145, hq_146⟩ | ⟨a2_147, ts_148, hz_149, hu_150, hq_151⟩
        ·
          subst hz_144
          subst hu_145
          refine ⟨rfl, ?_⟩
          refine S_w (ws' := [(h0, ob 2 (uF (uF (uF f 1 (iv a2_140)) 2 (iv fl_141)) 4 (iv x2_142))), (ht, ob 6 ft), (hb, ar 160 T), (hc, ar 160 C2_143)]) rfl ?_
          refine S_if_eq (tgt := 37) X dX2_unit_30 (by decide) (by decide) (fun _ => ?_) (fun h9 => absurd h9 (by decide))
          refine S_iconst X dX2_unit_37 ?_
          exact S_zret X (Or.inl rfl) (nle rfl) (nle rfl) dX2_unit_38 (hPo _ _ (Or.inl ⟨_, _, _, _, rfl, rfl, unit_cf (by omega) hq_134 hq_146⟩))
        ·
          subst hz_149
          subst hu_150
          refine ⟨rfl, ?_⟩
          refine S_w (ws' := [(h0, ob 2 (uF (uF (uF f 1 (iv a2_147)) 2 (iv w)) 4 (iv ((x + ((ts_131).length : Int)) + (ts_148.length : Int))))), (ht, ob 6 ft), (hb, ar 160 T), (hc, ar 160 (wrL (wrL C x (ts_131)) (x + ((ts_131).length : Int)) ts_148))]) rfl ?_
          refine S_w (ws' := [(h0, ob 2 (uF (uF (uF f 1 (iv a2_147)) 2 (iv w)) 4 (iv (x + ((ts_131 ++ ts_148).length : Int))))), (ht, ob 6 ft), (hb, ar 160 T), (hc, ar 160 (wrL C x (ts_131 ++ ts_148)))]) (by simp only [wrL_app, wrL, List.length_append, List.length_singleton, Int.natCast_add, Int.natCast_one, Int.add_assoc, List.append_assoc]) ?_
          refine S_if_eq (tgt := 37) X dX2_unit_30 (by decide) (by decide) (fun h9 => absurd h9 (by decide)) (fun _ => ?_)
          refine S_iconst X dX2_unit_33 ?_
          refine S_goto (tgt := 38) X dX2_unit_34 (by decide) ?_
          exact S_zret X (Or.inr rfl) (nle rfl) (nle rfl) dX2_unit_38 (hPo _ _ (Or.inr ⟨_, ts_131 ++ ts_148, rfl, rfl, unit_c (by omega) hq_134 hq_151⟩))
