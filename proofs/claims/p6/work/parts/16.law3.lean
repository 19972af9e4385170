theorem law_as (l : Launch) : ∀ K : Nat, C_X2_atom l K (2 * K + 6) ∧ C_X2_sum l K (2 * K + 7) := by
  intro K
  induction K with
  | zero =>
    have h1 := kX2_atom l 0 5 (by omega) (fun K2 h => absurd h (by omega))
    exact ⟨h1, kX2_sum l 0 6 (by omega) h1⟩
  | succ K ih =>
    have h1 := kX2_atom l (K + 1) (2 * K + 7) (by omega) (fun K2 h => by obtain rfl : K = K2 := by omega
                                                                         exact ih.2)
    exact ⟨h1, kX2_sum l (K + 1) (2 * K + 8) (by omega) h1⟩
theorem law_cmp (l : Launch) (K : Nat) : C_X2_comparison l K (2 * K + 8) := kX2_comparison l K (2 * K + 7) (by omega) (law_as l K).2
theorem law_unit (l : Launch) : ∀ K : Nat, C_X2_unit l K (3 * K + 9) := by
  intro K
  induction K with
  | zero => exact kX2_unit l 0 8 (by omega) 7 (by omega) (law_as l 0).2 8 (by omega) (law_cmp l 0) 0 (by omega) (fun K2 h => absurd h (by omega)) 0 (by omega) (fun K2 h => absurd h (by omega))
  | succ K ih =>
    refine kX2_unit l (K + 1) (3 * K + 11) (by omega) (2 * (K + 1) + 7) (by omega) (law_as l (K + 1)).2 (2 * (K + 1) + 8) (by omega) (law_cmp l (K + 1)) (3 * K + 10) (by omega) (fun K2 h => ?_) (3 * K + 11) (by omega) (fun K2 h => ?_)
    · obtain rfl : K = K2 := by omega
      exact kX2_negated l K (3 * K + 9) (by omega) ih
    · obtain rfl : K = K2 := by omega
      exact kX2_condition l K (3 * K + 10) (by omega) (3 * K + 9) (by omega) ih (3 * K + 10) (by omega) (kX2_moreUnits l K (3 * K + 9) (by omega) ih)
theorem law_sum (l : Launch) : C_X2_sum l 6 19 := (law_as l 6).2
theorem law_cm6 (l : Launch) : C_X2_comparison l 6 20 := law_cmp l 6
theorem law_more (l : Launch) : C_X2_moreUnits l 6 28 := kX2_moreUnits l 6 27 (by omega) (law_unit l 6)
theorem law_cond (l : Launch) : C_X2_condition l 6 29 := kX2_condition l 6 28 (by omega) 27 (by omega) (law_unit l 6) 28 (by omega) (law_more l)
theorem sumB_n {T : Int → Int} {n a : Int} {acc : List Int} (h : ¬ ch T n (sk T n a) = 63) : sumB T n a acc = .inl (sk T n a) := by rw [sumB, if_neg h]
theorem sumB_f {T : Int → Int} {n a f : Int} {acc : List Int} (h : ch T n (sk T n a) = 63) (h2 : pSum T n 6 (sk T n a + 1) = .inl f) : sumB T n a acc = .inl f := by rw [sumB, if_pos h, h2]
theorem sumB_r {T : Int → Int} {n a b : Int} {acc ts : List Int} (h : ch T n (sk T n a) = 63) (h2 : pSum T n 6 (sk T n a + 1) = .inr (b, ts)) : sumB T n a acc = .inr (b, acc ++ [-63] ++ ts ++ [-59]) := by rw [sumB, if_pos h, h2]
def okLC (n a0 c : Int) (r : LR) : Prop := (∀ f, r = .inl f → 0 ≤ f ∧ f ≤ n) ∧ (∀ q, r = .inr q → a0 < q.1 ∧ q.1 ≤ n ∧ (q.2.length : Int) + c ≤ q.1 - a0 ∧ ∀ t ∈ q.2, -200 ≤ t ∧ t ≤ 9999)
theorem okLC_l {n a c f : Int} (h : 0 ≤ f ∧ f ≤ n) : okLC n a c (.inl f) := ⟨fun f' e => (by cases e; exact h), fun q e => (by cases e)⟩
theorem okLC_r {n a b c : Int} {ts : List Int} (h : a < b ∧ b ≤ n ∧ (ts.length : Int) + c ≤ b - a ∧ ∀ t ∈ ts, -200 ≤ t ∧ t ≤ 9999) : okLC n a c (.inr (b, ts)) := ⟨fun f' e => (by cases e), fun q e => (by cases e; exact h)⟩
theorem sumB_ok {T : Int → Int} {n a0 a c : Int} {acc : List Int} (hn : n ≤ 160) (h0 : 0 ≤ a0) (h1 : a0 < a) (h2 : a ≤ n) (h3 : (acc.length : Int) + c + 1 ≤ a - a0) (h4 : ∀ t ∈ acc, -200 ≤ t ∧ t ≤ 9999) : okLC n a0 c (sumB T n a acc) := by
  have k1 := sk_in (T := T) h2
  unfold sumB
  split
  · next k2 =>
    have k3 : sk T n a < n := ch_lt (T := T) (by omega)
    have k4 := (pAS_ok (T := T) hn 6).2 (sk T n a + 1) (by omega) (by omega)
    cases hp : pSum T n 6 (sk T n a + 1) with
    | inl f => exact okLC_l (k4.1 f hp)
    | inr q =>
      have k5 := k4.2 q hp
      refine okLC_r ⟨by omega, by omega, ?_, ok_app (ok_app (ok_app h4 (ok_one (by decide))) k5.2.2.2.2) (ok_one (by decide))⟩
      simp only [List.length_append, List.length_singleton, Int.natCast_add, Int.natCast_one]
      omega
  · exact okLC_l ⟨by omega, by omega⟩
theorem pLawC_ok {T : Int → Int} {n a : Int} (hn : n ≤ 160) (h0 : 0 ≤ a) (ha : a ≤ n) : okLC n a 1 (pLawC T n a) := by
  have k1 := sk_in (T := T) ha
  unfold pLawC
  split
  · next c1 =>
    have l1 : sk T n a < n := ch_lt (T := T) (by omega)
    have k2 := sk_in (T := T) (n := n) (a := sk T n a + 1) (by omega)
    split
    · next c2 =>
      have l2 : sk T n (sk T n a + 1) < n := ch_lt (T := T) (by omega)
      have k3 := sk_in (T := T) (n := n) (a := sk T n (sk T n a + 1) + 1) (by omega)
      split
      · have k4 := pCond_ok (T := T) hn 6 (sk T n (sk T n (sk T n a + 1) + 1)) (by omega) (by omega)
        cases hp : pCond T n 6 (sk T n (sk T n (sk T n a + 1) + 1)) with
        | inl f => exact okLC_l (k4.1 f hp)
        | inr q =>
          have k5 := k4.2 q hp
          exact sumB_ok hn h0 (by omega) k5.2.1 (by omega) k5.2.2.2.2
      · have k4 := (pAS_ok (T := T) hn 6).2 (sk T n (sk T n (sk T n a + 1) + 1)) (by omega) (by omega)
        cases hp : pSum T n 6 (sk T n (sk T n (sk T n a + 1) + 1)) with
        | inl f => exact okLC_l (k4.1 f hp)
        | inr q =>
          have k5 := k4.2 q hp
          have k6 := sk_in (T := T) k5.2.1
          show okLC n a 1 (if ch T n (sk T n q.1) = 61 ∨ ch T n (sk T n q.1) = 60 ∨ ch T n (sk T n q.1) = 62 then (match cmpG T n 6 (sk T n q.1) with | .inl f => (.inl f : LR) | .inr r => (match moreL T n (pUnit T n 6) 161 false r.1 (q.2 ++ r.2) with | .inl f => (.inl f : LR) | .inr t => sumB T n t.1 t.2)) else .inr (sk T n q.1, q.2 ++ [-59]))
          split
          · have k7 := cmpG_ok (T := T) hn 6 (sk T n q.1) (by omega) (by omega)
            cases hc : cmpG T n 6 (sk T n q.1) with
            | inl f => exact okLC_l (k7.1 f hc)
            | inr r =>
              have k8 := k7.2 r hc
              have k9 := moreL_ok (T := T) (n := n) (a0 := sk T n (sk T n (sk T n a + 1) + 1)) (pUnit_ok (T := T) hn 6) (by omega) 161 false r.1 (q.2 ++ r.2) (by omega) k8.2.1 (by simp only [List.length_append, Int.natCast_add, Bool.false_eq_true, if_false]; omega) (by simp only [List.length_append]; omega) (ok_app k5.2.2.2.2 k8.2.2.2.2)
              show okLC n a 1 (match moreL T n (pUnit T n 6) 161 false r.1 (q.2 ++ r.2) with | .inl f => (.inl f : LR) | .inr t => sumB T n t.1 t.2)
              cases hm : moreL T n (pUnit T n 6) 161 false r.1 (q.2 ++ r.2) with
              | inl f => exact okLC_l (k9.1 f hm)
              | inr t =>
                have k10 := k9.2 t hm
                exact sumB_ok hn h0 (by omega) k10.2.1 (by omega) k10.2.2.2.2
          · exact okLC_r ⟨by omega, by omega, by simp only [List.length_append, List.length_singleton, Int.natCast_add, Int.natCast_one]; omega, ok_app k5.2.2.2.2 (ok_one (by decide))⟩
    · exact okLC_l ⟨by omega, by omega⟩
  · exact okLC_l ⟨by omega, by omega⟩
theorem lc_y {T : Int → Int} {n a : Int} (h : ¬ ch T n (sk T n a) = 121) : pLawC T n a = .inl (sk T n a) := by rw [pLawC, if_neg h]
theorem lc_c {T : Int → Int} {n a : Int} (h : ch T n (sk T n a) = 121) (h2 : ¬ ch T n (sk T n (sk T n a + 1)) = 58) : pLawC T n a = .inl (sk T n (sk T n a + 1)) := by rw [pLawC, if_pos h, if_neg h2]
theorem lc_kf {T : Int → Int} {n a f : Int} (h : ch T n (sk T n a) = 121) (h2 : ch T n (sk T n (sk T n a + 1)) = 58) (h3 : ch T n (sk T n (sk T n (sk T n a + 1) + 1)) = 33 ∨ ch T n (sk T n (sk T n (sk T n a + 1) + 1)) = 40) (h4 : pCond T n 6 (sk T n (sk T n (sk T n a + 1) + 1)) = .inl f) : pLawC T n a = .inl f := by rw [pLawC, if_pos h, if_pos h2, if_pos h3, h4]
theorem lc_k {T : Int → Int} {n a b : Int} {ts : List Int} (h : ch T n (sk T n a) = 121) (h2 : ch T n (sk T n (sk T n a + 1)) = 58) (h3 : ch T n (sk T n (sk T n (sk T n a + 1) + 1)) = 33 ∨ ch T n (sk T n (sk T n (sk T n a + 1) + 1)) = 40) (h4 : pCond T n 6 (sk T n (sk T n (sk T n a + 1) + 1)) = .inr (b, ts)) : pLawC T n a = sumB T n b ts := by rw [pLawC, if_pos h, if_pos h2, if_pos h3, h4]
theorem lc_sf {T : Int → Int} {n a f : Int} (h : ch T n (sk T n a) = 121) (h2 : ch T n (sk T n (sk T n a + 1)) = 58) (h3 : ¬ (ch T n (sk T n (sk T n (sk T n a + 1) + 1)) = 33 ∨ ch T n (sk T n (sk T n (sk T n a + 1) + 1)) = 40)) (h4 : pSum T n 6 (sk T n (sk T n (sk T n a + 1) + 1)) = .inl f) : pLawC T n a = .inl f := by rw [pLawC, if_pos h, if_pos h2, if_neg h3, h4]
theorem lc_s {T : Int → Int} {n a b : Int} {ts : List Int} (h : ch T n (sk T n a) = 121) (h2 : ch T n (sk T n (sk T n a + 1)) = 58) (h3 : ¬ (ch T n (sk T n (sk T n (sk T n a + 1) + 1)) = 33 ∨ ch T n (sk T n (sk T n (sk T n a + 1) + 1)) = 40)) (h4 : pSum T n 6 (sk T n (sk T n (sk T n a + 1) + 1)) = .inr (b, ts)) (h5 : ¬ (ch T n (sk T n b) = 61 ∨ ch T n (sk T n b) = 60 ∨ ch T n (sk T n b) = 62)) : pLawC T n a = .inr (sk T n b, ts ++ [-59]) := by
  rw [pLawC, if_pos h, if_pos h2, if_neg h3, h4]
  exact if_neg h5
theorem lc_q {T : Int → Int} {n a b : Int} {ts : List Int} (h : ch T n (sk T n a) = 121) (h2 : ch T n (sk T n (sk T n a + 1)) = 58) (h3 : ¬ (ch T n (sk T n (sk T n (sk T n a + 1) + 1)) = 33 ∨ ch T n (sk T n (sk T n (sk T n a + 1) + 1)) = 40)) (h4 : pSum T n 6 (sk T n (sk T n (sk T n a + 1) + 1)) = .inr (b, ts)) (h5 : ch T n (sk T n b) = 61 ∨ ch T n (sk T n b) = 60 ∨ ch T n (sk T n b) = 62) : pLawC T n a = (match cmpG T n 6 (sk T n b) with | .inl f => (.inl f : LR) | .inr r => (match moreL T n (pUnit T n 6) 161 false r.1 (ts ++ r.2) with | .inl f => (.inl f : LR) | .inr t => sumB T n t.1 t.2)) := by
  rw [pLawC, if_pos h, if_pos h2, if_neg h3, h4]
  exact if_pos h5
theorem lc_qf {T : Int → Int} {n b f : Int} {ts : List Int} (h : cmpG T n 6 b = .inl f) : (match cmpG T n 6 b with | .inl f => (.inl f : LR) | .inr r => (match moreL T n (pUnit T n 6) 161 false r.1 (ts ++ r.2) with | .inl f => (.inl f : LR) | .inr t => sumB T n t.1 t.2)) = .inl f := by rw [h]
theorem lc_qm {T : Int → Int} {n b c : Int} {ts t2 : List Int} (h : cmpG T n 6 b = .inr (c, t2)) : (match cmpG T n 6 b with | .inl f => (.inl f : LR) | .inr r => (match moreL T n (pUnit T n 6) 161 false r.1 (ts ++ r.2) with | .inl f => (.inl f : LR) | .inr t => sumB T n t.1 t.2)) = (match moreL T n (pUnit T n 6) 161 false c (ts ++ t2) with | .inl f => (.inl f : LR) | .inr t => sumB T n t.1 t.2) := by rw [h]
theorem lc_mf {T : Int → Int} {n c f : Int} {ts : List Int} (h : moreL T n (pUnit T n 6) 161 false c ts = .inl f) : (match moreL T n (pUnit T n 6) 161 false c ts with | .inl f => (.inl f : LR) | .inr t => sumB T n t.1 t.2) = .inl f := by rw [h]
theorem lc_m {T : Int → Int} {n c d : Int} {ts t2 : List Int} (h : moreL T n (pUnit T n 6) 161 false c ts = .inr (d, t2)) : (match moreL T n (pUnit T n 6) 161 false c ts with | .inl f => (.inl f : LR) | .inr t => sumB T n t.1 t.2) = sumB T n d t2 := by rw [h]
theorem ll_f {T : Int → Int} {n a f : Int} {k : Nat} {acc : List Int} (h : pLawC T n a = .inl f) : pLawL T n (k + 1) a acc = .inl f := by rw [pLawL, h]
theorem ll_e {T : Int → Int} {n a b : Int} {k : Nat} {acc ts : List Int} (h : pLawC T n a = .inr (b, ts)) (h2 : ch T n (sk T n b) = 0) : pLawL T n (k + 1) a acc = .inr (sk T n b, acc ++ ts) := by rw [pLawL, h]; exact if_pos h2
theorem ll_g {T : Int → Int} {n a b : Int} {k : Nat} {acc ts : List Int} (h : pLawC T n a = .inr (b, ts)) (h2 : ch T n (sk T n b) = 59) : pLawL T n (k + 1) a acc = pLawL T n k (sk T n b + 1) (acc ++ ts) := by rw [pLawL, h]; exact (if_neg (by dsimp only; omega)).trans (if_pos h2)
theorem ll_n {T : Int → Int} {n a b : Int} {k : Nat} {acc ts : List Int} (h : pLawC T n a = .inr (b, ts)) (h2 : ¬ ch T n (sk T n b) = 0) (h3 : ¬ ch T n (sk T n b) = 59) : pLawL T n (k + 1) a acc = .inl (sk T n b) := by rw [pLawL, h]; exact (if_neg h2).trans (if_neg h3)
/-- a TEXT as a LAW: its fault, or its signs -/
def lwRes (T : Int → Int) (n : Int) : Int ⊕ List Int := match pLawL T n 161 0 [] with
  | .inl f => .inl f
  | .inr q => .inr q.2
theorem lwRes_f {T : Int → Int} {n f : Int} (h : pLawL T n 161 0 [] = .inl f) : lwRes T n = .inl f := by unfold lwRes; rw [h]
theorem lwRes_r {T : Int → Int} {n b : Int} {ts : List Int} (h : pLawL T n 161 0 [] = .inr (b, ts)) : lwRes T n = .inr ts := by unfold lwRes; rw [h]
set_option maxHeartbeats 4000000 in
set_option maxRecDepth 100000 in
theorem kX2_sumBehindCondition (l : Launch) (h0 : Nat) (ht : Nat) (hb : Nat) (f : Nat → AV) (ft : Nat → AV) (T : Int → Int) (n : Int) (a : Int) (w : Int) (x : Int) (hc : Nat) (C : Int → Int) (tl : List Int) (hf0 : f 0 = rv ht) (hf1 : ft 0 = rv hb) (hf2 : ft 1 = iv n) (hf3 : f 3 = rv hc) (hT : okT T n) (ha : 0 ≤ a ∧ a ≤ n) (hx : 0 ≤ x ∧ x + (tl.length : Int) < a) : AMi l yX2_sumBehindCondition cX2_sumBehindCondition 1 .boolean 20 0 0 [rv h0] [(h0, ob 2 (uF (uF (uF f 1 (iv a)) 2 (iv w)) 4 (iv (x + ((tl).length : Int))))), (ht, ob 6 ft), (hb, ar 160 T), (hc, ar 160 (wrL C x (tl)))] (fun z u => (∃ a2 : Int, ∃ fl : Int, ∃ x2 : Int, ∃ C2 : Int → Int, z = 0 ∧ u = [(h0, ob 2 (uF (uF (uF f 1 (iv a2)) 2 (iv fl)) 4 (iv x2))), (ht, ob 6 ft), (hb, ar 160 T), (hc, ar 160 C2)] ∧ sumB T n a tl = .inl fl) ∨ (∃ a2 : Int, ∃ ts : List Int, z = 1 ∧ u = [(h0, ob 2 (uF (uF (uF f 1 (iv a2)) 2 (iv w)) 4 (iv (x + ((ts).length : Int))))), (ht, ob 6 ft), (hb, ar 160 T), (hc, ar 160 (wrL C x (ts)))] ∧ sumB T n a tl = .inr (a2, ts))) := by
  refine AMi.of2 rfl (nle rfl) ?_
  intro D G A p e s m args below meth c Po hPo X
  obtain ⟨hn0, hn1, hT2⟩ := id hT
  have hsk := sk_in (T := T) ha.2
  have hch := ch_in (a := sk T n a) hT (by omega)
  refine S_aload_n X dX2_sumBehindCondition_0 rfl rfl ?_
  refine S_bipush X dX2_sumBehindCondition_1 rfl ?_
  refine S_calli X (kX5_take_2 l h0 ht hb f ft T n a w (x + ((tl).length : Int)) 63 hf0 hf1 hf2 (by omega) (by omega) (by omega)) (is := [0, 1, 2]) rfl (run_U X lkX2_32_2 0 rfl rfl (is := [0, 1, 2]) (avs := [iv 63]) (rest := []) rfl rfl (nle rfl) ⟨nle rfl, nle rfl⟩ ⟨nle rfl, nle rfl⟩ dX2_sumBehindCondition_3 (by decide) rfl) (fun z_3 u_1 hp_2 => ?_)
  rcases hp_2 with ⟨hz_4, hu_5, hq_6⟩ | ⟨hz_7, hu_8, hq_9⟩
  ·
    subst hz_4
    subst hu_5
    refine ⟨rfl, ?_⟩
    refine S_w (ws' := [(h0, ob 2 (uF (uF (uF f 1 (iv (sk T n a))) 2 (iv w)) 4 (iv (x + ((tl).length : Int))))), (ht, ob 6 ft), (hb, ar 160 T), (hc, ar 160 (wrL C x (tl)))]) rfl ?_
    refine S_if_ne (tgt := 14) X dX2_sumBehindCondition_6 (by decide) (by decide) (fun h9 => absurd h9 (by decide)) (fun _ => ?_)
    refine S_aload_n X dX2_sumBehindCondition_9 rfl rfl ?_
    refine S_calli X (kX5_fail_2 l h0 ht hb f ft T n (sk T n a) w (x + ((tl).length : Int)) hf0 hf1 hf2) (is := [0, 1, 2]) rfl (run_U X lkX2_36_2 0 rfl rfl (is := [0, 1, 2]) (avs := []) (rest := []) rfl rfl (nle rfl) ⟨nle rfl, nle rfl⟩ ⟨nle rfl, nle rfl⟩ dX2_sumBehindCondition_10 (by decide) rfl) (fun z_13 u_11 hp_12 => ?_)
    obtain ⟨hz_14, hu_15⟩ := hp_12
    subst hz_14
    subst hu_15
    refine ⟨rfl, ?_⟩
    refine S_w (ws' := [(h0, ob 2 (uF (uF (uF f 1 (iv (sk T n a))) 2 (iv (sk T n a))) 4 (iv (x + ((tl).length : Int))))), (ht, ob 6 ft), (hb, ar 160 T), (hc, ar 160 (wrL C x (tl)))]) rfl ?_
    exact S_zret X (Or.inl rfl) (nle rfl) (nle rfl) dX2_sumBehindCondition_13 (hPo _ _ (Or.inl ⟨_, _, _, _, rfl, rfl, sumB_n hq_6⟩))
  ·
    subst hz_7
    subst hu_8
    refine ⟨rfl, ?_⟩
    refine S_w (ws' := [(h0, ob 2 (uF (uF (uF f 1 (iv (sk T n a + 1))) 2 (iv w)) 4 (iv (x + ((tl).length : Int))))), (ht, ob 6 ft), (hb, ar 160 T), (hc, ar 160 (wrL C x (tl)))]) rfl ?_
    refine S_if_ne (tgt := 14) X dX2_sumBehindCondition_6 (by decide) (by decide) (fun _ => ?_) (fun h9 => absurd h9 (by decide))
    have hlt : sk T n a < n := ch_lt (T := T) (by omega)
    refine S_aload_n X dX2_sumBehindCondition_14 rfl rfl ?_
    refine S_bipush X dX2_sumBehindCondition_15 rfl ?_
    refine S_calli X (kX2_emit l h0 f (sk T n a + 1) w (x + ((tl).length : Int)) hc (wrL C x (tl)) (-63) hf3 (by (try simp only [List.length_append, List.length_singleton, Int.natCast_add, Int.natCast_one]); omega)) (is := [0, 3]) rfl (run_V X lkX2_56 0 rfl rfl (is := [0, 3]) (avs := [iv (-63)]) (rest := []) rfl rfl (nle rfl) ⟨nle rfl, nle rfl⟩ ⟨nle rfl, nle rfl⟩ dX2_sumBehindCondition_17 (by decide) rfl) (fun z_19 u_17 hp_18 => ?_)
    obtain ⟨hz_20, hu_21⟩ := hp_18
    subst hz_20
    subst hu_21
    refine ⟨rfl, ?_⟩
    refine S_w (ws' := [(h0, ob 2 (uF (uF (uF f 1 (iv (sk T n a + 1))) 2 (iv w)) 4 (iv ((x + ((tl).length : Int)) + 1)))), (ht, ob 6 ft), (hb, ar 160 T), (hc, ar 160 (uZ (wrL C x (tl)) (x + ((tl).length : Int)) (-63)))]) rfl ?_
    refine S_w (ws' := [(h0, ob 2 (uF (uF (uF f 1 (iv (sk T n a + 1))) 2 (iv w)) 4 (iv (x + ((tl ++ [-63]).length : Int))))), (ht, ob 6 ft), (hb, ar 160 T), (hc, ar 160 (wrL C x (tl ++ [-63])))]) (by simp only [wrL_app, wrL, List.length_append, List.length_singleton, Int.natCast_add, Int.natCast_one, Int.add_assoc, List.append_assoc]) ?_
    refine S_if_eq (tgt := 44) X dX2_sumBehindCondition_20 (by decide) (by decide) (fun h9 => absurd h9 (by decide)) (fun _ => ?_)
    refine S_aload_n X dX2_sumBehindCondition_23 rfl rfl ?_
    refine S_iconst X dX2_sumBehindCondition_24 ?_
    refine S_calli X ((law_sum l) h0 ht hb f ft T n (sk T n a + 1) w (x + ((tl ++ [-63]).length : Int)) hc (wrL C x (tl ++ [-63])) 0 hf0 hf1 hf2 hf3 (by omega) (by omega) (by (try simp only [List.length_append, List.length_singleton, Int.natCast_add, Int.natCast_one]); omega) (by omega) (by omega)) (is := [0, 1, 2, 3]) rfl (run_V X lkX2_50 0 rfl rfl (is := [0, 1, 2, 3]) (avs := [iv 0]) (rest := []) rfl rfl (nle rfl) ⟨nle rfl, nle rfl⟩ ⟨nle rfl, nle rfl⟩ dX2_sumBehindCondition_25 (by decide) rfl) (fun z_25 u_23 hp_24 => ?_)
    rcases hp_24 with ⟨a2_26, fl_27, x2_28, C2_29, hz_30, hu_31, hq_32⟩ | ⟨a2_33, ts_34, hz_35, hu_36, hq_37⟩
    ·
      subst hz_30
      subst hu_31
      refine ⟨rfl, ?_⟩
      refine S_w (ws' := [(h0, ob 2 (uF (uF (uF f 1 (iv a2_26)) 2 (iv fl_27)) 4 (iv x2_28))), (ht, ob 6 ft), (hb, ar 160 T), (hc, ar 160 C2_29)]) rfl ?_
      refine S_if_eq (tgt := 44) X dX2_sumBehindCondition_28 (by decide) (by decide) (fun _ => ?_) (fun h9 => absurd h9 (by decide))
      refine S_iconst X dX2_sumBehindCondition_44 ?_
      exact S_zret X (Or.inl rfl) (nle rfl) (nle rfl) dX2_sumBehindCondition_45 (hPo _ _ (Or.inl ⟨_, _, _, _, rfl, rfl, sumB_f hq_9 hq_32⟩))
    ·
      subst hz_35
      subst hu_36
      refine ⟨rfl, ?_⟩
      refine S_w (ws' := [(h0, ob 2 (uF (uF (uF f 1 (iv a2_33)) 2 (iv w)) 4 (iv ((x + ((tl ++ [-63]).length : Int)) + (ts_34.length : Int))))), (ht, ob 6 ft), (hb, ar 160 T), (hc, ar 160 (wrL (wrL C x (tl ++ [-63])) (x + ((tl ++ [-63]).length : Int)) ts_34))]) rfl ?_
      refine S_w (ws' := [(h0, ob 2 (uF (uF (uF f 1 (iv a2_33)) 2 (iv w)) 4 (iv (x + ((tl ++ [-63] ++ ts_34).length : Int))))), (ht, ob 6 ft), (hb, ar 160 T), (hc, ar 160 (wrL C x (tl ++ [-63] ++ ts_34)))]) (by simp only [wrL_app, wrL, List.length_append, List.length_singleton, Int.natCast_add, Int.natCast_one, Int.add_assoc, List.append_assoc]) ?_
      have ho_39 := ((pAS_ok (T := T) hn1 6).2 (sk T n a + 1) (by omega) (by omega)).2 _ hq_37
      dsimp only at ho_39
      refine S_if_eq (tgt := 44) X dX2_sumBehindCondition_28 (by decide) (by decide) (fun h9 => absurd h9 (by decide)) (fun _ => ?_)
      refine S_aload_n X dX2_sumBehindCondition_31 rfl rfl ?_
      refine S_bipush X dX2_sumBehindCondition_32 rfl ?_
      refine S_calli X (kX2_emit l h0 f a2_33 w (x + ((tl ++ [-63] ++ ts_34).length : Int)) hc (wrL C x (tl ++ [-63] ++ ts_34)) (-59) hf3 (by (try simp only [List.length_append, List.length_singleton, Int.natCast_add, Int.natCast_one]); omega)) (is := [0, 3]) rfl (run_V X lkX2_56 0 rfl rfl (is := [0, 3]) (avs := [iv (-59)]) (rest := []) rfl rfl (nle rfl) ⟨nle rfl, nle rfl⟩ ⟨nle rfl, nle rfl⟩ dX2_sumBehindCondition_34 (by decide) rfl) (fun z_43 u_41 hp_42 => ?_)
      obtain ⟨hz_44, hu_45⟩ := hp_42
      subst hz_44
      subst hu_45
      refine ⟨rfl, ?_⟩
      refine S_w (ws' := [(h0, ob 2 (uF (uF (uF f 1 (iv a2_33)) 2 (iv w)) 4 (iv ((x + ((tl ++ [-63] ++ ts_34).length : Int)) + 1)))), (ht, ob 6 ft), (hb, ar 160 T), (hc, ar 160 (uZ (wrL C x (tl ++ [-63] ++ ts_34)) (x + ((tl ++ [-63] ++ ts_34).length : Int)) (-59)))]) rfl ?_
      refine S_w (ws' := [(h0, ob 2 (uF (uF (uF f 1 (iv a2_33)) 2 (iv w)) 4 (iv (x + ((tl ++ [-63] ++ ts_34 ++ [-59]).length : Int))))), (ht, ob 6 ft), (hb, ar 160 T), (hc, ar 160 (wrL C x (tl ++ [-63] ++ ts_34 ++ [-59])))]) (by simp only [wrL_app, wrL, List.length_append, List.length_singleton, Int.natCast_add, Int.natCast_one, Int.add_assoc, List.append_assoc]) ?_
      refine S_if_eq (tgt := 44) X dX2_sumBehindCondition_37 (by decide) (by decide) (fun h9 => absurd h9 (by decide)) (fun _ => ?_)
      refine S_iconst X dX2_sumBehindCondition_40 ?_
      refine S_goto (tgt := 45) X dX2_sumBehindCondition_41 (by decide) ?_
      exact S_zret X (Or.inr rfl) (nle rfl) (nle rfl) dX2_sumBehindCondition_45 (hPo _ _ (Or.inr ⟨_, tl ++ [-63] ++ ts_34 ++ [-59], rfl, rfl, sumB_r hq_9 hq_37⟩))
set_option maxHeartbeats 4000000 in
set_option maxRecDepth 100000 in
theorem kX2_readClause (l : Launch) (h0 : Nat) (ht : Nat) (hb : Nat) (f : Nat → AV) (ft : Nat → AV) (T : Int → Int) (n : Int) (a : Int) (w : Int) (x : Int) (hc : Nat) (C : Int → Int) (hf0 : f 0 = rv ht) (hf1 : ft 0 = rv hb) (hf2 : ft 1 = iv n) (hf3 : f 3 = rv hc) (hT : okT T n) (ha : 0 ≤ a ∧ a ≤ n) (hx : 0 ≤ x ∧ x ≤ a) : AMi l yX2_readClause cX2_readClause 2 .boolean 30 0 0 [rv h0] [(h0, ob 2 (uF (uF (uF f 1 (iv a)) 2 (iv w)) 4 (iv x))), (ht, ob 6 ft), (hb, ar 160 T), (hc, ar 160 C)] (fun z u => (∃ a2 : Int, ∃ fl : Int, ∃ x2 : Int, ∃ C2 : Int → Int, z = 0 ∧ u = [(h0, ob 2 (uF (uF (uF f 1 (iv a2)) 2 (iv fl)) 4 (iv x2))), (ht, ob 6 ft), (hb, ar 160 T), (hc, ar 160 C2)] ∧ pLawC T n a = .inl fl) ∨ (∃ a2 : Int, ∃ ts : List Int, z = 1 ∧ u = [(h0, ob 2 (uF (uF (uF f 1 (iv a2)) 2 (iv w)) 4 (iv (x + (ts.length : Int))))), (ht, ob 6 ft), (hb, ar 160 T), (hc, ar 160 (wrL C x ts))] ∧ pLawC T n a = .inr (a2, ts))) := by
  refine AMi.of2 rfl (nle rfl) ?_
  intro D G A p e s m args below meth c Po hPo X
  obtain ⟨hn0, hn1, hT2⟩ := id hT
  have hsk := sk_in (T := T) ha.2
  have hch := ch_in (a := sk T n a) hT (by omega)
  refine S_aload_n X dX2_readClause_0 rfl rfl ?_
  refine S_bipush X dX2_readClause_1 rfl ?_
  refine S_calli X (kX5_take_2 l h0 ht hb f ft T n a w x 121 hf0 hf1 hf2 (by omega) (by omega) (by omega)) (is := [0, 1, 2]) rfl (run_U X lkX2_32_2 0 rfl rfl (is := [0, 1, 2]) (avs := [iv 121]) (rest := []) rfl rfl (nle rfl) ⟨nle rfl, nle rfl⟩ ⟨nle rfl, nle rfl⟩ dX2_readClause_3 (by decide) rfl) (fun z_3 u_1 hp_2 => ?_)
  rcases hp_2 with ⟨hz_4, hu_5, hq_6⟩ | ⟨hz_7, hu_8, hq_9⟩
  ·
    subst hz_4
    subst hu_5
    refine ⟨rfl, ?_⟩
    refine S_w (ws' := [(h0, ob 2 (uF (uF (uF f 1 (iv (sk T n a))) 2 (iv w)) 4 (iv x))), (ht, ob 6 ft), (hb, ar 160 T), (hc, ar 160 C)]) rfl ?_
    refine S_if_eq (tgt := 18) X dX2_readClause_6 (by decide) (by decide) (fun _ => ?_) (fun h9 => absurd h9 (by decide))
    refine S_aload_n X dX2_readClause_18 rfl rfl ?_
    refine S_calli X (kX5_fail_2 l h0 ht hb f ft T n (sk T n a) w x hf0 hf1 hf2) (is := [0, 1, 2]) rfl (run_U X lkX2_36_2 0 rfl rfl (is := [0, 1, 2]) (avs := []) (rest := []) rfl rfl (nle rfl) ⟨nle rfl, nle rfl⟩ ⟨nle rfl, nle rfl⟩ dX2_readClause_19 (by decide) rfl) (fun z_13 u_11 hp_12 => ?_)
    obtain ⟨hz_14, hu_15⟩ := hp_12
    subst hz_14
    subst hu_15
    refine ⟨rfl, ?_⟩
    refine S_w (ws' := [(h0, ob 2 (uF (uF (uF f 1 (iv (sk T n a))) 2 (iv (sk T n a))) 4 (iv x))), (ht, ob 6 ft), (hb, ar 160 T), (hc, ar 160 C)]) rfl ?_
    exact S_zret X (Or.inl rfl) (nle rfl) (nle rfl) dX2_readClause_22 (hPo _ _ (Or.inl ⟨_, _, _, _, rfl, rfl, lc_y hq_6⟩))
  ·
    subst hz_7
    subst hu_8
    refine ⟨rfl, ?_⟩
    refine S_w (ws' := [(h0, ob 2 (uF (uF (uF f 1 (iv (sk T n a + 1))) 2 (iv w)) 4 (iv x))), (ht, ob 6 ft), (hb, ar 160 T), (hc, ar 160 C)]) rfl ?_
    have hlt1 : sk T n a < n := ch_lt (T := T) (by omega)
    have hsk2 := sk_in (T := T) (n := n) (a := sk T n a + 1) (by omega)
    refine S_if_eq (tgt := 18) X dX2_readClause_6 (by decide) (by decide) (fun h9 => absurd h9 (by decide)) (fun _ => ?_)
    refine S_aload_n X dX2_readClause_9 rfl rfl ?_
    refine S_bipush X dX2_readClause_10 rfl ?_
    refine S_calli X (kX5_take_2 l h0 ht hb f ft T n (sk T n a + 1) w x 58 hf0 hf1 hf2 (by omega) (by omega) (by omega)) (is := [0, 1, 2]) rfl (run_U X lkX2_32_2 0 rfl rfl (is := [0, 1, 2]) (avs := [iv 58]) (rest := []) rfl rfl (nle rfl) ⟨nle rfl, nle rfl⟩ ⟨nle rfl, nle rfl⟩ dX2_readClause_12 (by decide) rfl) (fun z_19 u_17 hp_18 => ?_)
    rcases hp_18 with ⟨hz_20, hu_21, hq_22⟩ | ⟨hz_23, hu_24, hq_25⟩
    ·
      subst hz_20
      subst hu_21
      refine ⟨rfl, ?_⟩
      refine S_w (ws' := [(h0, ob 2 (uF (uF (uF f 1 (iv (sk T n (sk T n a + 1)))) 2 (iv w)) 4 (iv x))), (ht, ob 6 ft), (hb, ar 160 T), (hc, ar 160 C)]) rfl ?_
      refine S_if_ne (tgt := 23) X dX2_readClause_15 (by decide) (by decide) (fun h9 => absurd h9 (by decide)) (fun _ => ?_)
      refine S_aload_n X dX2_readClause_18 rfl rfl ?_
      refine S_calli X (kX5_fail_2 l h0 ht hb f ft T n (sk T n (sk T n a + 1)) w x hf0 hf1 hf2) (is := [0, 1, 2]) rfl (run_U X lkX2_36_2 0 rfl rfl (is := [0, 1, 2]) (avs := []) (rest := []) rfl rfl (nle rfl) ⟨nle rfl, nle rfl⟩ ⟨nle rfl, nle rfl⟩ dX2_readClause_19 (by decide) rfl) (fun z_29 u_27 hp_28 => ?_)
      obtain ⟨hz_30, hu_31⟩ := hp_28
      subst hz_30
      subst hu_31
      refine ⟨rfl, ?_⟩
      refine S_w (ws' := [(h0, ob 2 (uF (uF (uF f 1 (iv (sk T n (sk T n a + 1)))) 2 (iv (sk T n (sk T n a + 1)))) 4 (iv x))), (ht, ob 6 ft), (hb, ar 160 T), (hc, ar 160 C)]) rfl ?_
      exact S_zret X (Or.inl rfl) (nle rfl) (nle rfl) dX2_readClause_22 (hPo _ _ (Or.inl ⟨_, _, _, _, rfl, rfl, lc_c hq_9 hq_22⟩))
    ·
      subst hz_23
      subst hu_24
      refine ⟨rfl, ?_⟩
      refine S_w (ws' := [(h0, ob 2 (uF (uF (uF f 1 (iv (sk T n (sk T n a + 1) + 1))) 2 (iv w)) 4 (iv x))), (ht, ob 6 ft), (hb, ar 160 T), (hc, ar 160 C)]) rfl ?_
      have hlt2 : sk T n (sk T n a + 1) < n := ch_lt (T := T) (by omega)
      have hsk3 := sk_in (T := T) (n := n) (a := sk T n (sk T n a + 1) + 1) (by omega)
      have hch3 := ch_in (a := (sk T n (sk T n (sk T n a + 1) + 1))) hT (by omega)
      refine S_if_ne (tgt := 23) X dX2_readClause_15 (by decide) (by decide) (fun _ => ?_) (fun h9 => absurd h9 (by decide))
      refine S_aload_n X dX2_readClause_23 rfl rfl ?_
      refine S_calli X (kX5_peek_2 l h0 ht hb f ft T n (sk T n (sk T n a + 1) + 1) w x hf0 hf1 hf2 (by omega) (by omega)) (is := [0, 1, 2]) rfl (run_U X lkX2_40_2 0 rfl rfl (is := [0, 1, 2]) (avs := []) (rest := []) rfl rfl (nle rfl) ⟨nle rfl, nle rfl⟩ ⟨nle rfl, nle rfl⟩ dX2_readClause_24 (by decide) rfl) (fun z_35 u_33 hp_34 => ?_)
      obtain ⟨hz_36, hu_37⟩ := hp_34
      subst hz_36
      subst hu_37
      refine ⟨rfl, ?_⟩
      refine S_w (ws' := [(h0, ob 2 (uF (uF (uF f 1 (iv (sk T n (sk T n (sk T n a + 1) + 1)))) 2 (iv w)) 4 (iv x))), (ht, ob 6 ft), (hb, ar 160 T), (hc, ar 160 C)]) rfl ?_
      refine S_istore_n X dX2_readClause_27 rfl (nle rfl) ?_
      refine S_iload_n X dX2_readClause_28 rfl rfl ?_
      refine S_bipush X dX2_readClause_29 rfl ?_
      refine S_icmp_eq (tgt := 40) X dX2_readClause_31 (by decide) (by omega) (by decide) (fun c_38 => ?_) (fun c_38 => ?_)
      ·
        refine S_aload_n X dX2_readClause_40 rfl rfl ?_
        refine S_iconst X dX2_readClause_41 ?_
        refine S_calli X ((law_cond l) h0 ht hb f ft T n (sk T n (sk T n (sk T n a + 1) + 1)) w x hc C 0 hf0 hf1 hf2 hf3 (by omega) (by omega) (by (try simp only [List.length_append, List.length_singleton, Int.natCast_add, Int.natCast_one]); omega) (by omega) (by omega)) (is := [0, 1, 2, 3]) rfl (run_V X lkX2_44 0 rfl rfl (is := [0, 1, 2, 3]) (avs := [iv 0]) (rest := []) rfl rfl (nle rfl) ⟨nle rfl, nle rfl⟩ ⟨nle rfl, nle rfl⟩ dX2_readClause_42 (by decide) rfl) (fun z_41 u_39 hp_40 => ?_)
        rcases hp_40 with ⟨a2_42, fl_43, x2_44, C2_45, hz_46, hu_47, hq_48⟩ | ⟨a2_49, ts_50, hz_51, hu_52, hq_53⟩
        ·
          subst hz_46
          subst hu_47
          refine ⟨rfl, ?_⟩
          refine S_w (ws' := [(h0, ob 2 (uF (uF (uF f 1 (iv a2_42)) 2 (iv fl_43)) 4 (iv x2_44))), (ht, ob 6 ft), (hb, ar 160 T), (hc, ar 160 C2_45)]) rfl ?_
          refine S_if_eq (tgt := 59) X dX2_readClause_45 (by decide) (by decide) (fun _ => ?_) (fun h9 => absurd h9 (by decide))
          refine S_iconst X dX2_readClause_59 ?_
          exact S_zret X (Or.inl rfl) (nle rfl) (nle rfl) dX2_readClause_60 (hPo _ _ (Or.inl ⟨_, _, _, _, rfl, rfl, lc_kf hq_9 hq_25  (by omega) hq_48⟩))
        ·
          subst hz_51
          subst hu_52
          refine ⟨rfl, ?_⟩
          refine S_w (ws' := [(h0, ob 2 (uF (uF (uF f 1 (iv a2_49)) 2 (iv w)) 4 (iv (x + (ts_50.length : Int))))), (ht, ob 6 ft), (hb, ar 160 T), (hc, ar 160 (wrL C x ts_50))]) rfl ?_
          refine S_w (ws' := [(h0, ob 2 (uF (uF (uF f 1 (iv a2_49)) 2 (iv w)) 4 (iv (x + ((ts_50).length : Int))))), (ht, ob 6 ft), (hb, ar 160 T), (hc, ar 160 (wrL C x (ts_50)))]) (by simp only [wrL_app, wrL, List.length_append, List.length_singleton, Int.natCast_add, Int.natCast_one, Int.add_assoc, List.append_assoc]) ?_
          have ho_55 := (pCond_ok (T := T) hn1 6 (sk T n (sk T n (sk T n a + 1) + 1)) (by omega) (by omega)).2 _ hq_53
          dsimp only at ho_55
          refine S_if_eq (tgt := 59) X dX2_readClause_45 (by decide) (by decide) (fun h9 => absurd h9 (by decide)) (fun _ => ?_)
          refine S_aload_n X dX2_readClause_48 rfl rfl ?_
          refine S_calli X (kX2_sumBehindCondition l h0 ht hb f ft T n a2_49 w x hc C ts_50 hf0 hf1 hf2 hf3 (by omega) (by omega) (by (try simp only [List.length_append, List.length_singleton, Int.natCast_add, Int.natCast_one]); omega)) (is := [0, 1, 2, 3]) rfl (run_V X lkX2_47 0 rfl rfl (is := [0, 1, 2, 3]) (avs := []) (rest := []) rfl rfl (nle rfl) ⟨nle rfl, nle rfl⟩ ⟨nle rfl, nle rfl⟩ dX2_readClause_49 (by decide) rfl) (fun z_59 u_57 hp_58 => ?_)
          rcases hp_58 with ⟨a2_60, fl_61, x2_62, C2_63, hz_64, hu_65, hq_66⟩ | ⟨a2_67, ts_68, hz_69, hu_70, hq_71⟩
          ·
            subst hz_64
            subst hu_65
            refine ⟨rfl, ?_⟩
            refine S_w (ws' := [(h0, ob 2 (uF (uF (uF f 1 (iv a2_60)) 2 (iv fl_61)) 4 (iv x2_62))), (ht, ob 6 ft), (hb, ar 160 T), (hc, ar 160 C2_63)]) rfl ?_
            refine S_if_eq (tgt := 59) X dX2_readClause_52 (by decide) (by decide) (fun _ => ?_) (fun h9 => absurd h9 (by decide))
            refine S_iconst X dX2_readClause_59 ?_
            exact S_zret X (Or.inl rfl) (nle rfl) (nle rfl) dX2_readClause_60 (hPo _ _ (Or.inl ⟨_, _, _, _, rfl, rfl, (lc_k hq_9 hq_25  (by omega) hq_53).trans hq_66⟩))
          ·
            subst hz_69
            subst hu_70
            refine ⟨rfl, ?_⟩
            refine S_w (ws' := [(h0, ob 2 (uF (uF (uF f 1 (iv a2_67)) 2 (iv w)) 4 (iv (x + ((ts_68).length : Int))))), (ht, ob 6 ft), (hb, ar 160 T), (hc, ar 160 (wrL C x (ts_68)))]) rfl ?_
            refine S_if_eq (tgt := 59) X dX2_readClause_52 (by decide) (by decide) (fun h9 => absurd h9 (by decide)) (fun _ => ?_)
            refine S_iconst X dX2_readClause_55 ?_
            refine S_goto (tgt := 60) X dX2_readClause_56 (by decide) ?_
            exact S_zret X (Or.inr rfl) (nle rfl) (nle rfl) dX2_readClause_60 (hPo _ _ (Or.inr ⟨_, ts_68, rfl, rfl, (lc_k hq_9 hq_25  (by omega) hq_53).trans hq_71⟩))
      ·
        refine S_iload_n X dX2_readClause_34 rfl rfl ?_
        refine S_bipush X dX2_readClause_35 rfl ?_
        refine S_icmp_ne (tgt := 61) X dX2_readClause_37 (by decide) (by omega) (by decide) (fun c_74 => ?_) (fun c_74 => ?_)
        ·
          refine S_aload_n X dX2_readClause_61 rfl rfl ?_
          refine S_iconst X dX2_readClause_62 ?_
          refine S_calli X ((law_sum l) h0 ht hb f ft T n (sk T n (sk T n (sk T n a + 1) + 1)) w x hc C 0 hf0 hf1 hf2 hf3 (by omega) (by omega) (by (try simp only [List.length_append, List.length_singleton, Int.natCast_add, Int.natCast_one]); omega) (by omega) (by omega)) (is := [0, 1, 2, 3]) rfl (run_V X lkX2_50 0 rfl rfl (is := [0, 1, 2, 3]) (avs := [iv 0]) (rest := []) rfl rfl (nle rfl) ⟨nle rfl, nle rfl⟩ ⟨nle rfl, nle rfl⟩ dX2_readClause_63 (by decide) rfl) (fun z_77 u_75 hp_76 => ?_)
          rcases hp_76 with ⟨a2_78, fl_79, x2_80, C2_81, hz_82, hu_83, hq_84⟩ | ⟨a2_85, ts_86, hz_87, hu_88, hq_89⟩
          ·
            subst hz_82
            subst hu_83
            refine ⟨rfl, ?_⟩
            refine S_w (ws' := [(h0, ob 2 (uF (uF (uF f 1 (iv a2_78)) 2 (iv fl_79)) 4 (iv x2_80))), (ht, ob 6 ft), (hb, ar 160 T), (hc, ar 160 C2_81)]) rfl ?_
            refine S_if_ne (tgt := 71) X dX2_readClause_66 (by decide) (by decide) (fun h9 => absurd h9 (by decide)) (fun _ => ?_)
            refine S_iconst X dX2_readClause_69 ?_
            exact S_zret X (Or.inl rfl) (nle rfl) (nle rfl) dX2_readClause_70 (hPo _ _ (Or.inl ⟨_, _, _, _, rfl, rfl, lc_sf hq_9 hq_25  (by omega) hq_84⟩))
          ·
            subst hz_87
            subst hu_88
            refine ⟨rfl, ?_⟩
            refine S_w (ws' := [(h0, ob 2 (uF (uF (uF f 1 (iv a2_85)) 2 (iv w)) 4 (iv (x + (ts_86.length : Int))))), (ht, ob 6 ft), (hb, ar 160 T), (hc, ar 160 (wrL C x ts_86))]) rfl ?_
            refine S_w (ws' := [(h0, ob 2 (uF (uF (uF f 1 (iv a2_85)) 2 (iv w)) 4 (iv (x + ((ts_86).length : Int))))), (ht, ob 6 ft), (hb, ar 160 T), (hc, ar 160 (wrL C x (ts_86)))]) (by simp only [wrL_app, wrL, List.length_append, List.length_singleton, Int.natCast_add, Int.natCast_one, Int.add_assoc, List.append_assoc]) ?_
            have ho_91 := ((pAS_ok (T := T) hn1 6).2 (sk T n (sk T n (sk T n a + 1) + 1)) (by omega) (by omega)).2 _ hq_89
            dsimp only at ho_91
            have hsk4 := sk_in (T := T) (n := n) (a := a2_85) (by omega)
            have hch4 := ch_in (a := sk T n a2_85) hT (by omega)
            refine S_if_ne (tgt := 71) X dX2_readClause_66 (by decide) (by decide) (fun _ => ?_) (fun h9 => absurd h9 (by decide))
            refine S_aload_n X dX2_readClause_71 rfl rfl ?_
            refine S_calli X (kX5_peek_2 l h0 ht hb f ft T n a2_85 w (x + ((ts_86).length : Int)) hf0 hf1 hf2 (by omega) (by omega)) (is := [0, 1, 2]) rfl (run_U X lkX2_40_2 0 rfl rfl (is := [0, 1, 2]) (avs := []) (rest := []) rfl rfl (nle rfl) ⟨nle rfl, nle rfl⟩ ⟨nle rfl, nle rfl⟩ dX2_readClause_72 (by decide) rfl) (fun z_95 u_93 hp_94 => ?_)
            obtain ⟨hz_96, hu_97⟩ := hp_94
            subst hz_96
            subst hu_97
            refine ⟨rfl, ?_⟩
            refine S_w (ws' := [(h0, ob 2 (uF (uF (uF f 1 (iv (sk T n a2_85))) 2 (iv w)) 4 (iv (x + ((ts_86).length : Int))))), (ht, ob 6 ft), (hb, ar 160 T), (hc, ar 160 (wrL C x (ts_86)))]) rfl ?_
            refine S_calli X (kX2_isComparison l (ch T n (sk T n a2_85)) (by omega)) (is := []) rfl (run_S X lkX2_53 (is := []) (avs := [iv (ch T n (sk T n a2_85))]) (rest := []) rfl rfl (nle rfl) ⟨nle rfl, nle rfl⟩ ⟨nle rfl, nle rfl⟩ dX2_readClause_75 (by decide) rfl) (fun z_100 u_98 hp_99 => ?_)
            rcases hp_99 with ⟨hz_101, hu_102, hq_103⟩ | ⟨hz_104, hu_105, hq_106⟩
            ·
              subst hz_101
              subst hu_102
              refine ⟨rfl, ?_⟩
              refine S_w (ws' := [(h0, ob 2 (uF (uF (uF f 1 (iv (sk T n a2_85))) 2 (iv w)) 4 (iv (x + ((ts_86).length : Int))))), (ht, ob 6 ft), (hb, ar 160 T), (hc, ar 160 (wrL C x (ts_86)))]) rfl ?_
              refine S_if_ne (tgt := 88) X dX2_readClause_78 (by decide) (by decide) (fun h9 => absurd h9 (by decide)) (fun _ => ?_)
              refine S_aload_n X dX2_readClause_81 rfl rfl ?_
              refine S_bipush X dX2_readClause_82 rfl ?_
              refine S_calli X (kX2_emit l h0 f (sk T n a2_85) w (x + ((ts_86).length : Int)) hc (wrL C x (ts_86)) (-59) hf3 (by (try simp only [List.length_append, List.length_singleton, Int.natCast_add, Int.natCast_one]); omega)) (is := [0, 3]) rfl (run_V X lkX2_56 0 rfl rfl (is := [0, 3]) (avs := [iv (-59)]) (rest := []) rfl rfl (nle rfl) ⟨nle rfl, nle rfl⟩ ⟨nle rfl, nle rfl⟩ dX2_readClause_84 (by decide) rfl) (fun z_110 u_108 hp_109 => ?_)
              obtain ⟨hz_111, hu_112⟩ := hp_109
              subst hz_111
              subst hu_112
              refine ⟨rfl, ?_⟩
              refine S_w (ws' := [(h0, ob 2 (uF (uF (uF f 1 (iv (sk T n a2_85))) 2 (iv w)) 4 (iv ((x + ((ts_86).length : Int)) + 1)))), (ht, ob 6 ft), (hb, ar 160 T), (hc, ar 160 (uZ (wrL C x (ts_86)) (x + ((ts_86).length : Int)) (-59)))]) rfl ?_
              refine S_w (ws' := [(h0, ob 2 (uF (uF (uF f 1 (iv (sk T n a2_85))) 2 (iv w)) 4 (iv (x + ((ts_86 ++ [-59]).length : Int))))), (ht, ob 6 ft), (hb, ar 160 T), (hc, ar 160 (wrL C x (ts_86 ++ [-59])))]) (by simp only [wrL_app, wrL, List.length_append, List.length_singleton, Int.natCast_add, Int.natCast_one, Int.add_assoc, List.append_assoc]) ?_
              exact S_zret X (Or.inr rfl) (nle rfl) (nle rfl) dX2_readClause_87 (hPo _ _ (Or.inr ⟨_, ts_86 ++ [-59], rfl, rfl, lc_s hq_9 hq_25  (by omega) hq_89 (by assumption)⟩))
            ·
              subst hz_104
              subst hu_105
              refine ⟨rfl, ?_⟩
              refine S_w (ws' := [(h0, ob 2 (uF (uF (uF f 1 (iv (sk T n a2_85))) 2 (iv w)) 4 (iv (x + ((ts_86).length : Int))))), (ht, ob 6 ft), (hb, ar 160 T), (hc, ar 160 (wrL C x (ts_86)))]) rfl ?_
              refine S_if_ne (tgt := 88) X dX2_readClause_78 (by decide) (by decide) (fun _ => ?_) (fun h9 => absurd h9 (by decide))
              refine S_aload_n X dX2_readClause_88 rfl rfl ?_
              refine S_iconst X dX2_readClause_89 ?_
              refine S_calli X ((law_cm6 l) h0 ht hb f ft T n (sk T n a2_85) w (x + ((ts_86).length : Int)) hc (wrL C x (ts_86)) 0 hf0 hf1 hf2 hf3 (by omega) (by omega) (by (try simp only [List.length_append, List.length_singleton, Int.natCast_add, Int.natCast_one]); omega) (by omega) (by omega)) (is := [0, 1, 2, 3]) rfl (run_V X lkX2_59 0 rfl rfl (is := [0, 1, 2, 3]) (avs := [iv 0]) (rest := []) rfl rfl (nle rfl) ⟨nle rfl, nle rfl⟩ ⟨nle rfl, nle rfl⟩ dX2_readClause_90 (by decide) rfl) (fun z_116 u_114 hp_115 => ?_)
              rcases hp_115 with ⟨a2_117, fl_118, x2_119, C2_120, hz_121, hu_122, hq_123⟩ | ⟨a2_124, ts_125, hz_126, hu_127, hq_128⟩
              ·
                subst hz_121
                subst hu_122
                refine ⟨rfl, ?_⟩
                refine S_w (ws' := [(h0, ob 2 (uF (uF (uF f 1 (iv a2_117)) 2 (iv fl_118)) 4 (iv x2_119))), (ht, ob 6 ft), (hb, ar 160 T), (hc, ar 160 C2_120)]) rfl ?_
                refine S_if_eq (tgt := 115) X dX2_readClause_93 (by decide) (by decide) (fun _ => ?_) (fun h9 => absurd h9 (by decide))
                refine S_iconst X dX2_readClause_115 ?_
                exact S_zret X (Or.inl rfl) (nle rfl) (nle rfl) dX2_readClause_116 (hPo _ _ (Or.inl ⟨_, _, _, _, rfl, rfl, (lc_q hq_9 hq_25  (by omega) hq_89 (by assumption)).trans (lc_qf hq_123)⟩))
              ·
                subst hz_126
                subst hu_127
                refine ⟨rfl, ?_⟩
                refine S_w (ws' := [(h0, ob 2 (uF (uF (uF f 1 (iv a2_124)) 2 (iv w)) 4 (iv ((x + ((ts_86).length : Int)) + (ts_125.length : Int))))), (ht, ob 6 ft), (hb, ar 160 T), (hc, ar 160 (wrL (wrL C x (ts_86)) (x + ((ts_86).length : Int)) ts_125))]) rfl ?_
                refine S_w (ws' := [(h0, ob 2 (uF (uF (uF f 1 (iv a2_124)) 2 (iv w)) 4 (iv (x + ((ts_86 ++ ts_125).length : Int))))), (ht, ob 6 ft), (hb, ar 160 T), (hc, ar 160 (wrL C x (ts_86 ++ ts_125)))]) (by simp only [wrL_app, wrL, List.length_append, List.length_singleton, Int.natCast_add, Int.natCast_one, Int.add_assoc, List.append_assoc]) ?_
                have ho_130 := (cmpG_ok (T := T) hn1 6 (sk T n a2_85) (by omega) (by omega)).2 _ hq_128
                dsimp only at ho_130
                refine S_if_eq (tgt := 115) X dX2_readClause_93 (by decide) (by decide) (fun h9 => absurd h9 (by decide)) (fun _ => ?_)
                refine S_aload_n X dX2_readClause_96 rfl rfl ?_
                refine S_iconst X dX2_readClause_97 ?_
                refine S_calli X ((law_more l) h0 ht hb f ft T n a2_124 w x hc C 0 (ts_86 ++ ts_125) hf0 hf1 hf2 hf3 (by omega) (by omega) (by (try simp only [List.length_append, List.length_singleton, Int.natCast_add, Int.natCast_one]); omega) (by omega) (by omega)) (is := [0, 1, 2, 3]) rfl (run_V X lkX2_62 0 rfl rfl (is := [0, 1, 2, 3]) (avs := [iv 0]) (rest := []) rfl rfl (nle rfl) ⟨nle rfl, nle rfl⟩ ⟨nle rfl, nle rfl⟩ dX2_readClause_98 (by decide) rfl) (fun z_134 u_132 hp_133 => ?_)
                rcases hp_133 with ⟨a2_135, fl_136, x2_137, C2_138, hz_139, hu_140, hq_141⟩ | ⟨a2_142, ts_143, hz_144, hu_145, hq_146⟩
                ·
                  subst hz_139
                  subst hu_140
                  refine ⟨rfl, ?_⟩
                  refine S_w (ws' := [(h0, ob 2 (uF (uF (uF f 1 (iv a2_135)) 2 (iv fl_136)) 4 (iv x2_137))), (ht, ob 6 ft), (hb, ar 160 T), (hc, ar 160 C2_138)]) rfl ?_
                  refine S_if_eq (tgt := 115) X dX2_readClause_101 (by decide) (by decide) (fun _ => ?_) (fun h9 => absurd h9 (by decide))
                  refine S_iconst X dX2_readClause_115 ?_
                  exact S_zret X (Or.inl rfl) (nle rfl) (nle rfl) dX2_readClause_116 (hPo _ _ (Or.inl ⟨_, _, _, _, rfl, rfl, ((lc_q hq_9 hq_25  (by omega) hq_89 (by assumption)).trans (lc_qm hq_128)).trans (lc_mf hq_141)⟩))
                ·
                  subst hz_144
                  subst hu_145
                  refine ⟨rfl, ?_⟩
                  refine S_w (ws' := [(h0, ob 2 (uF (uF (uF f 1 (iv a2_142)) 2 (iv w)) 4 (iv (x + ((ts_143).length : Int))))), (ht, ob 6 ft), (hb, ar 160 T), (hc, ar 160 (wrL C x (ts_143)))]) rfl ?_
                  have ho_147 := (moreL_ok (T := T) (n := n) (a0 := (sk T n (sk T n (sk T n a + 1) + 1))) (pUnit_ok (T := T) hn1 6) (by omega) 161 false a2_124 (ts_86 ++ ts_125) (by omega) (by omega) (by simp only [List.length_append, Int.natCast_add, Bool.false_eq_true, if_false]; omega) (by simp only [List.length_append]; omega) (ok_app ho_91.2.2.2.2 ho_130.2.2.2.2)).2 _ hq_146
                  dsimp only at ho_147
                  refine S_if_eq (tgt := 115) X dX2_readClause_101 (by decide) (by decide) (fun h9 => absurd h9 (by decide)) (fun _ => ?_)
                  refine S_aload_n X dX2_readClause_104 rfl rfl ?_
                  refine S_calli X (kX2_sumBehindCondition l h0 ht hb f ft T n a2_142 w x hc C ts_143 hf0 hf1 hf2 hf3 (by omega) (by omega) (by (try simp only [List.length_append, List.length_singleton, Int.natCast_add, Int.natCast_one]); omega)) (is := [0, 1, 2, 3]) rfl (run_V X lkX2_47 0 rfl rfl (is := [0, 1, 2, 3]) (avs := []) (rest := []) rfl rfl (nle rfl) ⟨nle rfl, nle rfl⟩ ⟨nle rfl, nle rfl⟩ dX2_readClause_105 (by decide) rfl) (fun z_151 u_149 hp_150 => ?_)
                  rcases hp_150 with ⟨a2_152, fl_153, x2_154, C2_155, hz_156, hu_157, hq_158⟩ | ⟨a2_159, ts_160, hz_161, hu_162, hq_163⟩
                  ·
                    subst hz_156
                    subst hu_157
                    refine ⟨rfl, ?_⟩
                    refine S_w (ws' := [(h0, ob 2 (uF (uF (uF f 1 (iv a2_152)) 2 (iv fl_153)) 4 (iv x2_154))), (ht, ob 6 ft), (hb, ar 160 T), (hc, ar 160 C2_155)]) rfl ?_
                    refine S_if_eq (tgt := 115) X dX2_readClause_108 (by decide) (by decide) (fun _ => ?_) (fun h9 => absurd h9 (by decide))
                    refine S_iconst X dX2_readClause_115 ?_
                    exact S_zret X (Or.inl rfl) (nle rfl) (nle rfl) dX2_readClause_116 (hPo _ _ (Or.inl ⟨_, _, _, _, rfl, rfl, (((lc_q hq_9 hq_25  (by omega) hq_89 (by assumption)).trans (lc_qm hq_128)).trans (lc_m hq_146)).trans hq_158⟩))
                  ·
                    subst hz_161
                    subst hu_162
                    refine ⟨rfl, ?_⟩
                    refine S_w (ws' := [(h0, ob 2 (uF (uF (uF f 1 (iv a2_159)) 2 (iv w)) 4 (iv (x + ((ts_160).length : Int))))), (ht, ob 6 ft), (hb, ar 160 T), (hc, ar 160 (wrL C x (ts_160)))]) rfl ?_
                    refine S_if_eq (tgt := 115) X dX2_readClause_108 (by decide) (by decide) (fun h9 => absurd h9 (by decide)) (fun _ => ?_)
                    refine S_iconst X dX2_readClause_111 ?_
                    refine S_goto (tgt := 116) X dX2_readClause_112 (by decide) ?_
                    exact S_zret X (Or.inr rfl) (nle rfl) (nle rfl) dX2_readClause_116 (hPo _ _ (Or.inr ⟨_, ts_160, rfl, rfl, (((lc_q hq_9 hq_25  (by omega) hq_89 (by assumption)).trans (lc_qm hq_128)).trans (lc_m hq_146)).trans hq_163⟩))
        ·
          refine S_aload_n X dX2_readClause_40 rfl rfl ?_
          refine S_iconst X dX2_readClause_41 ?_
          refine S_calli X ((law_cond l) h0 ht hb f ft T n (sk T n (sk T n (sk T n a + 1) + 1)) w x hc C 0 hf0 hf1 hf2 hf3 (by omega) (by omega) (by (try simp only [List.length_append, List.length_singleton, Int.natCast_add, Int.natCast_one]); omega) (by omega) (by omega)) (is := [0, 1, 2, 3]) rfl (run_V X lkX2_44 0 rfl rfl (is := [0, 1, 2, 3]) (avs := [iv 0]) (rest := []) rfl rfl (nle rfl) ⟨nle rfl, nle rfl⟩ ⟨nle rfl, nle rfl⟩ dX2_readClause_42 (by decide) rfl) (fun z_168 u_166 hp_167 => ?_)
          rcases hp_167 with ⟨a2_169, fl_170, x2_171, C2_172, hz_173, hu_174, hq_175⟩ | ⟨a2_176, ts_177, hz_178, hu_179, hq_180⟩
          ·
            subst hz_173
            subst hu_174
            refine ⟨rfl, ?_⟩
            refine S_w (ws' := [(h0, ob 2 (uF (uF (uF f 1 (iv a2_169)) 2 (iv fl_170)) 4 (iv x2_171))), (ht, ob 6 ft), (hb, ar 160 T), (hc, ar 160 C2_172)]) rfl ?_
            refine S_if_eq (tgt := 59) X dX2_readClause_45 (by decide) (by decide) (fun _ => ?_) (fun h9 => absurd h9 (by decide))
            refine S_iconst X dX2_readClause_59 ?_
            exact S_zret X (Or.inl rfl) (nle rfl) (nle rfl) dX2_readClause_60 (hPo _ _ (Or.inl ⟨_, _, _, _, rfl, rfl, lc_kf hq_9 hq_25  (by omega) hq_175⟩))
          ·
            subst hz_178
            subst hu_179
            refine ⟨rfl, ?_⟩
            refine S_w (ws' := [(h0, ob 2 (uF (uF (uF f 1 (iv a2_176)) 2 (iv w)) 4 (iv (x + (ts_177.length : Int))))), (ht, ob 6 ft), (hb, ar 160 T), (hc, ar 160 (wrL C x ts_177))]) rfl ?_
            refine S_w (ws' := [(h0, ob 2 (uF (uF (uF f 1 (iv a2_176)) 2 (iv w)) 4 (iv (x + ((ts_177).length : Int))))), (ht, ob 6 ft), (hb, ar 160 T), (hc, ar 160 (wrL C x (ts_177)))]) (by simp only [wrL_app, wrL, List.length_append, List.length_singleton, Int.natCast_add, Int.natCast_one, Int.add_assoc, List.append_assoc]) ?_
            have ho_182 := (pCond_ok (T := T) hn1 6 (sk T n (sk T n (sk T n a + 1) + 1)) (by omega) (by omega)).2 _ hq_180
            dsimp only at ho_182
            refine S_if_eq (tgt := 59) X dX2_readClause_45 (by decide) (by decide) (fun h9 => absurd h9 (by decide)) (fun _ => ?_)
            refine S_aload_n X dX2_readClause_48 rfl rfl ?_
            refine S_calli X (kX2_sumBehindCondition l h0 ht hb f ft T n a2_176 w x hc C ts_177 hf0 hf1 hf2 hf3 (by omega) (by omega) (by (try simp only [List.length_append, List.length_singleton, Int.natCast_add, Int.natCast_one]); omega)) (is := [0, 1, 2, 3]) rfl (run_V X lkX2_47 0 rfl rfl (is := [0, 1, 2, 3]) (avs := []) (rest := []) rfl rfl (nle rfl) ⟨nle rfl, nle rfl⟩ ⟨nle rfl, nle rfl⟩ dX2_readClause_49 (by decide) rfl) (fun z_186 u_184 hp_185 => ?_)
            rcases hp_185 with ⟨a2_187, fl_188, x2_189, C2_190, hz_191, hu_192, hq_193⟩ | ⟨a2_194, ts_195, hz_196, hu_197, hq_198⟩
            ·
              subst hz_191
              subst hu_192
              refine ⟨rfl, ?_⟩
              refine S_w (ws' := [(h0, ob 2 (uF (uF (uF f 1 (iv a2_187)) 2 (iv fl_188)) 4 (iv x2_189))), (ht, ob 6 ft), (hb, ar 160 T), (hc, ar 160 C2_190)]) rfl ?_
              refine S_if_eq (tgt := 59) X dX2_readClause_52 (by decide) (by decide) (fun _ => ?_) (fun h9 => absurd h9 (by decide))
              refine S_iconst X dX2_readClause_59 ?_
              exact S_zret X (Or.inl rfl) (nle rfl) (nle rfl) dX2_readClause_60 (hPo _ _ (Or.inl ⟨_, _, _, _, rfl, rfl, (lc_k hq_9 hq_25  (by omega) hq_180).trans hq_193⟩))
            ·
              subst hz_196
              subst hu_197
              refine ⟨rfl, ?_⟩
              refine S_w (ws' := [(h0, ob 2 (uF (uF (uF f 1 (iv a2_194)) 2 (iv w)) 4 (iv (x + ((ts_195).length : Int))))), (ht, ob 6 ft), (hb, ar 160 T), (hc, ar 160 (wrL C x (ts_195)))]) rfl ?_
              refine S_if_eq (tgt := 59) X dX2_readClause_52 (by decide) (by decide) (fun h9 => absurd h9 (by decide)) (fun _ => ?_)
              refine S_iconst X dX2_readClause_55 ?_
              refine S_goto (tgt := 60) X dX2_readClause_56 (by decide) ?_
              exact S_zret X (Or.inr rfl) (nle rfl) (nle rfl) dX2_readClause_60 (hPo _ _ (Or.inr ⟨_, ts_195, rfl, rfl, (lc_k hq_9 hq_25  (by omega) hq_180).trans hq_198⟩))
set_option maxHeartbeats 4000000 in
set_option maxRecDepth 100000 in
theorem kX5_read_2 (l : Launch) (h0 : Nat) (ht : Nat) (hb : Nat) (f : Nat → AV) (ft : Nat → AV) (T : Int → Int) (n : Int) (a : Int) (w : Int) (x : Int) (hc : Nat) (C : Int → Int) (hf0 : f 0 = rv ht) (hf1 : ft 0 = rv hb) (hf2 : ft 1 = iv n) (hf3 : f 3 = rv hc) (hT : okT T n) : AMi l yX5_read cX5_read 3 .int 31 0 0 [rv h0] [(h0, ob 2 (uF (uF (uF f 1 (iv a)) 2 (iv w)) 4 (iv x))), (ht, ob 6 ft), (hb, ar 160 T), (hc, ar 160 C)] (fun z u => (∃ a2 : Int, ∃ fl : Int, ∃ x2 : Int, ∃ C2 : Int → Int, z = fl ∧ u = [(h0, ob 2 (uF (uF (uF f 1 (iv a2)) 2 (iv fl)) 4 (iv x2))), (ht, ob 6 ft), (hb, ar 160 T), (hc, ar 160 C2)] ∧ lwRes T n = .inl fl ∧ (0 ≤ fl ∧ fl ≤ 160)) ∨ (∃ a2 : Int, ∃ ts : List Int, z = -1 ∧ u = [(h0, ob 2 (uF (uF (uF f 1 (iv a2)) 2 (iv (-1))) 4 (iv (0 + ((ts).length : Int))))), (ht, ob 6 ft), (hb, ar 160 T), (hc, ar 160 (wrL C 0 (ts)))] ∧ lwRes T n = .inr ts ∧ (ts.length : Int) ≤ 160 ∧ (∀ t ∈ ts, -200 ≤ t ∧ t ≤ 9999))) := by
  refine AMi.of2 rfl (nle rfl) ?_
  intro D G A p e s m args below meth c Po hPo X
  obtain ⟨hn0, hn1, hT2⟩ := id hT
  refine S_aload_n X dX5_read_0 rfl rfl ?_
  refine S_iconst X dX5_read_1 ?_
  refine S_put X fpX5_15_2 0 rfl FT_i dX5_read_2 ?_
  refine S_w (ws' := [(h0, ob 2 (uF (uF (uF f 1 (iv 0)) 2 (iv w)) 4 (iv x))), (ht, ob 6 ft), (hb, ar 160 T), (hc, ar 160 C)]) (by simp only [List.set]; rw [uF_mv (j := 4) (k := 1) (by decide), uF_mv (j := 2) (k := 1) (by decide), uF_same (k := 1)]) ?_
  refine S_aload_n X dX5_read_5 rfl rfl ?_
  refine S_iconst X dX5_read_6 ?_
  refine S_put X fpX5_19_2 0 rfl FT_i dX5_read_7 ?_
  refine S_w (ws' := [(h0, ob 2 (uF (uF (uF f 1 (iv 0)) 2 (iv (-1))) 4 (iv x))), (ht, ob 6 ft), (hb, ar 160 T), (hc, ar 160 C)]) (by simp only [List.set]; rw [uF_mv (j := 4) (k := 2) (by decide), uF_same (k := 2)]) ?_
  refine S_aload_n X dX5_read_10 rfl rfl ?_
  refine S_callv X (kX2_clear l h0 f 0 (-1) x ) (is := [0]) rfl (run_A X lkX5_22_2 0 rfl rfl (is := [0]) (avs := []) (rest := []) rfl rfl (nle rfl) ⟨nle rfl, nle rfl⟩ ⟨nle rfl, nle rfl⟩ dX5_read_11 (by decide) rfl) (fun u_1 hp_2 => ?_)
  have hu_5 := hp_2
  subst hu_5
  refine ⟨rfl, ?_⟩
  refine S_w (ws' := [(h0, ob 2 (uF (uF (uF f 1 (iv 0)) 2 (iv (-1))) 4 (iv 0))), (ht, ob 6 ft), (hb, ar 160 T), (hc, ar 160 C)]) rfl ?_
  refine S_iconst X dX5_read_14 ?_
  refine S_istore_n X dX5_read_15 rfl (nle rfl) ?_
  refine S_iconst X dX5_read_16 ?_
  refine S_istore_n X dX5_read_17 rfl (nle rfl) ?_
  refine S_iload_n X dX5_read_18 rfl rfl ?_
  refine S_if_eq (tgt := 55) X dX5_read_19 (by decide) (by decide) (fun h9 => absurd h9 (by decide)) (fun _ => ?_)
  have lp22_0 : ∀ (N : Nat) (i : Int) (a1 : Int) (acc : List Int) (L : Nat → Option AV), 0 ≤ i ∧ i ≤ 161 ∧ 0 ≤ a1 ∧ a1 ≤ n → (acc.length : Int) ≤ a1 → (∀ t ∈ acc, -200 ≤ t ∧ t ≤ 9999) → (∀ z9, pLawL T n (161 - i.toNat) a1 acc = z9 → pLawL T n 161 0 [] = z9) → L 0 = some (rv h0) → L 1 = some (iv 1) → L 2 = some (iv i) → 162 - i < (N : Int) → S_ p l e (rmD 31 0 0) s m args below meth c (MQ below (QcI D G A Po) args s 0 0 A) D G A 3 0 0 22 L [] [(h0, ob 2 (uF (uF (uF f 1 (iv a1)) 2 (iv (-1))) 4 (iv (0 + ((acc).length : Int))))), (ht, ob 6 ft), (hb, ar 160 T), (hc, ar 160 (wrL C 0 (acc)))] := by
    intro N
    induction N with
    | zero =>
      intro i a1 acc L22 hi hbd hac hk hL22_0 hL22_1 hL22_2 hN22
      exfalso; omega
    | succ N ih22 =>
      intro i a1 acc L22 hi hbd hac hk hL22_0 hL22_1 hL22_2 hN22
      refine S_iload_n X dX5_read_22 rfl hL22_2 ?_
      refine S_sipush X dX5_read_23 rfl ?_
      refine S_icmp_gt (tgt := 55) X dX5_read_26 (by decide) (by omega) (by decide) (fun c_7 => ?_) (fun c_7 => ?_)
      ·
        refine S_aload_n X dX5_read_55 rfl hL22_0 ?_
        refine S_get (v := iv (-1)) X fgX5_19_2 0 rfl rfl dX5_read_56 ?_
        refine S_iconst X dX5_read_59 ?_
        refine S_icmp_ne (tgt := 81) X dX5_read_60 (by decide) (by decide) (by decide) (fun h9 => absurd h9 (by decide)) (fun _ => ?_)
        refine S_aload_n X dX5_read_63 rfl hL22_0 ?_
        refine S_calli X (kX2_isWhole l h0 ) (is := []) rfl (run_A X lkX5_34_2 0 rfl rfl (is := []) (avs := []) (rest := []) rfl rfl (nle rfl) ⟨nle rfl, nle rfl⟩ ⟨nle rfl, nle rfl⟩ dX5_read_64 (by decide) rfl) (fun z_11 u_9 hp_10 => ?_)
        obtain ⟨hz_12, hu_13⟩ := hp_10
        subst hz_12
        subst hu_13
        refine ⟨rfl, ?_⟩
        refine S_w (ws' := [(h0, ob 2 (uF (uF (uF f 1 (iv a1)) 2 (iv (-1))) 4 (iv (0 + ((acc).length : Int))))), (ht, ob 6 ft), (hb, ar 160 T), (hc, ar 160 (wrL C 0 (acc)))]) rfl ?_
        refine S_if_ne (tgt := 81) X dX5_read_67 (by decide) (by decide) (fun _ => ?_) (fun h9 => absurd h9 (by decide))
        refine S_aload_n X dX5_read_81 rfl hL22_0 ?_
        refine S_get (v := iv (-1)) X fgX5_19_2 0 rfl rfl dX5_read_82 ?_
        exact S_iret X (nle rfl) (nle rfl) dX5_read_85 (hPo _ _ (Or.inr ⟨_, acc, rfl, rfl, lwRes_r (hk (.inr (a1, acc)) (by rw [show 161 - i.toNat = 0 by omega]; rfl)), by omega, hac⟩))
      ·
        refine S_aload_n X dX5_read_29 rfl hL22_0 ?_
        refine S_calli X (kX2_readClause l h0 ht hb f ft T n a1 (-1) (0 + ((acc).length : Int)) hc (wrL C 0 (acc)) hf0 hf1 hf2 hf3 (by omega) (by omega) (by omega)) (is := [0, 1, 2, 3]) rfl (run_A X lkX5_27_2 0 rfl rfl (is := [0, 1, 2, 3]) (avs := []) (rest := []) rfl rfl (nle rfl) ⟨nle rfl, nle rfl⟩ ⟨nle rfl, nle rfl⟩ dX5_read_30 (by decide) rfl) (fun z_17 u_15 hp_16 => ?_)
        rcases hp_16 with ⟨a2_18, fl_19, x2_20, C2_21, hz_22, hu_23, hq_24⟩ | ⟨a2_25, ts_26, hz_27, hu_28, hq_29⟩
        ·
          subst hz_22
          subst hu_23
          refine ⟨rfl, ?_⟩
          refine S_w (ws' := [(h0, ob 2 (uF (uF (uF f 1 (iv a2_18)) 2 (iv fl_19)) 4 (iv x2_20))), (ht, ob 6 ft), (hb, ar 160 T), (hc, ar 160 C2_21)]) rfl ?_
          have hin := (pLawC_ok (T := T) hn1 (a := a1) (by omega) (by omega)).1 _ hq_24
          refine S_if_eq (tgt := 47) X dX5_read_33 (by decide) (by decide) (fun _ => ?_) (fun h9 => absurd h9 (by decide))
          refine S_iconst X dX5_read_47 ?_
          refine S_istore_n X dX5_read_48 rfl (nle rfl) ?_
          refine S_iinc X dX5_read_49 (nle rfl) hL22_2 ?_
          refine S_goto (tgt := 18) X dX5_read_52 (by decide) ?_
          refine S_iload_n X dX5_read_18 rfl rfl ?_
          refine S_if_eq (tgt := 55) X dX5_read_19 (by decide) (by decide) (fun _ => ?_) (fun h9 => absurd h9 (by decide))
          refine S_aload_n X dX5_read_55 rfl hL22_0 ?_
          refine S_get (v := iv fl_19) X fgX5_19_2 0 rfl rfl dX5_read_56 ?_
          refine S_iconst X dX5_read_59 ?_
          refine S_icmp_ne (tgt := 81) X dX5_read_60 (by decide) (by omega) (by decide) (fun c_32 => ?_) (fun c_32 => by exfalso; omega)
          refine S_aload_n X dX5_read_81 rfl hL22_0 ?_
          refine S_get (v := iv fl_19) X fgX5_19_2 0 rfl rfl dX5_read_82 ?_
          exact S_iret X (nle rfl) (nle rfl) dX5_read_85 (hPo _ _ (Or.inl ⟨_, _, _, _, rfl, rfl, lwRes_f (hk (.inl _) (by rw [fuel161 (by omega) (by omega)]; exact ll_f hq_24)), by omega⟩))
        ·
          subst hz_27
          subst hu_28
          refine ⟨rfl, ?_⟩
          refine S_w (ws' := [(h0, ob 2 (uF (uF (uF f 1 (iv a2_25)) 2 (iv (-1))) 4 (iv ((0 + ((acc).length : Int)) + (ts_26.length : Int))))), (ht, ob 6 ft), (hb, ar 160 T), (hc, ar 160 (wrL (wrL C 0 (acc)) (0 + ((acc).length : Int)) ts_26))]) rfl ?_
          refine S_w (ws' := [(h0, ob 2 (uF (uF (uF f 1 (iv a2_25)) 2 (iv (-1))) 4 (iv (0 + ((acc ++ ts_26).length : Int))))), (ht, ob 6 ft), (hb, ar 160 T), (hc, ar 160 (wrL C 0 (acc ++ ts_26)))]) (by simp only [wrL_app, wrL, List.length_append, List.length_singleton, Int.natCast_add, Int.natCast_one, Int.add_assoc, List.append_assoc, Int.zero_add]) ?_
          have hin := (pLawC_ok (T := T) hn1 (a := a1) (by omega) (by omega)).2 _ hq_29
          dsimp only at hin
          have hsk := sk_in (T := T) (n := n) hin.2.1
          refine S_if_eq (tgt := 47) X dX5_read_33 (by decide) (by decide) (fun h9 => absurd h9 (by decide)) (fun _ => ?_)
          refine S_aload_n X dX5_read_36 rfl hL22_0 ?_
          refine S_calli X (kX5_nextClause_2 l h0 ht hb f ft T n a2_25 (-1) (0 + ((acc ++ ts_26).length : Int)) hf0 hf1 hf2 (by omega) (by omega)) (is := [0, 1, 2]) rfl (run_U X lkX5_31_2 0 rfl rfl (is := [0, 1, 2]) (avs := []) (rest := []) rfl rfl (nle rfl) ⟨nle rfl, nle rfl⟩ ⟨nle rfl, nle rfl⟩ dX5_read_37 (by decide) rfl) (fun z_36 u_34 hp_35 => ?_)
          rcases hp_35 with ⟨hz_37, hu_38, hq_39⟩ | ⟨a2_40, fl_41, hz_42, hu_43, hq_44, hr_45, hs_46⟩ | ⟨a2_47, hz_48, hu_49, hq_50, hr_51⟩
          ·
            subst hz_37
            subst hu_38
            refine ⟨rfl, ?_⟩
            refine S_w (ws' := [(h0, ob 2 (uF (uF (uF f 1 (iv (sk T n a2_25))) 2 (iv (-1))) 4 (iv (0 + ((acc ++ ts_26).length : Int))))), (ht, ob 6 ft), (hb, ar 160 T), (hc, ar 160 (wrL C 0 (acc ++ ts_26)))]) rfl ?_
            refine S_if_eq (tgt := 47) X dX5_read_40 (by decide) (by decide) (fun _ => ?_) (fun h9 => absurd h9 (by decide))
            refine S_iconst X dX5_read_47 ?_
            refine S_istore_n X dX5_read_48 rfl (nle rfl) ?_
            refine S_iinc X dX5_read_49 (nle rfl) hL22_2 ?_
            refine S_goto (tgt := 18) X dX5_read_52 (by decide) ?_
            refine S_iload_n X dX5_read_18 rfl rfl ?_
            refine S_if_eq (tgt := 55) X dX5_read_19 (by decide) (by decide) (fun _ => ?_) (fun h9 => absurd h9 (by decide))
            refine S_aload_n X dX5_read_55 rfl hL22_0 ?_
            refine S_get (v := iv (-1)) X fgX5_19_2 0 rfl rfl dX5_read_56 ?_
            refine S_iconst X dX5_read_59 ?_
            refine S_icmp_ne (tgt := 81) X dX5_read_60 (by decide) (by decide) (by decide) (fun h9 => absurd h9 (by decide)) (fun _ => ?_)
            refine S_aload_n X dX5_read_63 rfl hL22_0 ?_
            refine S_calli X (kX2_isWhole l h0 ) (is := []) rfl (run_A X lkX5_34_2 0 rfl rfl (is := []) (avs := []) (rest := []) rfl rfl (nle rfl) ⟨nle rfl, nle rfl⟩ ⟨nle rfl, nle rfl⟩ dX5_read_64 (by decide) rfl) (fun z_57 u_55 hp_56 => ?_)
            obtain ⟨hz_58, hu_59⟩ := hp_56
            subst hz_58
            subst hu_59
            refine ⟨rfl, ?_⟩
            refine S_w (ws' := [(h0, ob 2 (uF (uF (uF f 1 (iv (sk T n a2_25))) 2 (iv (-1))) 4 (iv (0 + ((acc ++ ts_26).length : Int))))), (ht, ob 6 ft), (hb, ar 160 T), (hc, ar 160 (wrL C 0 (acc ++ ts_26)))]) rfl ?_
            refine S_if_ne (tgt := 81) X dX5_read_67 (by decide) (by decide) (fun _ => ?_) (fun h9 => absurd h9 (by decide))
            refine S_aload_n X dX5_read_81 rfl hL22_0 ?_
            refine S_get (v := iv (-1)) X fgX5_19_2 0 rfl rfl dX5_read_82 ?_
            exact S_iret X (nle rfl) (nle rfl) dX5_read_85 (hPo _ _ (Or.inr ⟨_, acc ++ ts_26, rfl, rfl, lwRes_r (hk (.inr (_, acc ++ ts_26)) (by rw [fuel161 (by omega) (by omega)]; exact ll_e hq_29 hq_39)), by simp only [List.length_append, Int.natCast_add]; omega, ok_app hac hin.2.2.2⟩))
          ·
            subst hz_42
            subst hu_43
            refine ⟨rfl, ?_⟩
            refine S_w (ws' := [(h0, ob 2 (uF (uF (uF f 1 (iv a2_40)) 2 (iv fl_41)) 4 (iv (0 + ((acc ++ ts_26).length : Int))))), (ht, ob 6 ft), (hb, ar 160 T), (hc, ar 160 (wrL C 0 (acc ++ ts_26)))]) rfl ?_
            refine S_if_eq (tgt := 47) X dX5_read_40 (by decide) (by decide) (fun _ => ?_) (fun h9 => absurd h9 (by decide))
            refine S_iconst X dX5_read_47 ?_
            refine S_istore_n X dX5_read_48 rfl (nle rfl) ?_
            refine S_iinc X dX5_read_49 (nle rfl) hL22_2 ?_
            refine S_goto (tgt := 18) X dX5_read_52 (by decide) ?_
            refine S_iload_n X dX5_read_18 rfl rfl ?_
            refine S_if_eq (tgt := 55) X dX5_read_19 (by decide) (by decide) (fun _ => ?_) (fun h9 => absurd h9 (by decide))
            refine S_aload_n X dX5_read_55 rfl hL22_0 ?_
            refine S_get (v := iv fl_41) X fgX5_19_2 0 rfl rfl dX5_read_56 ?_
            refine S_iconst X dX5_read_59 ?_
            refine S_icmp_ne (tgt := 81) X dX5_read_60 (by decide) (by omega) (by decide) (fun c_63 => ?_) (fun c_63 => by exfalso; omega)
            refine S_aload_n X dX5_read_81 rfl hL22_0 ?_
            refine S_get (v := iv fl_41) X fgX5_19_2 0 rfl rfl dX5_read_82 ?_
            exact S_iret X (nle rfl) (nle rfl) dX5_read_85 (hPo _ _ (Or.inl ⟨_, _, _, _, rfl, rfl, by rw [hs_46]; exact lwRes_f (hk (.inl _) (by rw [fuel161 (by omega) (by omega)]; exact ll_n hq_29 hq_44.1 hq_44.2)), by omega⟩))
          ·
            subst hz_48
            subst hu_49
            refine ⟨rfl, ?_⟩
            refine S_w (ws' := [(h0, ob 2 (uF (uF (uF f 1 (iv a2_47)) 2 (iv (-1))) 4 (iv (0 + ((acc ++ ts_26).length : Int))))), (ht, ob 6 ft), (hb, ar 160 T), (hc, ar 160 (wrL C 0 (acc ++ ts_26)))]) rfl ?_
            have hlt : sk T n a2_25 < n := ch_lt (T := T) (by omega)
            refine S_if_eq (tgt := 47) X dX5_read_40 (by decide) (by decide) (fun h9 => absurd h9 (by decide)) (fun _ => ?_)
            refine S_iconst X dX5_read_43 ?_
            refine S_goto (tgt := 48) X dX5_read_44 (by decide) ?_
            refine S_istore_n X dX5_read_48 rfl (nle rfl) ?_
            refine S_iinc X dX5_read_49 (nle rfl) hL22_2 ?_
            refine S_goto (tgt := 18) X dX5_read_52 (by decide) ?_
            refine S_iload_n X dX5_read_18 rfl rfl ?_
            refine S_if_eq (tgt := 55) X dX5_read_19 (by decide) (by decide) (fun h9 => absurd h9 (by decide)) (fun _ => ?_)
            exact ih22 (i + 1) a2_47 (acc ++ ts_26) _ (by omega) (by simp only [List.length_append, Int.natCast_add]; omega) (ok_app hac hin.2.2.2) (fun z9 h9 => hk z9 (by rw [fuel161 (by omega) (by omega), ll_g hq_29 hq_50]; rw [hr_51] at h9; exact h9)) hL22_0 rfl rfl (by omega)
  exact lp22_0 (Int.toNat (162 - 0) + 1) 0 0 ([]) _ (by omega) (by simp) (fun t h9 => absurd h9 List.not_mem_nil) (fun _ h9 => h9) rfl rfl rfl (by omega)
