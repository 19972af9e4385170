def QX12_player (b : Nat → Nat) (w : Nat → Int) (h : Nat → Int → Int) (y1 y2 : Int) (z : Int) (u : EW) : Prop := (z = 0 ∧ u = RW b (uF w 0 1) h ∧ (¬ ((0 ≤ y1 ∧ y1 < (w 21)) ∧ 0 ≤ y2 ∧ y2 ≤ 6))) ∨ (∃ z9 : Int, z = z9 ∧ u = RW b (uF w 0 0) h ∧ ((0 ≤ y1 ∧ y1 < (w 21)) ∧ 0 ≤ y2 ∧ y2 ≤ 6) ∧ z9 = plR (h 20) (h 23) (h 24) y1 y2)
set_option maxRecDepth 100000 in
set_option maxHeartbeats 4000000 in
theorem qX12_player (l : Launch) (b : Nat → Nat) (w : Nat → Int) (h : Nat → Int → Int) (y1 y2 : Int) (hpl : 0 ≤ (w 21) ∧ (w 21) ≤ 6) (hx_pp : inR y1) (hx_v : inR y2) : AMi l yX12_player cX12_player 3 .int 2 0 0 [rv (b 0), iv y1, iv y2] (RW b w h) (QX12_player b w h y1 y2) := by
  have hk := (kX12_player l (b 0) (o11 b w) (w 21) (b 20) (b 23) (b 24) (h 20) (h 23) (h 24) (w 0) y1 y2 rfl rfl rfl rfl hpl hx_pp hx_v)
  simp only [Po11_0, uF_self] at hk
  refine AMi.gE (is := [0, 12, 13, 14]) [1, 2, 3, 4, 5, 6, 7, 8, 9, 10, 11, 15, 16, 17, 18, 19, 20, 21, 22, 23, 24, 25, 26, 27] 28 hk rfl rfl (by decide +kernel) (by decide +kernel) (fun z u hq => ?_)
  rcases hq with ⟨hz, hu, hq⟩ | ⟨z9, hz, hu, hq, hz9⟩
  · subst hu
    exact ⟨rfl, RW b (uF w 0 1) h, rfl, rfl, RW_rest (by decide) rfl, Or.inl ⟨hz, rfl, hq⟩⟩
  · subst hu
    exact ⟨rfl, RW b (uF w 0 0) h, rfl, rfl, RW_rest (by decide) rfl, Or.inr (⟨z9, hz, rfl, hq, hz9⟩)⟩
section P2
variable {a b : Nat → Nat} {v : Nat → Int} {g : Nat → Int → Int} {R : Int → Int → Int} {ds : List LwS} {ys : Nat → LwY} {w : Nat → Int} {h : Nat → Int → Int} {z y y1 y2 y3 y4 y5 : Int} {u u2 : EW}
theorem pr_time (hI : Inv v g ds ys w h) (h1 : QX11_time a v g R ds ys y1 y2 y3 z u) (h2 : QX12_time b w h y1 y2 y3 y u2) : PR a b u u2 := by
  obtain ⟨hT, hL, hS, hW, hD, hR, hM, hK⟩ := hI
  obtain ⟨p9_a, n9_a, k9_a, A2_a, T2_a, W2_a, S2_a, hz_a, hu_a⟩ := h1
  obtain ⟨A2_b, M2_b, W2_b, hz_b, hu_b⟩ := h2
  exact ⟨_, _, _, _, _, _, _, hu_a, hu_b, hT, hL, hS, hW, hD, hR, hM, hK⟩
theorem pr_spread (hI : Inv v g ds ys w h) (h1 : QX11_spread a v g R ds ys y1 z u) (h2 : QX12_spread b w h y1 y u2) : PR a b u u2 := by
  obtain ⟨hT, hL, hS, hW, hD, hR, hM, hK⟩ := hI
  obtain ⟨p9_a, n9_a, k9_a, A2_a, T2_a, W2_a, S2_a, hz_a, hu_a⟩ := h1
  obtain ⟨A2_b, M2_b, W2_b, hz_b, hu_b⟩ := h2
  exact ⟨_, _, _, _, _, _, _, hu_a, hu_b, hT, hL, hS, hW, hD, hR, hM, hK⟩
theorem pr_worst (hI : Inv v g ds ys w h) (h1 : QX11_worst a v g R ds ys y1 z u) (h2 : QX12_worst b w h y1 y u2) : PR a b u u2 := by
  obtain ⟨hT, hL, hS, hW, hD, hR, hM, hK⟩ := hI
  obtain ⟨p9_a, n9_a, k9_a, A2_a, T2_a, W2_a, S2_a, hz_a, hu_a⟩ := h1
  obtain ⟨A2_b, M2_b, W2_b, hz_b, hu_b⟩ := h2
  exact ⟨_, _, _, _, _, _, _, hu_a, hu_b, hT, hL, hS, hW, hD, hR, hM, hK⟩
theorem pr_parts (hI : Inv v g ds ys w h) (h1 : QX11_parts a v g R ds ys  z u) (h2 : QX12_parts b w h  y u2) : PR a b u u2 := by
  obtain ⟨hT, hL, hS, hW, hD, hR, hM, hK⟩ := hI
  obtain ⟨p9_a, n9_a, k9_a, A2_a, T2_a, W2_a, S2_a, hz_a, hu_a⟩ := h1
  obtain ⟨A2_b, M2_b, W2_b, hz_b, hu_b⟩ := h2
  exact ⟨_, _, _, _, _, _, _, hu_a, hu_b, hT, hL, hS, hW, hD, hR, hM, hK⟩
theorem pr_last (hI : Inv v g ds ys w h) (h1 : QX11_last a v g R ds ys y1 z u) (h2 : QX12_last b w h y1 y u2) : PR a b u u2 := by
  obtain ⟨hT, hL, hS, hW, hD, hR, hM, hK⟩ := hI
  obtain ⟨p9_a, n9_a, k9_a, A2_a, T2_a, W2_a, S2_a, hz_a, hu_a⟩ := h1
  obtain ⟨A2_b, M2_b, W2_b, hz_b, hu_b⟩ := h2
  exact ⟨_, _, _, _, _, _, _, hu_a, hu_b, hT, hL, hS, hW, hD, hR, hM, hK⟩
theorem pr_settle (hI : Inv v g ds ys w h) (h1 : QX11_settle a v g R ds ys y1 z u) (h2 : QX12_settle b w h y1 y u2) : PR a b u u2 := by
  obtain ⟨hT, hL, hS, hW, hD, hR, hM, hK⟩ := hI
  obtain ⟨z9_a, p9_a, n9_a, k9_a, s6_a, s7_a, A2_a, W2_a, hz_a, hu_a, hs_a⟩ := h1
  obtain ⟨z9_b, A2_b, hz_b, hu_b, hs_b⟩ := h2
  exact ⟨_, _, _, _, _, _, _, hu_a, hu_b, hT, hL, hS, hW, hD, hR, hM, hK⟩
theorem pr_ring (hI : Inv v g ds ys w h) (h1 : QX11_ring a v g R ds ys y1 z u) (h2 : QX12_ring b w h y1 y u2) : PR a b u u2 := by
  obtain ⟨hT, hL, hS, hW, hD, hR, hM, hK⟩ := hI
  obtain ⟨hz_a, hu_a⟩ := h1
  obtain ⟨hz_b, hu_b⟩ := h2
  exact ⟨_, _, _, _, _, _, _, hu_a, hu_b, hT, hL, hS, hW, hD, hR, hM, hK⟩
theorem pr_head (hI : Inv v g ds ys w h) (h1 : QX11_head a v g R ds ys y1 z u) (h2 : QX12_head b w h y1 y u2) : PR a b u u2 := by
  obtain ⟨hT, hL, hS, hW, hD, hR, hM, hK⟩ := hI
  obtain ⟨hz_a, hu_a⟩ := h1
  obtain ⟨hz_b, hu_b⟩ := h2
  exact ⟨_, _, _, _, _, _, _, hu_a, hu_b, hT, hL, hS, hW, hD, hR, hM, hK⟩
theorem pr_week (hI : Inv v g ds ys w h) (h1 : QX11_week a v g R ds ys y1 z u) (h2 : (w 21 = 0 ∧ y = -1 ∧ u2 = RW b w h) ∨ (1 ≤ w 21 ∧ QX12_week b w h ds y1 y u2)) : PR a b u u2 := by
  obtain ⟨hT, hL, hS, hW, hD, hR, hM, hK⟩ := hI
  obtain ⟨z9_a, r2_a, l2_a, p9_a, n9_a, k9_a, A2_a, T2_a, W2_a, S2_a, B4_a, B3_a, F3_a, H3_a, L3_a, Kw2_a, t4_a, t5_a, t6_a, t7_a, k2_a, y2_a, hz_a, hu_a, hy2_a, h1_a, h2_a, h3_a⟩ := h1
  obtain ⟨k1, k2, k3⟩ := hL
  rcases h2 with ⟨hp, hz_b, hu_b⟩ | ⟨hp, h2⟩
  · exact ⟨_, _, _, _, _, _, _, hu_a, hu_b, hT, ⟨k1, hy2_a, k3⟩, hS, hW, hD, hR, hM, ⟨h1_a, h2_a, h3_a⟩⟩
  · obtain ⟨r3_b, l3_b, A2_b, M2_b, W2_b, Wb2_b, Wd2_b, L2_b, S2_b, hz_b, hu_b⟩ := h2
    exact ⟨_, _, _, _, _, _, _, hu_a, hu_b, hT, ⟨k1, hy2_a, k3⟩, hS, hW, hD, hR, hM, ⟨h1_a, h2_a, h3_a⟩⟩
theorem pr_leader (hI : Inv v g ds ys w h) (h1 : QX11_leader a v g R ds ys y1 y2 z u) (h2 : QX12_leader b w h y1 y2 y u2) : PR a b u u2 := by
  obtain ⟨hT, hL, hS, hW, hD, hR, hM, hK⟩ := hI
  obtain ⟨p9_a, n9_a, k9_a, A2_a, T2_a, W2_a, S2_a, t4_a, t5_a, t6_a, t7_a, B3_a, F3_a, H3_a, L3_a, hz_a, hu_a⟩ := h1
  obtain ⟨A2_b, M2_b, W2_b, hz_b, hu_b⟩ := h2
  exact ⟨_, _, _, _, _, _, _, hu_a, hu_b, hT, hL, hS, hW, hD, hR, hM, hK⟩
theorem pr_marks (hI : Inv v g ds ys w h) (h1 : QX11_marks a v g R ds ys y1 z u) (h2 : QX12_marks b w h y1 y u2) : PR a b u u2 := by
  obtain ⟨hT, hL, hS, hW, hD, hR, hM, hK⟩ := hI
  obtain ⟨z9_a, p9_a, n9_a, k9_a, A2_a, T2_a, W2_a, S2_a, f2_a, b2_a, Cn2_a, Mm2_a, Sm2_a, hz_a, hu_a, h1_a, h2_a, h3_a, h4_a⟩ := h1
  obtain ⟨z9_b, A2_b, F2_b, B2_b, S2_b, hz_b, hu_b⟩ := h2
  exact ⟨_, _, _, _, _, _, _, hu_a, hu_b, hT, hL, hS, hW, hD, hR, ⟨h1_a, h2_a, h3_a, h4_a⟩, hK⟩
theorem pr_odds (hI : Inv v g ds ys w h) (h1 : QX11_odds a v g R ds ys y1 y2 z u) (h2 : (w 21 = 0 ∧ y = -1 ∧ u2 = RW b w h) ∨ (1 ≤ w 21 ∧ QX12_odds b w h y1 y2 y u2)) : PR a b u u2 := by
  obtain ⟨hT, hL, hS, hW, hD, hR, hM, hK⟩ := hI
  obtain ⟨z9_a, p9_a, n9_a, k9_a, A2_a, T2_a, W2_a, S2_a, t4_a, t5_a, t6_a, t7_a, B3_a, F3_a, H3_a, L3_a, hz_a, hu_a⟩ := h1
  rcases h2 with ⟨hp, hz_b, hu_b⟩ | ⟨hp, h2⟩
  · exact ⟨_, _, _, _, _, _, _, hu_a, hu_b, hT, hL, hS, hW, hD, hR, hM, hK⟩
  · obtain ⟨A2_b, M2_b, W2_b, Wb2_b, hz_b, hu_b⟩ := h2
    exact ⟨_, _, _, _, _, _, _, hu_a, hu_b, hT, hL, hS, hW, hD, hR, hM, hK⟩
theorem pr_paid (hI : Inv v g ds ys w h) (h1 : QX11_paid a v g R ds ys y1 z u) (h2 : QX12_paid b w h y1 y u2) : PR a b u u2 := by
  obtain ⟨hT, hL, hS, hW, hD, hR, hM, hK⟩ := hI
  obtain ⟨z9_a, p9_a, n9_a, k9_a, A2_a, T2_a, W2_a, S2_a, t4_a, t5_a, t6_a, t7_a, B3_a, F3_a, H3_a, L3_a, hz_a, hu_a, hs_a⟩ := h1
  obtain ⟨z9_b, A2_b, M2_b, W2_b, hz_b, hu_b, hs_b⟩ := h2
  exact ⟨_, _, _, _, _, _, _, hu_a, hu_b, hT, hL, hS, hW, hD, hR, hM, hK⟩
theorem pr_fits (hI : Inv v g ds ys w h) (h1 : QX11_fits a v g R ds ys y1 z u) (h2 : QX12_fits b w h y1 y u2) : PR a b u u2 := by
  obtain ⟨hT, hL, hS, hW, hD, hR, hM, hK⟩ := hI
  obtain ⟨p9_a, n9_a, k9_a, A2_a, T2_a, W2_a, S2_a, t4_a, t5_a, t6_a, t7_a, B3_a, F3_a, H3_a, L3_a, hz_a, hu_a⟩ := h1
  obtain ⟨A2_b, M2_b, W2_b, hz_b, hu_b⟩ := h2
  exact ⟨_, _, _, _, _, _, _, hu_a, hu_b, hT, hL, hS, hW, hD, hR, hM, hK⟩
theorem pr_deaf (hI : Inv v g ds ys w h) (h1 : QX11_deaf a v g R ds ys y1 z u) (h2 : QX12_deaf b w h y1 y u2) : PR a b u u2 := by
  obtain ⟨hT, hL, hS, hW, hD, hR, hM, hK⟩ := hI
  obtain ⟨p9_a, n9_a, k9_a, A2_a, T2_a, W2_a, S2_a, t4_a, t5_a, t6_a, t7_a, B3_a, F3_a, H3_a, L3_a, hz_a, hu_a⟩ := h1
  obtain ⟨A2_b, M2_b, W2_b, hz_b, hu_b⟩ := h2
  exact ⟨_, _, _, _, _, _, _, hu_a, hu_b, hT, hL, hS, hW, hD, hR, hM, hK⟩
theorem pr_echoes (hI : Inv v g ds ys w h) (h1 : QX11_echoes a v g R ds ys y1 z u) (h2 : QX12_echoes b w h y1 y u2) : PR a b u u2 := by
  obtain ⟨hT, hL, hS, hW, hD, hR, hM, hK⟩ := hI
  obtain ⟨p9_a, n9_a, k9_a, A2_a, T2_a, W2_a, S2_a, t4_a, t5_a, t6_a, t7_a, B3_a, F3_a, H3_a, L3_a, hz_a, hu_a⟩ := h1
  obtain ⟨A2_b, M2_b, W2_b, hz_b, hu_b⟩ := h2
  exact ⟨_, _, _, _, _, _, _, hu_a, hu_b, hT, hL, hS, hW, hD, hR, hM, hK⟩
theorem pr_gift (hI : Inv v g ds ys w h) (h1 : QX11_gift a v g R ds ys y1 z u) (h2 : (w 21 = 0 ∧ y = -1 ∧ u2 = RW b w h) ∨ (1 ≤ w 21 ∧ QX12_gift b w h ds y1 y u2)) : PR a b u u2 := by
  obtain ⟨hT, hL, hS, hW, hD, hR, hM, hK⟩ := hI
  obtain ⟨z9_a, p9_a, n9_a, k9_a, A2_a, T2_a, W2_a, S2_a, t4_a, t5_a, t6_a, t7_a, B3_a, F3_a, H3_a, L3_a, y2_a, hz_a, hu_a, hy2_a⟩ := h1
  obtain ⟨k1, k2, k3⟩ := hL
  rcases h2 with ⟨hp, hz_b, hu_b⟩ | ⟨hp, h2⟩
  · exact ⟨_, _, _, _, _, _, _, hu_a, hu_b, hT, ⟨k1, hy2_a, k3⟩, hS, hW, hD, hR, hM, hK⟩
  · obtain ⟨A2_b, M2_b, W2_b, Wb2_b, L2_b, S2_b, hz_b, hu_b⟩ := h2
    exact ⟨_, _, _, _, _, _, _, hu_a, hu_b, hT, ⟨k1, hy2_a, k3⟩, hS, hW, hD, hR, hM, hK⟩
theorem pr_tune (hI : Inv v g ds ys w h) (h1 : QX11_tune a v g R ds ys y1 y2 z u) (h2 : QX12_tune b w h y1 y2 y u2) : PR a b u u2 := by
  obtain ⟨hT, hL, hS, hW, hD, hR, hM, hK⟩ := hI
  obtain ⟨z9_a, p9_a, n9_a, k9_a, A2_a, T2_a, W2_a, S2_a, t4_a, t5_a, t6_a, t7_a, B3_a, F3_a, H3_a, L3_a, hz_a, hu_a, hs_a⟩ := h1
  obtain ⟨z9_b, A2_b, M2_b, W2_b, hz_b, hu_b, hs_b⟩ := h2
  exact ⟨_, _, _, _, _, _, _, hu_a, hu_b, hT, hL, hS, hW, hD, hR, hM, hK⟩
theorem pr_place (hI : Inv v g ds ys w h) (h1 : QX11_place a v g R ds ys y1 y2 z u) (h2 : QX12_place b w h y1 y2 y u2) : PR a b u u2 := by
  obtain ⟨hT, hL, hS, hW, hD, hR, hM, hK⟩ := hI
  obtain ⟨p9_a, n9_a, k9_a, A2_a, T2_a, W2_a, S2_a, hz_a, hu_a⟩ := h1
  obtain ⟨A2_b, M2_b, W2_b, hz_b, hu_b⟩ := h2
  exact ⟨_, _, _, _, _, _, _, hu_a, hu_b, hT, hL, hS, hW, hD, hR, hM, hK⟩
theorem pr_overtakes (hI : Inv v g ds ys w h) (h1 : QX11_overtakes a v g R ds ys y1 y2 z u) (h2 : QX12_overtakes b w h y1 y2 y u2) : PR a b u u2 := by
  obtain ⟨hT, hL, hS, hW, hD, hR, hM, hK⟩ := hI
  obtain ⟨p9_a, n9_a, k9_a, A2_a, T2_a, W2_a, S2_a, hz_a, hu_a⟩ := h1
  obtain ⟨A2_b, M2_b, W2_b, hz_b, hu_b⟩ := h2
  exact ⟨_, _, _, _, _, _, _, hu_a, hu_b, hT, hL, hS, hW, hD, hR, hM, hK⟩
theorem pr_middle (hI : Inv v g ds ys w h) (h1 : QX11_middle a v g R ds ys  z u) (h2 : QX12_middle b w h  y u2) : PR a b u u2 := by
  obtain ⟨hT, hL, hS, hW, hD, hR, hM, hK⟩ := hI
  obtain ⟨p9_a, n9_a, k9_a, A2_a, T2_a, W2_a, S2_a, hz_a, hu_a⟩ := h1
  obtain ⟨A2_b, M2_b, W2_b, hz_b, hu_b⟩ := h2
  exact ⟨_, _, _, _, _, _, _, hu_a, hu_b, hT, hL, hS, hW, hD, hR, hM, hK⟩
theorem pr_ends (hI : Inv v g ds ys w h) (h1 : QX11_ends a v g R ds ys y1 z u) (h2 : QX12_ends b w h y1 y u2) : PR a b u u2 := by
  obtain ⟨hT, hL, hS, hW, hD, hR, hM, hK⟩ := hI
  obtain ⟨p9_a, n9_a, k9_a, A2_a, T2_a, W2_a, S2_a, hz_a, hu_a⟩ := h1
  obtain ⟨A2_b, M2_b, W2_b, hz_b, hu_b⟩ := h2
  exact ⟨_, _, _, _, _, _, _, hu_a, hu_b, hT, hL, hS, hW, hD, hR, hM, hK⟩
theorem pr_stray (hI : Inv v g ds ys w h) (h1 : QX11_stray a v g R ds ys y1 y2 z u) (h2 : QX12_stray b w h y1 y2 y u2) : PR a b u u2 := by
  obtain ⟨hT, hL, hS, hW, hD, hR, hM, hK⟩ := hI
  obtain ⟨p9_a, n9_a, k9_a, A2_a, T2_a, W2_a, S2_a, hz_a, hu_a⟩ := h1
  obtain ⟨A2_b, M2_b, W2_b, hz_b, hu_b⟩ := h2
  exact ⟨_, _, _, _, _, _, _, hu_a, hu_b, hT, hL, hS, hW, hD, hR, hM, hK⟩
theorem pr_count (hI : Inv v g ds ys w h) (h1 : QX11_count a v g R ds ys y1 z u) (h2 : QX12_count b w h y1 y u2) : PR a b u u2 := by
  obtain ⟨hT, hL, hS, hW, hD, hR, hM, hK⟩ := hI
  obtain ⟨z9_a, hz_a, hu_a⟩ := h1
  obtain ⟨z9_b, hz_b, hu_b⟩ := h2
  exact ⟨_, _, _, _, _, _, _, hu_a, hu_b, hT, hL, hS, hW, hD, hR, hM, hK⟩
theorem pr_player (hI : Inv v g ds ys w h) (h2 : QX12_player b w h y1 y2 y u2) : ∃ w2 : Nat → Int, u2 = RW b w2 h ∧ Inv v g ds ys w2 h := by
  obtain ⟨hT, hL, hS, hW, hD, hR, hM, hK⟩ := hI
  rcases h2 with ⟨hy, hu2, hp⟩ | ⟨z9, hy, hu2, hp, hp2⟩
  · exact ⟨_, hu2, hT, hL, hS, hW, hD, hR, hM, hK⟩
  · exact ⟨_, hu2, hT, hL, hS, hW, hD, hR, hM, hK⟩
end P2
