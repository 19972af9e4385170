set_option maxRecDepth 100000 in
set_option maxHeartbeats 4000000 in
theorem qZ12_damp (l : Launch) (b : Nat → Nat) (w : Nat → Int) (h : Nat → Int → Int) (y1 : Int) (hp0 : w 21 = 0) : AMi l yX12_damp cX12_damp 2 .int 6 0 0 [rv (b 0), iv y1] (RW b w h) (fun z u => z = -1 ∧ u = RW b w h) := by
  refine AMi.of2 rfl (nle rfl) ?_
  intro D G A p e s m args below meth c Po hPo X
  refine S_aload_n X dX12_damp_0 rfl rfl ?_
  refine S_get (v := iv (w 21)) X fgX12_253_11 0 rfl rfl dX12_damp_1 ?_
  refine S_if_le (tgt := 26) X dX12_damp_4 (by decide) (by omega) (fun _ => ?_) (fun h9 => by exfalso; omega)
  refine S_iconst X dX12_damp_26 ?_
  exact S_iret X (nle rfl) (nle rfl) dX12_damp_27 (hPo _ _ ⟨rfl, rfl⟩)
set_option maxRecDepth 100000 in
set_option maxHeartbeats 4000000 in
theorem qZ12_day (l : Launch) (b : Nat → Nat) (w : Nat → Int) (h : Nat → Int → Int) (y1 : Int) (hp0 : w 21 = 0) : AMi l yX12_day cX12_day 3 .int 6 0 0 [rv (b 0), iv y1] (RW b w h) (fun z u => z = -1 ∧ u = RW b w h) := by
  refine AMi.of2 rfl (nle rfl) ?_
  intro D G A p e s m args below meth c Po hPo X
  refine S_aload_n X dX12_day_0 rfl rfl ?_
  refine S_get (v := iv (w 21)) X fgX12_253_11 0 rfl rfl dX12_day_1 ?_
  refine S_if_eq (tgt := 31) X dX12_day_4 (by decide) (by omega) (fun _ => ?_) (fun h9 => by exfalso; omega)
  refine S_iconst X dX12_day_31 ?_
  exact S_iret X (nle rfl) (nle rfl) dX12_day_32 (hPo _ _ ⟨rfl, rfl⟩)
set_option maxRecDepth 100000 in
set_option maxHeartbeats 4000000 in
theorem qZ12_week (l : Launch) (b : Nat → Nat) (w : Nat → Int) (h : Nat → Int → Int) (y1 : Int) (hp0 : w 21 = 0) : AMi l yX12_week cX12_week 3 .int 13 0 0 [rv (b 0), iv y1] (RW b w h) (fun z u => z = -1 ∧ u = RW b w h) := by
  refine AMi.of2 rfl (nle rfl) ?_
  intro D G A p e s m args below meth c Po hPo X
  refine S_aload_n X dX12_week_0 rfl rfl ?_
  refine S_get (v := iv (w 21)) X fgX12_253_11 0 rfl rfl dX12_week_1 ?_
  refine S_if_eq (tgt := 29) X dX12_week_4 (by decide) (by omega) (fun _ => ?_) (fun h9 => by exfalso; omega)
  refine S_iconst X dX12_week_29 ?_
  exact S_iret X (nle rfl) (nle rfl) dX12_week_30 (hPo _ _ ⟨rfl, rfl⟩)
set_option maxRecDepth 100000 in
set_option maxHeartbeats 4000000 in
theorem qZ12_gift (l : Launch) (b : Nat → Nat) (w : Nat → Int) (h : Nat → Int → Int) (y1 : Int) (hp0 : w 21 = 0) : AMi l yX12_gift cX12_gift 7 .int 6 0 0 [rv (b 0), iv y1] (RW b w h) (fun z u => z = -1 ∧ u = RW b w h) := by
  refine AMi.of2 rfl (nle rfl) ?_
  intro D G A p e s m args below meth c Po hPo X
  refine S_aload_n X dX12_gift_0 rfl rfl ?_
  refine S_get (v := iv (w 21)) X fgX12_253_11 0 rfl rfl dX12_gift_1 ?_
  refine S_if_eq (tgt := 26) X dX12_gift_4 (by decide) (by omega) (fun _ => ?_) (fun h9 => by exfalso; omega)
  refine S_iconst X dX12_gift_26 ?_
  exact S_iret X (nle rfl) (nle rfl) dX12_gift_27 (hPo _ _ ⟨rfl, rfl⟩)
set_option maxRecDepth 100000 in
set_option maxHeartbeats 4000000 in
theorem qZ12_odds (l : Launch) (b : Nat → Nat) (w : Nat → Int) (h : Nat → Int → Int) (y1 y2 : Int) (hp0 : w 21 = 0) (r1 : inR y1) : AMi l yX12_odds cX12_odds 3 .int 14 0 0 [rv (b 0), iv y1, iv y2] (RW b w h) (fun z u => z = -1 ∧ u = RW b w h) := by
  refine AMi.of2 rfl (nle rfl) ?_
  intro D G A p e s m args below meth c Po hPo X
  refine S_aload_n X dX12_odds_0 rfl rfl ?_
  refine S_iload_n X dX12_odds_1 rfl rfl ?_
  refine S_calli X (kX12_isPlayer l (b 0) (o11 b w) (w 21) y1 rfl (by omega) r1) (is := [0]) rfl (run_V X lkX12_281 0 rfl rfl (is := [0]) (avs := [iv y1]) (rest := []) rfl rfl (nle rfl) ⟨nle rfl, nle rfl⟩ ⟨nle rfl, nle rfl⟩ dX12_odds_2 (by decide) rfl) (fun z u hq => ?_)
  rcases hq with ⟨hz, hu, hq⟩ | ⟨hz, hu, hq⟩
  · subst hz
    subst hu
    refine ⟨rfl, ?_⟩
    refine S_w (ws' := RW b w h) rfl ?_
    refine S_if_eq (tgt := 28) X dX12_odds_5 (by decide) (by decide) (fun _ => ?_) (fun h9 => absurd rfl h9)
    refine S_iconst X dX12_odds_28 ?_
    exact S_iret X (nle rfl) (nle rfl) dX12_odds_29 (hPo _ _ ⟨rfl, rfl⟩)
  · exfalso
    omega
