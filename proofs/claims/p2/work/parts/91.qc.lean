def QX11_feed (a : Nat → Nat) (v : Nat → Int) (g : Nat → Int → Int) (R : Int → Int → Int) (ds : List LwS) (ys : Nat → LwY) (y1 y2 y3 y4 y5 : Int) (z : Int) (u : EW) : Prop := (z = -1 ∧ u = CW a v g R ds ys ∧ 160 < (v 4) + fbn y1 y2 y3 y4 y5) ∨ (∃ n2 : Int, ∃ T2 : Int → Int, z = n2 ∧ u = CW a (uF v 4 n2) (uF g 21 T2) R ds ys ∧ (v 4) + fbn y1 y2 y3 y4 y5 ≤ 160 ∧ n2 = (v 4) + fbn y1 y2 y3 y4 y5 ∧ T2 = wrL (g 21) (v 4) (fbs y1 y2 y3 y4 y5))
set_option maxRecDepth 100000 in
set_option maxHeartbeats 4000000 in
theorem qX11_feed (l : Launch) (a : Nat → Nat) (v : Nat → Int) (g : Nat → Int → Int) (R : Int → Int → Int) (ds : List LwS) (ys : Nat → LwY) (y1 y2 y3 y4 y5 : Int) (hn : 0 ≤ (v 4) ∧ (v 4) ≤ 160) : AMi l yX11_feed cX11_feed 7 .int 1 0 0 [rv (a 19), iv y1, iv y2, iv y3, iv y4, iv y5] (CW a v g R ds ys) (QX11_feed a v g R ds ys y1 y2 y3 y4 y5) := by
  have hk := (kX11_feed l (a 19) (a 20) (a 21) (o10 a v) (o6 a v) (g 21) (v 4) y1 y2 y3 y4 y5 rfl rfl hn)
  simp only [Po6_1, uF_self] at hk
  refine AMi.gL (wl := CF a v g R ds) (is := [19, 20, 21]) [0, 1, 2, 3, 4, 5, 6, 7, 8, 9, 10, 11, 12, 13, 14, 15, 16, 17, 18, 22, 23, 24, 25, 26, 27, 28, 29, 30, 31, 32, 33, 34, 35, 36, 37, 38, 39, 40, 41, 42, 43, 44] 45 hk rfl rfl (by decide +kernel) (by decide +kernel) (fun z u hq => ?_)
  rcases hq with ⟨hz, hu, hq⟩ | ⟨n2, T2, hz, hu, hq, h2, h3⟩
  · subst hu
    exact ⟨rfl, CF a v g R ds, rfl, rfl, CF_rest (by decide) rfl, Or.inl ⟨hz, rfl, hq⟩⟩
  · subst hu
    exact ⟨rfl, CF a (uF v 4 n2) (uF g 21 T2) R ds, rfl, rfl, CF_rest (by decide) rfl, Or.inr (⟨n2, T2, hz, rfl, hq, h2, h3⟩)⟩
def QX11_end (a : Nat → Nat) (v : Nat → Int) (g : Nat → Int → Int) (R : Int → Int → Int) (ds : List LwS) (ys : Nat → LwY) (y1 : Int) (z : Int) (u : EW) : Prop := (z = 0 ∧ u = CW a v g R ds ys ∧ (¬ (0 ≤ y1 ∧ y1 ≤ (v 4)))) ∨ (z = 1 ∧ u = CW a (uF v 4 y1) g R ds ys ∧ (0 ≤ y1 ∧ y1 ≤ (v 4)))
set_option maxRecDepth 100000 in
set_option maxHeartbeats 4000000 in
theorem qX11_end (l : Launch) (a : Nat → Nat) (v : Nat → Int) (g : Nat → Int → Int) (R : Int → Int → Int) (ds : List LwS) (ys : Nat → LwY) (y1 : Int) (hn : 0 ≤ (v 4) ∧ (v 4) ≤ 160) (hm : inR y1) : AMi l yX11_end cX11_end 2 .boolean 0 0 0 [rv (a 19), iv y1] (CW a v g R ds ys) (QX11_end a v g R ds ys y1) := by
  have hk := (kX11_end l (a 19) (a 20) (o10 a v) (o6 a v) (v 4) y1 rfl hn hm)
  simp only [Po6_1, uF_self] at hk
  refine AMi.gL (wl := CF a v g R ds) (is := [19, 20]) [0, 1, 2, 3, 4, 5, 6, 7, 8, 9, 10, 11, 12, 13, 14, 15, 16, 17, 18, 21, 22, 23, 24, 25, 26, 27, 28, 29, 30, 31, 32, 33, 34, 35, 36, 37, 38, 39, 40, 41, 42, 43, 44] 45 hk rfl rfl (by decide +kernel) (by decide +kernel) (fun z u hq => ?_)
  rcases hq with ⟨hz, hu, hq⟩ | ⟨hz, hu, hq⟩
  · subst hu
    exact ⟨rfl, CF a v g R ds, rfl, rfl, CF_rest (by decide) rfl, Or.inl ⟨hz, rfl, hq⟩⟩
  · subst hu
    exact ⟨rfl, CF a (uF v 4 y1) g R ds, rfl, rfl, CF_rest (by decide) rfl, Or.inr (⟨hz, rfl, hq⟩)⟩
