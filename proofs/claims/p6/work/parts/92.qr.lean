def QX12_feed (b : Nat → Nat) (w : Nat → Int) (h : Nat → Int → Int) (y1 y2 y3 y4 y5 : Int) (z : Int) (u : EW) : Prop := (z = -1 ∧ u = RW b w h ∧ 160 < (w 2) + fbn y1 y2 y3 y4 y5) ∨ (∃ n2 : Int, ∃ T2 : Int → Int, z = n2 ∧ u = RW b (uF w 2 n2) (uF h 1 T2) ∧ (w 2) + fbn y1 y2 y3 y4 y5 ≤ 160 ∧ n2 = (w 2) + fbn y1 y2 y3 y4 y5 ∧ T2 = wrL (h 1) (w 2) (fbs y1 y2 y3 y4 y5))
set_option maxRecDepth 100000 in
set_option maxHeartbeats 4000000 in
theorem qX12_feed (l : Launch) (b : Nat → Nat) (w : Nat → Int) (h : Nat → Int → Int) (y1 y2 y3 y4 y5 : Int) (hn : 0 ≤ (w 2) ∧ (w 2) ≤ 160) : AMi l yX12_feed cX12_feed 9 .int 1 0 0 [rv (b 0), iv y1, iv y2, iv y3, iv y4, iv y5] (RW b w h) (QX12_feed b w h y1 y2 y3 y4 y5) := by
  have hk := (kX12_feed l (b 0) (o11 b w) (b 1) (w 2) (h 1) y1 y2 y3 y4 y5 rfl hn)
  simp only [Po11_2, uF_self] at hk
  refine AMi.gE (is := [0, 1]) [2, 3, 4, 5, 6, 7, 8, 9, 10, 11, 12, 13, 14, 15, 16, 17, 18, 19, 20, 21, 22, 23, 24, 25, 26, 27] 28 hk rfl rfl (by decide +kernel) (by decide +kernel) (fun z u hq => ?_)
  rcases hq with ⟨hz, hu, hq⟩ | ⟨n2, T2, hz, hu, hq, h2, h3⟩
  · subst hu
    exact ⟨rfl, RW b w h, rfl, rfl, RW_rest (by decide) rfl, Or.inl ⟨hz, rfl, hq⟩⟩
  · subst hu
    exact ⟨rfl, RW b (uF w 2 n2) (uF h 1 T2), rfl, rfl, RW_rest (by decide) rfl, Or.inr (⟨n2, T2, hz, rfl, hq, h2, h3⟩)⟩
def QX12_end (b : Nat → Nat) (w : Nat → Int) (h : Nat → Int → Int) (y1 : Int) (z : Int) (u : EW) : Prop := (z = 0 ∧ u = RW b w h ∧ (¬ (0 ≤ y1 ∧ y1 ≤ (w 2)))) ∨ (z = 1 ∧ u = RW b (uF w 2 y1) h ∧ (0 ≤ y1 ∧ y1 ≤ (w 2)))
set_option maxRecDepth 100000 in
set_option maxHeartbeats 4000000 in
theorem qX12_end (l : Launch) (b : Nat → Nat) (w : Nat → Int) (h : Nat → Int → Int) (y1 : Int) (hn : 0 ≤ (w 2) ∧ (w 2) ≤ 160) (hk : inR y1) : AMi l yX12_end cX12_end 2 .boolean 0 0 0 [rv (b 0), iv y1] (RW b w h) (QX12_end b w h y1) := by
  have hk := (kX12_end l (b 0) (o11 b w) (w 2) y1 hn hk)
  simp only [Po11_2, uF_self] at hk
  refine AMi.gE (is := [0]) [1, 2, 3, 4, 5, 6, 7, 8, 9, 10, 11, 12, 13, 14, 15, 16, 17, 18, 19, 20, 21, 22, 23, 24, 25, 26, 27] 28 hk rfl rfl (by decide +kernel) (by decide +kernel) (fun z u hq => ?_)
  rcases hq with ⟨hz, hu, hq⟩ | ⟨hz, hu, hq⟩
  · subst hu
    exact ⟨rfl, RW b w h, rfl, rfl, RW_rest (by decide) rfl, Or.inl ⟨hz, rfl, hq⟩⟩
  · subst hu
    exact ⟨rfl, RW b (uF w 2 y1) h, rfl, rfl, RW_rest (by decide) rfl, Or.inr (⟨hz, rfl, hq⟩)⟩
def QX12_fault (b : Nat → Nat) (w : Nat → Int) (h : Nat → Int → Int) (R : Int → Int → Int) (y1 : Int) (z : Int) (u : EW) : Prop := (∃ a2 : Int, ∃ fl : Int, ∃ p2 : Int, ∃ m2 : Int, ∃ R2 : Int → Int, z = fl ∧ u = RW b (uF (uF (uF (uF w 3 a2) 4 fl) 18 p2) 19 m2) (uF h 17 R2) ∧ y1 = 0 ∧ tnRes (h 1) (w 2) R = .inl fl ∧ (0 ≤ fl ∧ fl ≤ (w 2))) ∨ (∃ a2 : Int, ∃ p2 : Int, ∃ m2 : Int, ∃ x2 : Int, ∃ R2 : Int → Int, ∃ Rc : Int → Int → Int, z = -1 ∧ u = RW b (uF (uF (uF (uF w 3 a2) 4 (-1)) 18 p2) 19 m2) (uF h 17 R2) ∧ y1 = 0 ∧ tnRes (h 1) (w 2) R = .inr (p2, m2, x2, Rc) ∧ flat p2 R2 Rc ∧ okTS (p2, m2, x2, Rc)) ∨ (∃ a2 : Int, ∃ fl : Int, ∃ k2 : Int, ∃ dp2 : Int, ∃ j2 : Int, ∃ w2 : Int, ∃ C2 : Int → Int, ∃ V2 : Int → Int, ∃ Tf2 : Int → Int, ∃ Sf2 : Int → Int, ∃ Ef2 : Int → Int, z = fl ∧ u = RW b (uF (uF (uF (uF w 3 a2) 4 w2) 5 dp2) 14 4) (uF (uF (uF (uF (uF (uF (uF h 6 C2) 7 V2) 8 (uZ (h 8) 4 k2)) 9 (uZ (h 9) 4 j2)) 10 Tf2) 11 Sf2) 12 Ef2) ∧ y1 = 1 ∧ pLawLS (h 1) (w 2) 161 0 [] = .inl fl ∧ (0 ≤ fl ∧ fl ≤ (w 2)) ∧ frm 4 (h 6) C2 ∧ frm 4 (h 7) V2 ∧ frp 4 (h 10) Tf2 ∧ frp 4 (h 11) Sf2 ∧ frp 4 (h 12) Ef2) ∨ (∃ a2 : Int, ∃ cs : List (List Int × List Int), z = -1 ∧ u = RW b (uF (uF (uF (uF w 3 a2) 4 (-1)) 5 0) 14 4) (uF (uF (uF (uF (uF (uF (uF h 6 (wrL (h 6) (340 * 4 + 0) (List.map kC (codesOf cs)))) 7 (wrL (h 7) (340 * 4 + 0) (List.map kV (codesOf cs)))) 8 (uZ (h 8) 4 (0 + ((codesOf cs).length : Int)))) 9 (uZ (h 9) 4 (0 + ((cs).length : Int)))) 10 (wrL (h 10) (90 * 4 + 0) (tfOf 0 cs))) 11 (wrL (h 11) (90 * 4 + 0) (sfOf 0 cs))) 12 (wrL (h 12) (90 * 4 + 0) (stOf 0 cs))) ∧ y1 = 1 ∧ pLawLS (h 1) (w 2) 161 0 [] = .inr cs ∧ (((codesOf cs).length : Int) ≤ 160 ∧ 2 * (cs.length : Int) ≤ 160)) ∨ (z = -2 ∧ u = RW b w h ∧ (¬ y1 = 0 ∧ ¬ y1 = 1))
set_option maxRecDepth 100000 in
set_option maxHeartbeats 4000000 in
theorem qX12_fault (l : Launch) (b : Nat → Nat) (w : Nat → Int) (h : Nat → Int → Int) (R : Int → Int → Int) (y1 : Int) (okT : okT (h 1) (w 2)) (hso : inR y1) : AMi l yX12_fault cX12_fault 2 .int 41 0 0 [rv (b 0), iv y1] (RW b w h) (QX12_fault b w h R y1) := by
  have hk := (kX12_fault l (b 0) (b 1) (o11 b w) (h 1) (w 2) (b 6) (b 7) (b 8) (h 6) (h 7) (h 8) (b 9) (b 10) (b 11) (b 12) (h 9) (h 10) (h 11) (h 12) (w 14) (w 3) (w 4) (w 5) (w 19) (w 18) (b 17) (h 17) R y1 rfl rfl rfl rfl rfl rfl rfl rfl rfl rfl okT hso)
  simp only [Po11_14, Po11_18, Po11_19, Po11_3, Po11_4, Po11_5, uF_self] at hk
  refine AMi.gE (is := [0, 1, 11, 2, 3, 4, 5, 6, 7, 8]) [9, 10, 12, 13, 14, 15, 16, 17, 18, 19, 20, 21, 22, 23, 24, 25, 26, 27] 28 hk rfl rfl (by decide +kernel) (by decide +kernel) (fun z u hq => ?_)
  rcases hq with ⟨a2, fl, p2, m2, R2, hz, hu, h0s, hq, hr⟩ | ⟨a2, p2, m2, x2, R2, Rc, hz, hu, h0s, hq, hfl, hs⟩ | ⟨a2, fl, k2, dp2, j2, w2, C2, V2, Tf2, Sf2, Ef2, hz, hu, h1s, hq, hfl, hfC, hfV, hfT, hfS, hfE⟩ | ⟨a2, cs, hz, hu, h1s, hq, hl⟩ | ⟨hz, hu, hos⟩
  · subst hu
    exact ⟨rfl, RW b (uF (uF (uF (uF w 3 a2) 4 fl) 18 p2) 19 m2) (uF h 17 R2), rfl, rfl, RW_rest (by decide) rfl, Or.inl ⟨a2, fl, p2, m2, R2, hz, rfl, h0s, hq, hr⟩⟩
  · subst hu
    exact ⟨rfl, RW b (uF (uF (uF (uF w 3 a2) 4 (-1)) 18 p2) 19 m2) (uF h 17 R2), rfl, rfl, RW_rest (by decide) rfl, Or.inr (Or.inl ⟨a2, p2, m2, x2, R2, Rc, hz, rfl, h0s, hq, hfl, hs⟩)⟩
  · subst hu
    exact ⟨rfl, RW b (uF (uF (uF (uF w 3 a2) 4 w2) 5 dp2) 14 4) (uF (uF (uF (uF (uF (uF (uF h 6 C2) 7 V2) 8 (uZ (h 8) 4 k2)) 9 (uZ (h 9) 4 j2)) 10 Tf2) 11 Sf2) 12 Ef2), rfl, rfl, RW_rest (by decide) rfl, Or.inr (Or.inr (Or.inl ⟨a2, fl, k2, dp2, j2, w2, C2, V2, Tf2, Sf2, Ef2, hz, rfl, h1s, hq, hfl, hfC, hfV, hfT, hfS, hfE⟩))⟩
  · subst hu
    exact ⟨rfl, RW b (uF (uF (uF (uF w 3 a2) 4 (-1)) 5 0) 14 4) (uF (uF (uF (uF (uF (uF (uF h 6 (wrL (h 6) (340 * 4 + 0) (List.map kC (codesOf cs)))) 7 (wrL (h 7) (340 * 4 + 0) (List.map kV (codesOf cs)))) 8 (uZ (h 8) 4 (0 + ((codesOf cs).length : Int)))) 9 (uZ (h 9) 4 (0 + ((cs).length : Int)))) 10 (wrL (h 10) (90 * 4 + 0) (tfOf 0 cs))) 11 (wrL (h 11) (90 * 4 + 0) (sfOf 0 cs))) 12 (wrL (h 12) (90 * 4 + 0) (stOf 0 cs))), rfl, rfl, RW_rest (by decide) rfl, Or.inr (Or.inr (Or.inr (Or.inl ⟨a2, cs, hz, rfl, h1s, hq, hl⟩)))⟩
  · subst hu
    exact ⟨rfl, RW b w h, rfl, rfl, RW_rest (by decide) rfl, Or.inr (Or.inr (Or.inr (Or.inr (⟨hz, rfl, hos⟩))))⟩
def QX12_text (b : Nat → Nat) (w : Nat → Int) (h : Nat → Int → Int) (R : Int → Int → Int) (y1 : Int) (z : Int) (u : EW) : Prop := (∃ a2 : Int, ∃ fl : Int, ∃ p2 : Int, ∃ m2 : Int, ∃ R2 : Int → Int, z = -1 ∧ u = RW b (uF (uF (uF (uF w 3 a2) 4 fl) 18 p2) 19 m2) (uF h 17 R2) ∧ y1 = 0 ∧ tnRes (h 1) (w 2) R = .inl fl ∧ (0 ≤ fl ∧ fl ≤ (w 2))) ∨ (∃ a2 : Int, ∃ p2 : Int, ∃ m2 : Int, ∃ x2 : Int, ∃ R2 : Int → Int, ∃ Rc : Int → Int → Int, ∃ Q2 : Int → Int, ∃ B2 : Int → Int, ∃ E2 : Int → Int, z = p2 ∧ u = RW b (uF (uF (uF (uF (uF (uF (uF (uF (uF (uF (uF (uF w 2 0) 3 a2) 4 (-1)) 18 p2) 19 m2) 21 p2) 22 m2) 25 0) 26 0) 32 0) 46 0) 49 0) (uF (uF (uF (uF h 17 R2) 20 Q2) 23 B2) 24 E2) ∧ y1 = 0 ∧ tnRes (h 1) (w 2) R = .inr (p2, m2, x2, Rc) ∧ flat p2 R2 Rc ∧ okTS (p2, m2, x2, Rc) ∧ (∀ x, 0 ≤ x → x < 30 → Q2 x = R2 x) ∧ (∀ x, 0 ≤ x → x < 6 → B2 x = R2 (5 * x)) ∧ (∀ x, 0 ≤ x → x < 6 → E2 x = 0)) ∨ (∃ a2 : Int, ∃ fl : Int, ∃ k2 : Int, ∃ dp2 : Int, ∃ j2 : Int, ∃ w2 : Int, ∃ t2 : Int, ∃ C2 : Int → Int, ∃ V2 : Int → Int, ∃ Tf2 : Int → Int, ∃ Sf2 : Int → Int, ∃ Ef2 : Int → Int, z = -1 ∧ u = RW b (uF (uF (uF (uF w 3 a2) 4 w2) 5 dp2) 14 t2) (uF (uF (uF (uF (uF (uF (uF h 6 C2) 7 V2) 8 (uZ (h 8) (w 13) k2)) 9 (uZ (h 9) (w 13) j2)) 10 Tf2) 11 Sf2) 12 Ef2) ∧ (y1 = 1 ∧ (w 13) < 4) ∧ pLawLS (h 1) (w 2) 161 0 [] = .inl fl ∧ (0 ≤ fl ∧ fl ≤ (w 2)) ∧ frm (w 13) (h 6) C2 ∧ frm (w 13) (h 7) V2 ∧ frp (w 13) (h 10) Tf2 ∧ frp (w 13) (h 11) Sf2 ∧ frp (w 13) (h 12) Ef2) ∨ (∃ a2 : Int, ∃ cs : List (List Int × List Int), z = (w 13) ∧ u = RW b (uF (uF (uF (uF (uF (uF w 2 0) 3 a2) 4 (-1)) 5 0) 13 ((w 13) + 1)) 14 (w 13)) (uF (uF (uF (uF (uF (uF (uF h 6 (wrL (h 6) (340 * (w 13) + 0) (List.map kC (codesOf cs)))) 7 (wrL (h 7) (340 * (w 13) + 0) (List.map kV (codesOf cs)))) 8 (uZ (h 8) (w 13) (0 + ((codesOf cs).length : Int)))) 9 (uZ (h 9) (w 13) (0 + ((cs).length : Int)))) 10 (wrL (h 10) (90 * (w 13) + 0) (tfOf 0 cs))) 11 (wrL (h 11) (90 * (w 13) + 0) (sfOf 0 cs))) 12 (wrL (h 12) (90 * (w 13) + 0) (stOf 0 cs))) ∧ (y1 = 1 ∧ (w 13) < 4) ∧ pLawLS (h 1) (w 2) 161 0 [] = .inr cs ∧ (((codesOf cs).length : Int) ≤ 160 ∧ 2 * (cs.length : Int) ≤ 160)) ∨ (z = -1 ∧ u = RW b w h ∧ ((¬ y1 = 0 ∧ ¬ y1 = 1) ∨ (y1 = 1 ∧ (w 13) = 4)))
set_option maxRecDepth 100000 in
set_option maxHeartbeats 4000000 in
theorem qX12_text (l : Launch) (b : Nat → Nat) (w : Nat → Int) (h : Nat → Int → Int) (R : Int → Int → Int) (y1 : Int) (okT : okT (h 1) (w 2)) (hso : inR y1) (hlw : 0 ≤ (w 13) ∧ (w 13) ≤ 4) : AMi l yX12_text cX12_text 2 .int 41 0 0 [rv (b 0), iv y1] (RW b w h) (QX12_text b w h R y1) := by
  have hk := (kX12_text l (b 0) (b 1) (o11 b w) (h 1) (w 2) (b 6) (b 7) (b 8) (h 6) (h 7) (h 8) (b 9) (b 10) (b 11) (b 12) (h 9) (h 10) (h 11) (h 12) (w 14) (w 3) (w 4) (w 5) (w 13) (w 21) (w 22) (w 25) (w 32) (w 26) (w 46) (w 49) (w 19) (w 18) (b 17) (h 17) (b 20) (b 23) (b 24) (h 20) (h 23) (h 24) R y1 rfl rfl rfl rfl rfl rfl rfl rfl rfl rfl rfl rfl okT hso hlw)
  simp only [Po11_13, Po11_14, Po11_18, Po11_19, Po11_2, Po11_21, Po11_22, Po11_25, Po11_26, Po11_3, Po11_32, Po11_4, Po11_46, Po11_49, Po11_5, uF_self] at hk
  refine AMi.gE (is := [0, 1, 11, 2, 3, 4, 5, 6, 7, 8, 12, 13, 14]) [9, 10, 15, 16, 17, 18, 19, 20, 21, 22, 23, 24, 25, 26, 27] 28 hk rfl rfl (by decide +kernel) (by decide +kernel) (fun z u hq => ?_)
  rcases hq with ⟨a2, fl, p2, m2, R2, hz, hu, h0s, hq, hr⟩ | ⟨a2, p2, m2, x2, R2, Rc, Q2, B2, E2, hz, hu, h0s, hq, hfl, hs, hQ2, hB2, hE2⟩ | ⟨a2, fl, k2, dp2, j2, w2, t2, C2, V2, Tf2, Sf2, Ef2, hz, hu, h1s, hq, hfl, hfC, hfV, hfT, hfS, hfE⟩ | ⟨a2, cs, hz, hu, h1s, hq, hl⟩ | ⟨hz, hu, hos⟩
  · subst hu
    exact ⟨rfl, RW b (uF (uF (uF (uF w 3 a2) 4 fl) 18 p2) 19 m2) (uF h 17 R2), rfl, rfl, RW_rest (by decide) rfl, Or.inl ⟨a2, fl, p2, m2, R2, hz, rfl, h0s, hq, hr⟩⟩
  · subst hu
    exact ⟨rfl, RW b (uF (uF (uF (uF (uF (uF (uF (uF (uF (uF (uF (uF w 2 0) 3 a2) 4 (-1)) 18 p2) 19 m2) 21 p2) 22 m2) 25 0) 26 0) 32 0) 46 0) 49 0) (uF (uF (uF (uF h 17 R2) 20 Q2) 23 B2) 24 E2), rfl, rfl, RW_rest (by decide) rfl, Or.inr (Or.inl ⟨a2, p2, m2, x2, R2, Rc, Q2, B2, E2, hz, rfl, h0s, hq, hfl, hs, hQ2, hB2, hE2⟩)⟩
  · subst hu
    exact ⟨rfl, RW b (uF (uF (uF (uF w 3 a2) 4 w2) 5 dp2) 14 t2) (uF (uF (uF (uF (uF (uF (uF h 6 C2) 7 V2) 8 (uZ (h 8) (w 13) k2)) 9 (uZ (h 9) (w 13) j2)) 10 Tf2) 11 Sf2) 12 Ef2), rfl, rfl, RW_rest (by decide) rfl, Or.inr (Or.inr (Or.inl ⟨a2, fl, k2, dp2, j2, w2, t2, C2, V2, Tf2, Sf2, Ef2, hz, rfl, h1s, hq, hfl, hfC, hfV, hfT, hfS, hfE⟩))⟩
  · subst hu
    exact ⟨rfl, RW b (uF (uF (uF (uF (uF (uF w 2 0) 3 a2) 4 (-1)) 5 0) 13 ((w 13) + 1)) 14 (w 13)) (uF (uF (uF (uF (uF (uF (uF h 6 (wrL (h 6) (340 * (w 13) + 0) (List.map kC (codesOf cs)))) 7 (wrL (h 7) (340 * (w 13) + 0) (List.map kV (codesOf cs)))) 8 (uZ (h 8) (w 13) (0 + ((codesOf cs).length : Int)))) 9 (uZ (h 9) (w 13) (0 + ((cs).length : Int)))) 10 (wrL (h 10) (90 * (w 13) + 0) (tfOf 0 cs))) 11 (wrL (h 11) (90 * (w 13) + 0) (sfOf 0 cs))) 12 (wrL (h 12) (90 * (w 13) + 0) (stOf 0 cs))), rfl, rfl, RW_rest (by decide) rfl, Or.inr (Or.inr (Or.inr (Or.inl ⟨a2, cs, hz, rfl, h1s, hq, hl⟩)))⟩
  · subst hu
    exact ⟨rfl, RW b w h, rfl, rfl, RW_rest (by decide) rfl, Or.inr (Or.inr (Or.inr (Or.inr (⟨hz, rfl, hos⟩))))⟩
def QX12_set (b : Nat → Nat) (w : Nat → Int) (h : Nat → Int → Int) (y1 y2 : Int) (z : Int) (u : EW) : Prop := (z = 0 ∧ u = RW b w h ∧ (¬ ((y1 = 0 ∧ -1 ≤ y2 ∧ y2 < (w 13)) ∨ (y1 = 1 ∧ 1 ≤ y2 ∧ y2 ≤ 30) ∨ (y1 = 2 ∧ 0 ≤ y2 ∧ y2 ≤ 3) ∨ (y1 = 3 ∧ 0 ≤ y2 ∧ y2 ≤ 999)))) ∨ (z = 1 ∧ u = RW b (uF w 27 y2) h ∧ (y1 = 0 ∧ -1 ≤ y2 ∧ y2 < (w 13))) ∨ (z = 1 ∧ u = RW b (uF w 28 y2) h ∧ (y1 = 1 ∧ 1 ≤ y2 ∧ y2 ≤ 30)) ∨ (z = 1 ∧ u = RW b (uF w 29 y2) h ∧ (y1 = 2 ∧ 0 ≤ y2 ∧ y2 ≤ 3)) ∨ (z = 1 ∧ u = RW b (uF w 30 y2) h ∧ (y1 = 3 ∧ 0 ≤ y2 ∧ y2 ≤ 999))
set_option maxRecDepth 100000 in
set_option maxHeartbeats 4000000 in
theorem qX12_set (l : Launch) (b : Nat → Nat) (w : Nat → Int) (h : Nat → Int → Int) (y1 y2 : Int) (hlw : 0 ≤ (w 13) ∧ (w 13) ≤ 4) (hx_v : inR y1) (hx_x : inR y2) : AMi l yX12_set cX12_set 3 .boolean 1 0 0 [rv (b 0), iv y1, iv y2] (RW b w h) (QX12_set b w h y1 y2) := by
  have hk := (kX12_set l (b 0) (o11 b w) (w 27) (w 28) (w 29) (w 30) (w 13) y1 y2 rfl hlw hx_v hx_x)
  simp only [Po11_27, Po11_28, Po11_29, Po11_30, uF_self] at hk
  refine AMi.gE (is := [0]) [1, 2, 3, 4, 5, 6, 7, 8, 9, 10, 11, 12, 13, 14, 15, 16, 17, 18, 19, 20, 21, 22, 23, 24, 25, 26, 27] 28 hk rfl rfl (by decide +kernel) (by decide +kernel) (fun z u hq => ?_)
  rcases hq with ⟨hz, hu, hq⟩ | ⟨hz, hu, hq⟩ | ⟨hz, hu, hq⟩ | ⟨hz, hu, hq⟩ | ⟨hz, hu, hq⟩
  · subst hu
    exact ⟨rfl, RW b w h, rfl, rfl, RW_rest (by decide) rfl, Or.inl ⟨hz, rfl, hq⟩⟩
  · subst hu
    exact ⟨rfl, RW b (uF w 27 y2) h, rfl, rfl, RW_rest (by decide) rfl, Or.inr (Or.inl ⟨hz, rfl, hq⟩)⟩
  · subst hu
    exact ⟨rfl, RW b (uF w 28 y2) h, rfl, rfl, RW_rest (by decide) rfl, Or.inr (Or.inr (Or.inl ⟨hz, rfl, hq⟩))⟩
  · subst hu
    exact ⟨rfl, RW b (uF w 29 y2) h, rfl, rfl, RW_rest (by decide) rfl, Or.inr (Or.inr (Or.inr (Or.inl ⟨hz, rfl, hq⟩)))⟩
  · subst hu
    exact ⟨rfl, RW b (uF w 30 y2) h, rfl, rfl, RW_rest (by decide) rfl, Or.inr (Or.inr (Or.inr (Or.inr (⟨hz, rfl, hq⟩))))⟩
def QX12_tell (b : Nat → Nat) (w : Nat → Int) (h : Nat → Int → Int) (y1 y2 y3 : Int) (z : Int) (u : EW) : Prop := (z = 0 ∧ u = RW b w h ∧ (¬ ((0 ≤ y1 ∧ y1 < (w 21)) ∧ ((y2 = 0 ∧ -1 ≤ y3 ∧ y3 < (w 21) ∧ y3 ≠ y1) ∨ (y2 = 1 ∧ 0 ≤ y3 ∧ y3 ≤ 10) ∨ (y2 = 2 ∧ 0 ≤ y3 ∧ y3 ≤ 50))))) ∨ (z = 1 ∧ u = RW b w (uF h 20 (uZ (h 20) (5 * y1 + 3) y3)) ∧ ((0 ≤ y1 ∧ y1 < (w 21)) ∧ y2 = 0 ∧ -1 ≤ y3 ∧ y3 < (w 21) ∧ y3 ≠ y1)) ∨ (z = 1 ∧ u = RW b w (uF h 20 (uZ (h 20) (5 * y1 + 4) y3)) ∧ ((0 ≤ y1 ∧ y1 < (w 21)) ∧ y2 = 1 ∧ 0 ≤ y3 ∧ y3 ≤ 10)) ∨ (z = 1 ∧ u = RW b w (uF h 24 (uZ (h 24) y1 y3)) ∧ ((0 ≤ y1 ∧ y1 < (w 21)) ∧ y2 = 2 ∧ 0 ≤ y3 ∧ y3 ≤ 50))
set_option maxRecDepth 100000 in
set_option maxHeartbeats 4000000 in
theorem qX12_tell (l : Launch) (b : Nat → Nat) (w : Nat → Int) (h : Nat → Int → Int) (y1 y2 y3 : Int) (hpl : 0 ≤ (w 21) ∧ (w 21) ≤ 6) (hx_pp : inR y1) (hx_v : inR y2) (hx_x : inR y3) : AMi l yX12_tell cX12_tell 4 .boolean 2 0 0 [rv (b 0), iv y1, iv y2, iv y3] (RW b w h) (QX12_tell b w h y1 y2 y3) := by
  have hk := (kX12_tell l (b 0) (o11 b w) (w 21) (b 20) (b 24) (h 20) (h 24) y1 y2 y3 rfl rfl rfl hpl hx_pp hx_v hx_x)
  refine AMi.gE (is := [0, 12, 14]) [1, 2, 3, 4, 5, 6, 7, 8, 9, 10, 11, 13, 15, 16, 17, 18, 19, 20, 21, 22, 23, 24, 25, 26, 27] 28 hk rfl rfl (by decide +kernel) (by decide +kernel) (fun z u hq => ?_)
  rcases hq with ⟨hz, hu, hq⟩ | ⟨hz, hu, hq⟩ | ⟨hz, hu, hq⟩ | ⟨hz, hu, hq⟩
  · subst hu
    exact ⟨rfl, RW b w h, rfl, rfl, RW_rest (by decide) rfl, Or.inl ⟨hz, rfl, hq⟩⟩
  · subst hu
    exact ⟨rfl, RW b w (uF h 20 (uZ (h 20) (5 * y1 + 3) y3)), rfl, rfl, RW_rest (by decide) rfl, Or.inr (Or.inl ⟨hz, rfl, hq⟩)⟩
  · subst hu
    exact ⟨rfl, RW b w (uF h 20 (uZ (h 20) (5 * y1 + 4) y3)), rfl, rfl, RW_rest (by decide) rfl, Or.inr (Or.inr (Or.inl ⟨hz, rfl, hq⟩))⟩
  · subst hu
    exact ⟨rfl, RW b w (uF h 24 (uZ (h 24) y1 y3)), rfl, rfl, RW_rest (by decide) rfl, Or.inr (Or.inr (Or.inr (⟨hz, rfl, hq⟩)))⟩
def QX12_mark (b : Nat → Nat) (w : Nat → Int) (h : Nat → Int → Int) (y1 y2 : Int) (z : Int) (u : EW) : Prop := (z = 0 ∧ u = RW b w h ∧ ((w 21) = 0 ∨ y1 < 0 ∨ 29 < y1 ∨ zAnd (zShr (w 26) y1) 1 = y2)) ∨ (z = 1 ∧ u = RW b (uF w 26 (zXor (w 26) (zShl 1 y1))) h ∧ (1 ≤ (w 21) ∧ 0 ≤ y1 ∧ y1 ≤ 29 ∧ zAnd (zShr (w 26) y1) 1 ≠ y2))
set_option maxRecDepth 100000 in
set_option maxHeartbeats 4000000 in
theorem qX12_mark (l : Launch) (b : Nat → Nat) (w : Nat → Int) (h : Nat → Int → Int) (y1 y2 : Int) (hpl : 0 ≤ (w 21) ∧ (w 21) ≤ 6) (hx_b : inR y1) (hv : y2 = 0 ∨ y2 = 1) : AMi l yX12_mark cX12_mark 3 .boolean 1 0 0 [rv (b 0), iv y1, iv y2] (RW b w h) (QX12_mark b w h y1 y2) := by
  have hk := (kX12_mark l (b 0) (o11 b w) (w 21) (w 26) y1 y2 rfl hpl hx_b hv)
  simp only [Po11_26, uF_self] at hk
  refine AMi.gE (is := [0]) [1, 2, 3, 4, 5, 6, 7, 8, 9, 10, 11, 12, 13, 14, 15, 16, 17, 18, 19, 20, 21, 22, 23, 24, 25, 26, 27] 28 hk rfl rfl (by decide +kernel) (by decide +kernel) (fun z u hq => ?_)
  rcases hq with ⟨hz, hu, hq⟩ | ⟨hz, hu, hq⟩
  · subst hu
    exact ⟨rfl, RW b w h, rfl, rfl, RW_rest (by decide) rfl, Or.inl ⟨hz, rfl, hq⟩⟩
  · subst hu
    exact ⟨rfl, RW b (uF w 26 (zXor (w 26) (zShl 1 y1))) h, rfl, rfl, RW_rest (by decide) rfl, Or.inr (⟨hz, rfl, hq⟩)⟩
def QX12_damp (b : Nat → Nat) (w : Nat → Int) (h : Nat → Int → Int) (ds : List LwS) (y1 : Int) (z : Int) (u : EW) : Prop := ∃ L2 : Int → Int, ∃ S2 : Int → Int, z = aDamp (w 27) (csA ds (w 27)) (w 22) (w 21) y1 ∧ u = RW b w (uF (uF h 15 L2) 16 S2)
set_option maxRecDepth 100000 in
set_option maxHeartbeats 4000000 in
theorem qX12_damp (l : Launch) (b : Nat → Nat) (w : Nat → Int) (h : Nat → Int → Int) (ds : List LwS) (y1 : Int) (hpm : (0 ≤ (w 21) ∧ (w 21) ≤ 6) ∧ 1 ≤ (w 22) ∧ (w 22) ≤ 99) (hho : (w 27) = -1 ∨ (0 ≤ (w 27) ∧ (w 27) ≤ 3 ∧ lawAt (h 6) (h 7) (h 9) (h 10) (h 11) (h 12) (w 27) (csA ds (w 27)))) (hx_d : inR y1) : AMi l yX12_damp cX12_damp 2 .int 6 0 0 [rv (b 0), iv y1] (RW b w h) (QX12_damp b w h ds y1) := by
  have hk := (kX12_damp l (b 0) (o11 b w) (w 21) (w 22) (w 27) (b 6) (b 7) (b 9) (b 10) (b 11) (b 12) (b 15) (b 16) (h 6) (h 7) (h 9) (h 10) (h 11) (h 12) (h 15) (h 16) (csA ds (w 27)) y1 rfl rfl rfl rfl rfl rfl rfl rfl rfl rfl rfl hpm hho hx_d)
  refine AMi.gE (is := [0, 2, 3, 5, 6, 7, 8, 9, 10]) [1, 4, 11, 12, 13, 14, 15, 16, 17, 18, 19, 20, 21, 22, 23, 24, 25, 26, 27] 28 hk rfl rfl (by decide +kernel) (by decide +kernel) (fun z u hq => ?_)
  obtain ⟨L2, S2, hz, hu⟩ := hq
  subst hu
  exact ⟨rfl, RW b w (uF (uF h 15 L2) 16 S2), rfl, rfl, RW_rest (by decide) rfl, ⟨L2, S2, hz, rfl⟩⟩
def QX12_day (b : Nat → Nat) (w : Nat → Int) (h : Nat → Int → Int) (ds : List LwS) (y1 : Int) (z : Int) (u : EW) : Prop := (z = -1 ∧ u = RW b w h ∧ ((w 21) = 0 ∨ y1 < -1 ∨ (w 21) ≤ y1 ∨ 999 < (w 25))) ∨ (∃ B2 : Int → Int, ∃ K2 : Int → Int, ∃ ac2 : Int, ∃ L2 : Int → Int, ∃ S2 : Int → Int, z = (w 25) + 1 ∧ u = RW b (uF (uF w 25 ((w 25) + 1)) 32 ac2) (uF (uF (uF (uF h 15 L2) 16 S2) 23 B2) 31 K2) ∧ (1 ≤ (w 21) ∧ -1 ≤ y1 ∧ y1 < (w 21) ∧ (w 25) ≤ 999) ∧ B2 = (paF (c5 (h 20) 2) (c5 (h 20) 1) (w 22) y1 (aDy (w 27) (csA ds (w 27)) (w 22) (w 21) (w 25)) (w 21) (h 23)) ∧ (((w 32) < 60 ∧ ac2 = (w 32) + 1) ∨ ((w 32) = 60 ∧ ac2 = 60)) ∧ (∀ x, 0 ≤ x → x < 6 → K2 (6 * (ac2 - 1) + x) = (h 23) x) ∧ (∀ x, 0 ≤ x → x < 6 * (ac2 - 1) → K2 x = (h 31) (x + 6 * ((w 32) + 1 - ac2))))
set_option maxRecDepth 100000 in
set_option maxHeartbeats 4000000 in
theorem qX12_day (l : Launch) (b : Nat → Nat) (w : Nat → Int) (h : Nat → Int → Int) (ds : List LwS) (y1 : Int) (hpm : (0 ≤ (w 21) ∧ (w 21) ≤ 6) ∧ 1 ≤ (w 22) ∧ (w 22) ≤ 99) (hho : (w 27) = -1 ∨ (0 ≤ (w 27) ∧ (w 27) ≤ 3 ∧ lawAt (h 6) (h 7) (h 9) (h 10) (h 11) (h 12) (w 27) (csA ds (w 27)))) (hod : okDy (w 21) (w 22) (c5 (h 20) 2) (c5 (h 20) 1)) (hB1 : ∀ p, 0 ≤ p → p < (w 21) → 1 ≤ (h 23) p ∧ (h 23) p ≤ 199) (hdy : 0 ≤ (w 25) ∧ (w 25) ≤ 1000) (hac : 0 ≤ (w 32) ∧ (w 32) ≤ 60) (hx_a : inR y1) : AMi l yX12_day cX12_day 3 .int 6 0 0 [rv (b 0), iv y1] (RW b w h) (QX12_day b w h ds y1) := by
  have hk := (kX12_day l (b 0) (o11 b w) (w 21) (w 22) (w 27) (b 6) (b 7) (b 9) (b 10) (b 11) (b 12) (b 15) (b 16) (h 6) (h 7) (h 9) (h 10) (h 11) (h 12) (h 15) (h 16) (csA ds (w 27)) (b 20) (b 23) (h 20) (h 23) (b 31) (h 31) (w 25) (w 32) y1 rfl rfl rfl rfl rfl rfl rfl rfl rfl rfl rfl rfl rfl rfl hpm hho hod hB1 hdy hac hx_a)
  simp only [Po11_25, Po11_32, uF_self] at hk
  refine AMi.gE (is := [0, 12, 13, 15, 2, 3, 5, 6, 7, 8, 9, 10]) [1, 4, 11, 14, 16, 17, 18, 19, 20, 21, 22, 23, 24, 25, 26, 27] 28 hk rfl rfl (by decide +kernel) (by decide +kernel) (fun z u hq => ?_)
  rcases hq with ⟨hz, hu, hq⟩ | ⟨B2, K2, ac2, L2, S2, hz, hu, hq, hB2, hac2, hK1, hK2⟩
  · subst hu
    exact ⟨rfl, RW b w h, rfl, rfl, RW_rest (by decide) rfl, Or.inl ⟨hz, rfl, hq⟩⟩
  · subst hu
    exact ⟨rfl, RW b (uF (uF w 25 ((w 25) + 1)) 32 ac2) (uF (uF (uF (uF h 15 L2) 16 S2) 23 B2) 31 K2), rfl, rfl, RW_rest (by decide) rfl, Or.inr (⟨B2, K2, ac2, L2, S2, hz, rfl, hq, hB2, hac2, hK1, hK2⟩)⟩
def QX12_undo (b : Nat → Nat) (w : Nat → Int) (h : Nat → Int → Int) (z : Int) (u : EW) : Prop := (z = -1 ∧ u = RW b w h ∧ (w 32) = 0) ∨ (∃ B2 : Int → Int, z = (w 25) - 1 ∧ u = RW b (uF (uF w 25 ((w 25) - 1)) 32 ((w 32) - 1)) (uF h 23 B2) ∧ 1 ≤ (w 32) ∧ (∀ x, 0 ≤ x → x < 6 → B2 x = (h 31) (6 * ((w 32) - 1) + x)))
set_option maxRecDepth 100000 in
set_option maxHeartbeats 4000000 in
theorem qX12_undo (l : Launch) (b : Nat → Nat) (w : Nat → Int) (h : Nat → Int → Int) (hac : 0 ≤ (w 32) ∧ (w 32) ≤ 60) : AMi l yX12_undo cX12_undo 2 .int 0 0 0 [rv (b 0)] (RW b w h) (QX12_undo b w h) := by
  have hk := (kX12_undo l (b 0) (o11 b w) (b 23) (h 23) (w 25) (w 32) (b 31) (h 31) rfl rfl hac)
  simp only [Po11_25, Po11_32, uF_self] at hk
  refine AMi.gE (is := [0, 13, 15]) [1, 2, 3, 4, 5, 6, 7, 8, 9, 10, 11, 12, 14, 16, 17, 18, 19, 20, 21, 22, 23, 24, 25, 26, 27] 28 hk rfl rfl (by decide +kernel) (by decide +kernel) (fun z u hq => ?_)
  rcases hq with ⟨hz, hu, hq⟩ | ⟨B2, hz, hu, hq, hB2⟩
  · subst hu
    exact ⟨rfl, RW b w h, rfl, rfl, RW_rest (by decide) rfl, Or.inl ⟨hz, rfl, hq⟩⟩
  · subst hu
    exact ⟨rfl, RW b (uF (uF w 25 ((w 25) - 1)) 32 ((w 32) - 1)) (uF h 23 B2), rfl, rfl, RW_rest (by decide) rfl, Or.inr (⟨B2, hz, rfl, hq, hB2⟩)⟩
def QX12_time (b : Nat → Nat) (w : Nat → Int) (h : Nat → Int → Int) (y1 y2 y3 : Int) (z : Int) (u : EW) : Prop := ∃ A2 : Int → Int, ∃ M2 : Int → Int, ∃ W2 : Int → Int, z = aTime (w 21) (w 28) (w 29) (w 26) (c5 (h 20) 3) (c5 (h 20) 4) (h 23) (h 24) y1 y2 y3 ∧ u = RW b w (uF (uF (uF h 33 A2) 34 M2) 35 W2)
set_option maxRecDepth 100000 in
set_option maxHeartbeats 4000000 in
theorem qX12_time (l : Launch) (b : Nat → Nat) (w : Nat → Int) (h : Nat → Int → Int) (y1 y2 y3 : Int) (hz : okZ (w 21) (w 28) (w 29) (c5 (h 20) 3) (c5 (h 20) 4) (h 23) (h 24)) (hx_pp : inR y1) (hx_b : inR y2) (hx_v : inR y3) : AMi l yX12_time cX12_time 4 .int 4 0 0 [rv (b 0), iv y1, iv y2, iv y3] (RW b w h) (QX12_time b w h y1 y2 y3) := by
  have hk := (kX12_time l (b 0) (o11 b w) (w 21) (w 28) (w 29) (w 26) (b 20) (b 23) (b 24) (b 33) (b 34) (b 35) (h 20) (h 23) (h 24) (h 33) (h 34) (h 35) y1 y2 y3 rfl rfl rfl rfl rfl rfl rfl rfl rfl rfl hz hx_pp hx_b hx_v)
  refine AMi.gE (is := [0, 12, 13, 14, 16, 17, 18]) [1, 2, 3, 4, 5, 6, 7, 8, 9, 10, 11, 15, 19, 20, 21, 22, 23, 24, 25, 26, 27] 28 hk rfl rfl (by decide +kernel) (by decide +kernel) (fun z u hq => ?_)
  obtain ⟨A2, M2, W2, hz, hu⟩ := hq
  subst hu
  exact ⟨rfl, RW b w (uF (uF (uF h 33 A2) 34 M2) 35 W2), rfl, rfl, RW_rest (by decide) rfl, ⟨A2, M2, W2, hz, rfl⟩⟩
def QX12_spread (b : Nat → Nat) (w : Nat → Int) (h : Nat → Int → Int) (y1 : Int) (z : Int) (u : EW) : Prop := ∃ A2 : Int → Int, ∃ M2 : Int → Int, ∃ W2 : Int → Int, z = aSpread (w 21) (w 28) (w 29) (w 26) (c5 (h 20) 3) (c5 (h 20) 4) (h 23) (h 24) y1 ∧ u = RW b w (uF (uF (uF h 33 A2) 34 M2) 35 W2)
set_option maxRecDepth 100000 in
set_option maxHeartbeats 4000000 in
theorem qX12_spread (l : Launch) (b : Nat → Nat) (w : Nat → Int) (h : Nat → Int → Int) (y1 : Int) (hz : okZ (w 21) (w 28) (w 29) (c5 (h 20) 3) (c5 (h 20) 4) (h 23) (h 24)) (hx_b : inR y1) : AMi l yX12_spread cX12_spread 2 .int 4 0 0 [rv (b 0), iv y1] (RW b w h) (QX12_spread b w h y1) := by
  have hk := (kX12_spread l (b 0) (o11 b w) (w 21) (w 28) (w 29) (w 26) (b 20) (b 23) (b 24) (b 33) (b 34) (b 35) (h 20) (h 23) (h 24) (h 33) (h 34) (h 35) y1 rfl rfl rfl rfl rfl rfl rfl rfl rfl rfl hz hx_b)
  refine AMi.gE (is := [0, 12, 13, 14, 16, 17, 18]) [1, 2, 3, 4, 5, 6, 7, 8, 9, 10, 11, 15, 19, 20, 21, 22, 23, 24, 25, 26, 27] 28 hk rfl rfl (by decide +kernel) (by decide +kernel) (fun z u hq => ?_)
  obtain ⟨A2, M2, W2, hz, hu⟩ := hq
  subst hu
  exact ⟨rfl, RW b w (uF (uF (uF h 33 A2) 34 M2) 35 W2), rfl, rfl, RW_rest (by decide) rfl, ⟨A2, M2, W2, hz, rfl⟩⟩
def QX12_worst (b : Nat → Nat) (w : Nat → Int) (h : Nat → Int → Int) (y1 : Int) (z : Int) (u : EW) : Prop := ∃ A2 : Int → Int, ∃ M2 : Int → Int, ∃ W2 : Int → Int, z = aWorst (w 21) (w 28) (w 29) (w 26) (c5 (h 20) 3) (c5 (h 20) 4) (h 23) (h 24) y1 ∧ u = RW b w (uF (uF (uF h 33 A2) 34 M2) 35 W2)
set_option maxRecDepth 100000 in
set_option maxHeartbeats 4000000 in
theorem qX12_worst (l : Launch) (b : Nat → Nat) (w : Nat → Int) (h : Nat → Int → Int) (y1 : Int) (hz : okZ (w 21) (w 28) (w 29) (c5 (h 20) 3) (c5 (h 20) 4) (h 23) (h 24)) (hx_v : inR y1) : AMi l yX12_worst cX12_worst 2 .int 6 0 0 [rv (b 0), iv y1] (RW b w h) (QX12_worst b w h y1) := by
  have hk := (kX12_worst l (b 0) (o11 b w) (w 21) (w 28) (w 29) (w 26) (b 20) (b 23) (b 24) (b 33) (b 34) (b 35) (h 20) (h 23) (h 24) (h 33) (h 34) (h 35) y1 rfl rfl rfl rfl rfl rfl rfl rfl rfl rfl hz hx_v)
  refine AMi.gE (is := [0, 12, 13, 14, 16, 17, 18]) [1, 2, 3, 4, 5, 6, 7, 8, 9, 10, 11, 15, 19, 20, 21, 22, 23, 24, 25, 26, 27] 28 hk rfl rfl (by decide +kernel) (by decide +kernel) (fun z u hq => ?_)
  obtain ⟨A2, M2, W2, hz, hu⟩ := hq
  subst hu
  exact ⟨rfl, RW b w (uF (uF (uF h 33 A2) 34 M2) 35 W2), rfl, rfl, RW_rest (by decide) rfl, ⟨A2, M2, W2, hz, rfl⟩⟩
def QX12_parts (b : Nat → Nat) (w : Nat → Int) (h : Nat → Int → Int) (z : Int) (u : EW) : Prop := ∃ A2 : Int → Int, ∃ M2 : Int → Int, ∃ W2 : Int → Int, z = aParts (w 21) (w 28) (w 29) (w 26) (c5 (h 20) 3) (c5 (h 20) 4) (h 23) (h 24) (w 30) ∧ u = RW b w (uF (uF (uF h 33 A2) 34 M2) 35 W2)
set_option maxRecDepth 100000 in
set_option maxHeartbeats 4000000 in
theorem qX12_parts (l : Launch) (b : Nat → Nat) (w : Nat → Int) (h : Nat → Int → Int) (hz : okZ (w 21) (w 28) (w 29) (c5 (h 20) 3) (c5 (h 20) 4) (h 23) (h 24)) (hlim : 0 ≤ (w 30) ∧ (w 30) ≤ 999) : AMi l yX12_parts cX12_parts 2 .int 4 0 0 [rv (b 0)] (RW b w h) (QX12_parts b w h) := by
  have hk := (kX12_parts l (b 0) (o11 b w) (w 21) (w 28) (w 29) (w 26) (b 20) (b 23) (b 24) (b 33) (b 34) (b 35) (h 20) (h 23) (h 24) (h 33) (h 34) (h 35) (w 30) rfl rfl rfl rfl rfl rfl rfl rfl rfl rfl rfl hz hlim)
  refine AMi.gE (is := [0, 12, 13, 14, 16, 17, 18]) [1, 2, 3, 4, 5, 6, 7, 8, 9, 10, 11, 15, 19, 20, 21, 22, 23, 24, 25, 26, 27] 28 hk rfl rfl (by decide +kernel) (by decide +kernel) (fun z u hq => ?_)
  obtain ⟨A2, M2, W2, hz, hu⟩ := hq
  subst hu
  exact ⟨rfl, RW b w (uF (uF (uF h 33 A2) 34 M2) 35 W2), rfl, rfl, RW_rest (by decide) rfl, ⟨A2, M2, W2, hz, rfl⟩⟩
def QX12_last (b : Nat → Nat) (w : Nat → Int) (h : Nat → Int → Int) (y1 : Int) (z : Int) (u : EW) : Prop := ∃ A2 : Int → Int, ∃ M2 : Int → Int, ∃ W2 : Int → Int, z = aLast (w 21) (w 28) (w 29) (w 26) (c5 (h 20) 3) (c5 (h 20) 4) (h 23) (h 24) y1 ∧ u = RW b w (uF (uF (uF h 33 A2) 34 M2) 35 W2)
set_option maxRecDepth 100000 in
set_option maxHeartbeats 4000000 in
theorem qX12_last (l : Launch) (b : Nat → Nat) (w : Nat → Int) (h : Nat → Int → Int) (y1 : Int) (hz : okZ (w 21) (w 28) (w 29) (c5 (h 20) 3) (c5 (h 20) 4) (h 23) (h 24)) (hx_b : inR y1) : AMi l yX12_last cX12_last 2 .int 4 0 0 [rv (b 0), iv y1] (RW b w h) (QX12_last b w h y1) := by
  have hk := (kX12_last l (b 0) (o11 b w) (w 21) (w 28) (w 29) (w 26) (b 20) (b 23) (b 24) (b 33) (b 34) (b 35) (h 20) (h 23) (h 24) (h 33) (h 34) (h 35) y1 rfl rfl rfl rfl rfl rfl rfl rfl rfl rfl hz hx_b)
  refine AMi.gE (is := [0, 12, 13, 14, 16, 17, 18]) [1, 2, 3, 4, 5, 6, 7, 8, 9, 10, 11, 15, 19, 20, 21, 22, 23, 24, 25, 26, 27] 28 hk rfl rfl (by decide +kernel) (by decide +kernel) (fun z u hq => ?_)
  obtain ⟨A2, M2, W2, hz, hu⟩ := hq
  subst hu
  exact ⟨rfl, RW b w (uF (uF (uF h 33 A2) 34 M2) 35 W2), rfl, rfl, RW_rest (by decide) rfl, ⟨A2, M2, W2, hz, rfl⟩⟩
def QX12_settle (b : Nat → Nat) (w : Nat → Int) (h : Nat → Int → Int) (y1 : Int) (z : Int) (u : EW) : Prop := ∃ z9 : Int, ∃ A2 : Int → Int, z = z9 ∧ u = RW b w (uF h 33 A2) ∧ rSettle (w 21) (w 29) (c5 (h 20) 3) (c5 (h 20) 4) (h 23) y1 z9
set_option maxRecDepth 100000 in
set_option maxHeartbeats 4000000 in
theorem qX12_settle (l : Launch) (b : Nat → Nat) (w : Nat → Int) (h : Nat → Int → Int) (y1 : Int) (hz : okZ (w 21) (w 28) (w 29) (c5 (h 20) 3) (c5 (h 20) 4) (h 23) (h 24)) (hv : inR y1) : AMi l yX12_settle cX12_settle 4 .int 3 0 0 [rv (b 0), iv y1] (RW b w h) (QX12_settle b w h y1) := by
  have hk := (kX12_settle l (b 0) (o11 b w) (w 21) (w 28) (w 29) (b 20) (b 23) (b 33) (h 20) (h 23) (h 24) (h 33) y1 rfl rfl rfl rfl rfl hz hv)
  refine AMi.gE (is := [0, 12, 13, 16]) [1, 2, 3, 4, 5, 6, 7, 8, 9, 10, 11, 14, 15, 17, 18, 19, 20, 21, 22, 23, 24, 25, 26, 27] 28 hk rfl rfl (by decide +kernel) (by decide +kernel) (fun z u hq => ?_)
  obtain ⟨z9, A2, hz, hu, hs⟩ := hq
  subst hu
  exact ⟨rfl, RW b w (uF h 33 A2), rfl, rfl, RW_rest (by decide) rfl, ⟨z9, A2, hz, rfl, hs⟩⟩
def QX12_ring (b : Nat → Nat) (w : Nat → Int) (h : Nat → Int → Int) (y1 : Int) (z : Int) (u : EW) : Prop := z = aRingR (w 21) (c5 (h 20) 3) y1 ∧ u = RW b w h
set_option maxRecDepth 100000 in
set_option maxHeartbeats 4000000 in
theorem qX12_ring (l : Launch) (b : Nat → Nat) (w : Nat → Int) (h : Nat → Int → Int) (y1 : Int) (hz : okZ (w 21) (w 28) (w 29) (c5 (h 20) 3) (c5 (h 20) 4) (h 23) (h 24)) (hx_pp : inR y1) : AMi l yX12_ring cX12_ring 4 .int 2 0 0 [rv (b 0), iv y1] (RW b w h) (QX12_ring b w h y1) := by
  have hk := (kX12_ring l (b 0) (o11 b w) (w 21) (w 28) (w 29) (b 20) (h 20) (h 23) (h 24) y1 rfl rfl hz hx_pp)
  refine AMi.gE (is := [0, 12]) [1, 2, 3, 4, 5, 6, 7, 8, 9, 10, 11, 13, 14, 15, 16, 17, 18, 19, 20, 21, 22, 23, 24, 25, 26, 27] 28 hk rfl rfl (by decide +kernel) (by decide +kernel) (fun z u hq => ?_)
  obtain ⟨hz, hu⟩ := hq
  subst hu
  exact ⟨rfl, RW b w h, rfl, rfl, RW_rest (by decide) rfl, ⟨hz, rfl⟩⟩
def QX12_head (b : Nat → Nat) (w : Nat → Int) (h : Nat → Int → Int) (y1 : Int) (z : Int) (u : EW) : Prop := z = aHeadR (w 21) (c5 (h 20) 3) y1 ∧ u = RW b w h
set_option maxRecDepth 100000 in
set_option maxHeartbeats 4000000 in
theorem qX12_head (l : Launch) (b : Nat → Nat) (w : Nat → Int) (h : Nat → Int → Int) (y1 : Int) (hz : okZ (w 21) (w 28) (w 29) (c5 (h 20) 3) (c5 (h 20) 4) (h 23) (h 24)) (hx_pp : inR y1) : AMi l yX12_head cX12_head 4 .int 2 0 0 [rv (b 0), iv y1] (RW b w h) (QX12_head b w h y1) := by
  have hk := (kX12_head l (b 0) (o11 b w) (w 21) (w 28) (w 29) (b 20) (h 20) (h 23) (h 24) y1 rfl rfl hz hx_pp)
  refine AMi.gE (is := [0, 12]) [1, 2, 3, 4, 5, 6, 7, 8, 9, 10, 11, 13, 14, 15, 16, 17, 18, 19, 20, 21, 22, 23, 24, 25, 26, 27] 28 hk rfl rfl (by decide +kernel) (by decide +kernel) (fun z u hq => ?_)
  obtain ⟨hz, hu⟩ := hq
  subst hu
  exact ⟨rfl, RW b w h, rfl, rfl, RW_rest (by decide) rfl, ⟨hz, rfl⟩⟩
def QX12_week (b : Nat → Nat) (w : Nat → Int) (h : Nat → Int → Int) (ds : List LwS) (y1 : Int) (z : Int) (u : EW) : Prop := ∃ r3 : Int, ∃ l3 : Int, ∃ A2 : Int → Int, ∃ M2 : Int → Int, ∃ W2 : Int → Int, ∃ Wb2 : Int → Int, ∃ Wd2 : Int → Int, ∃ L2 : Int → Int, ∃ S2 : Int → Int, z = aWeekR (w 21) (w 28) (w 29) (w 26) (w 22) (w 25) (c5 (h 20) 3) (c5 (h 20) 4) (h 23) (h 24) (c5 (h 20) 2) (c5 (h 20) 1) (fun j => aDy (w 27) (csA ds (w 27)) (w 22) (w 21) ((w 25) + j)) y1 (w 39) ∧ u = RW b (uF (uF w 38 r3) 39 l3) (uF (uF (uF (uF (uF (uF (uF h 15 L2) 16 S2) 33 A2) 34 M2) 35 W2) 36 Wb2) 37 Wd2)
set_option maxRecDepth 100000 in
set_option maxHeartbeats 4000000 in
theorem qX12_week (l : Launch) (b : Nat → Nat) (w : Nat → Int) (h : Nat → Int → Int) (ds : List LwS) (y1 : Int) (hz : okZ (w 21) (w 28) (w 29) (c5 (h 20) 3) (c5 (h 20) 4) (h 23) (h 24)) (hx_v : inR y1) (hpm : (0 ≤ (w 21) ∧ (w 21) ≤ 6) ∧ 1 ≤ (w 22) ∧ (w 22) ≤ 99) (hho : (w 27) = -1 ∨ (0 ≤ (w 27) ∧ (w 27) ≤ 3 ∧ lawAt (h 6) (h 7) (h 9) (h 10) (h 11) (h 12) (w 27) (csA ds (w 27)))) (hod : okDy (w 21) (w 22) (c5 (h 20) 2) (c5 (h 20) 1)) (hdy : 0 ≤ (w 25) ∧ (w 25) ≤ 1000) : AMi l yX12_week cX12_week 3 .int 13 0 0 [rv (b 0), iv y1] (RW b w h) (QX12_week b w h ds y1) := by
  have hk := (kX12_week l (b 0) (o11 b w) (w 21) (w 28) (w 29) (w 26) (b 20) (b 23) (b 24) (b 33) (b 34) (b 35) (h 20) (h 23) (h 24) (h 33) (h 34) (h 35) y1 (w 22) (w 27) (w 25) (b 6) (b 7) (b 9) (b 10) (b 11) (b 12) (b 15) (b 16) (h 6) (h 7) (h 9) (h 10) (h 11) (h 12) (h 15) (h 16) (csA ds (w 27)) (b 36) (h 36) (b 37) (h 37) (w 38) (w 39) rfl rfl rfl rfl rfl rfl rfl rfl rfl rfl rfl rfl rfl rfl rfl rfl rfl rfl rfl rfl rfl rfl rfl hz hx_v hpm hho hod hdy)
  simp only [Po11_38, Po11_39, uF_self] at hk
  refine AMi.gE (is := [0, 12, 13, 14, 16, 17, 18, 19, 20, 2, 3, 5, 6, 7, 8, 9, 10]) [1, 4, 11, 15, 21, 22, 23, 24, 25, 26, 27] 28 hk rfl rfl (by decide +kernel) (by decide +kernel) (fun z u hq => ?_)
  obtain ⟨r3, l3, A2, M2, W2, Wb2, Wd2, L2, S2, hz, hu⟩ := hq
  subst hu
  exact ⟨rfl, RW b (uF (uF w 38 r3) 39 l3) (uF (uF (uF (uF (uF (uF (uF h 15 L2) 16 S2) 33 A2) 34 M2) 35 W2) 36 Wb2) 37 Wd2), rfl, rfl, RW_rest (by decide) rfl, ⟨r3, l3, A2, M2, W2, Wb2, Wd2, L2, S2, hz, rfl⟩⟩
def QX12_leader (b : Nat → Nat) (w : Nat → Int) (h : Nat → Int → Int) (y1 y2 : Int) (z : Int) (u : EW) : Prop := ∃ A2 : Int → Int, ∃ M2 : Int → Int, ∃ W2 : Int → Int, z = aLeader (w 21) (w 28) (w 29) (w 26) (c5 (h 20) 3) (c5 (h 20) 4) (h 23) (h 24) y1 y2 ∧ u = RW b w (uF (uF (uF h 33 A2) 34 M2) 35 W2)
set_option maxRecDepth 100000 in
set_option maxHeartbeats 4000000 in
theorem qX12_leader (l : Launch) (b : Nat → Nat) (w : Nat → Int) (h : Nat → Int → Int) (y1 y2 : Int) (hz : okZ (w 21) (w 28) (w 29) (c5 (h 20) 3) (c5 (h 20) 4) (h 23) (h 24)) (hx_pp : inR y1) (hx_v : inR y2) : AMi l yX12_leader cX12_leader 8 .int 6 0 0 [rv (b 0), iv y1, iv y2] (RW b w h) (QX12_leader b w h y1 y2) := by
  have hk := (kX12_leader l (b 0) (o11 b w) (w 21) (w 28) (w 29) (w 26) (b 20) (b 23) (b 24) (b 33) (b 34) (b 35) (h 20) (h 23) (h 24) (h 33) (h 34) (h 35) y1 y2 rfl rfl rfl rfl rfl rfl rfl rfl rfl rfl hz hx_pp hx_v)
  refine AMi.gE (is := [0, 12, 13, 14, 16, 17, 18]) [1, 2, 3, 4, 5, 6, 7, 8, 9, 10, 11, 15, 19, 20, 21, 22, 23, 24, 25, 26, 27] 28 hk rfl rfl (by decide +kernel) (by decide +kernel) (fun z u hq => ?_)
  obtain ⟨A2, M2, W2, hz, hu⟩ := hq
  subst hu
  exact ⟨rfl, RW b w (uF (uF (uF h 33 A2) 34 M2) 35 W2), rfl, rfl, RW_rest (by decide) rfl, ⟨A2, M2, W2, hz, rfl⟩⟩
def QX12_marks (b : Nat → Nat) (w : Nat → Int) (h : Nat → Int → Int) (y1 : Int) (z : Int) (u : EW) : Prop := ∃ z9 : Int, ∃ A2 : Int → Int, ∃ F2 : Int → Int, ∃ B2 : Int → Int, ∃ S2 : Int → Int, z = z9 ∧ u = RW b w (uF (uF (uF (uF h 33 A2) 40 F2) 41 B2) 42 S2)
set_option maxRecDepth 100000 in
set_option maxHeartbeats 4000000 in
theorem qX12_marks (l : Launch) (b : Nat → Nat) (w : Nat → Int) (h : Nat → Int → Int) (y1 : Int) (hz : okZ (w 21) (w 28) (w 29) (c5 (h 20) 3) (c5 (h 20) 4) (h 23) (h 24)) (hlim : 0 ≤ (w 30) ∧ (w 30) ≤ 999) (hx_v : inR y1) : AMi l yX12_marks cX12_marks 3 .int 3 0 0 [rv (b 0), iv y1] (RW b w h) (QX12_marks b w h y1) := by
  have hk := (kX12_marks l (b 0) (o11 b w) (w 21) (w 28) (w 29) (w 26) (b 20) (b 23) (b 24) (b 33) (b 34) (b 35) (h 20) (h 23) (h 24) (h 33) (w 30) (b 40) (b 41) (b 42) (h 40) (h 41) (h 42) y1 rfl rfl rfl rfl rfl rfl rfl rfl rfl rfl rfl rfl rfl rfl hz hlim hx_v)
  refine AMi.gE (is := [0, 12, 13, 14, 16, 21, 22, 23]) [1, 2, 3, 4, 5, 6, 7, 8, 9, 10, 11, 15, 17, 18, 19, 20, 24, 25, 26, 27] 28 hk rfl rfl (by decide +kernel) (by decide +kernel) (fun z u hq => ?_)
  obtain ⟨z9, A2, F2, B2, S2, hz, hu⟩ := hq
  subst hu
  exact ⟨rfl, RW b w (uF (uF (uF (uF h 33 A2) 40 F2) 41 B2) 42 S2), rfl, rfl, RW_rest (by decide) rfl, ⟨z9, A2, F2, B2, S2, hz, rfl⟩⟩
def QX12_odds (b : Nat → Nat) (w : Nat → Int) (h : Nat → Int → Int) (y1 y2 : Int) (z : Int) (u : EW) : Prop := ∃ A2 : Int → Int, ∃ M2 : Int → Int, ∃ W2 : Int → Int, ∃ Wb2 : Int → Int, z = aOddsR (w 21) (w 28) (w 29) (w 26) (w 22) (c5 (h 20) 3) (c5 (h 20) 4) (h 23) (h 24) (c5 (h 20) 2) (c5 (h 20) 1) y1 y2 ∧ u = RW b w (uF (uF (uF (uF h 33 A2) 34 M2) 35 W2) 36 Wb2)
set_option maxRecDepth 100000 in
set_option maxHeartbeats 4000000 in
theorem qX12_odds (l : Launch) (b : Nat → Nat) (w : Nat → Int) (h : Nat → Int → Int) (y1 y2 : Int) (hz : okZ (w 21) (w 28) (w 29) (c5 (h 20) 3) (c5 (h 20) 4) (h 23) (h 24)) (hx_pp : inR y1) (hx_k9 : inR y2) (hod : okDy (w 21) (w 22) (c5 (h 20) 2) (c5 (h 20) 1)) : AMi l yX12_odds cX12_odds 3 .int 14 0 0 [rv (b 0), iv y1, iv y2] (RW b w h) (QX12_odds b w h y1 y2) := by
  have hk := (kX12_odds l (b 0) (o11 b w) (w 21) (w 28) (w 29) (w 26) (b 20) (b 23) (b 24) (b 33) (b 34) (b 35) (h 20) (h 23) (h 24) (h 33) (h 34) (h 35) y1 y2 (w 22) (b 36) (h 36) rfl rfl rfl rfl rfl rfl rfl rfl rfl rfl rfl rfl hz hx_pp hx_k9 hod)
  refine AMi.gE (is := [0, 12, 13, 14, 16, 17, 18, 19]) [1, 2, 3, 4, 5, 6, 7, 8, 9, 10, 11, 15, 20, 21, 22, 23, 24, 25, 26, 27] 28 hk rfl rfl (by decide +kernel) (by decide +kernel) (fun z u hq => ?_)
  obtain ⟨A2, M2, W2, Wb2, hz, hu⟩ := hq
  subst hu
  exact ⟨rfl, RW b w (uF (uF (uF (uF h 33 A2) 34 M2) 35 W2) 36 Wb2), rfl, rfl, RW_rest (by decide) rfl, ⟨A2, M2, W2, Wb2, hz, rfl⟩⟩
def QX12_paid (b : Nat → Nat) (w : Nat → Int) (h : Nat → Int → Int) (y1 : Int) (z : Int) (u : EW) : Prop := ∃ z9 : Int, ∃ A2 : Int → Int, ∃ M2 : Int → Int, ∃ W2 : Int → Int, z = z9 ∧ u = RW b w (uF (uF (uF h 33 A2) 34 M2) 35 W2) ∧ rPaid (w 21) (w 28) (w 29) (w 26) (c5 (h 20) 3) (c5 (h 20) 4) (h 23) (h 24) y1 z9
set_option maxRecDepth 100000 in
set_option maxHeartbeats 4000000 in
theorem qX12_paid (l : Launch) (b : Nat → Nat) (w : Nat → Int) (h : Nat → Int → Int) (y1 : Int) (hz : okZ (w 21) (w 28) (w 29) (c5 (h 20) 3) (c5 (h 20) 4) (h 23) (h 24)) (hx_pp : inR y1) : AMi l yX12_paid cX12_paid 5 .int 5 0 0 [rv (b 0), iv y1] (RW b w h) (QX12_paid b w h y1) := by
  have hk := (kX12_paid l (b 0) (o11 b w) (w 21) (w 28) (w 29) (w 26) (b 20) (b 23) (b 24) (b 33) (b 34) (b 35) (h 20) (h 23) (h 24) (h 33) (h 34) (h 35) y1 rfl rfl rfl rfl rfl rfl rfl rfl rfl rfl hz hx_pp)
  refine AMi.gE (is := [0, 12, 13, 14, 16, 17, 18]) [1, 2, 3, 4, 5, 6, 7, 8, 9, 10, 11, 15, 19, 20, 21, 22, 23, 24, 25, 26, 27] 28 hk rfl rfl (by decide +kernel) (by decide +kernel) (fun z u hq => ?_)
  obtain ⟨z9, A2, M2, W2, hz, hu, hs⟩ := hq
  subst hu
  exact ⟨rfl, RW b w (uF (uF (uF h 33 A2) 34 M2) 35 W2), rfl, rfl, RW_rest (by decide) rfl, ⟨z9, A2, M2, W2, hz, rfl, hs⟩⟩
def QX12_roll (b : Nat → Nat) (w : Nat → Int) (h : Nat → Int → Int) (y1 y2 y3 : Int) (z : Int) (u : EW) : Prop := (z = -1 ∧ u = RW b w h ∧ (¬ ((0 ≤ y1 ∧ y1 < (w 21)) ∧ (0 ≤ y2 ∧ y2 ≤ 29) ∧ (0 ≤ y3 ∧ y3 ≤ 9999) ∧ (w 46) < 20))) ∨ (z = (w 46) + 1 ∧ u = RW b (uF w 46 ((w 46) + 1)) (uF (uF (uF h 43 (uZ (h 43) (w 46) y1)) 44 (uZ (h 44) (w 46) y2)) 45 (uZ (h 45) (w 46) y3)) ∧ ((0 ≤ y1 ∧ y1 < (w 21)) ∧ (0 ≤ y2 ∧ y2 ≤ 29) ∧ (0 ≤ y3 ∧ y3 ≤ 9999) ∧ (w 46) < 20))
set_option maxRecDepth 100000 in
set_option maxHeartbeats 4000000 in
theorem qX12_roll (l : Launch) (b : Nat → Nat) (w : Nat → Int) (h : Nat → Int → Int) (y1 y2 y3 : Int) (hpl : 0 ≤ (w 21) ∧ (w 21) ≤ 6) (hrl : 0 ≤ (w 46) ∧ (w 46) ≤ 20) (hx_pp : inR y1) (hx_b : inR y2) (hx_t : inR y3) : AMi l yX12_roll cX12_roll 4 .int 2 0 0 [rv (b 0), iv y1, iv y2, iv y3] (RW b w h) (QX12_roll b w h y1 y2 y3) := by
  have hk := (kX12_roll l (b 0) (o11 b w) (w 21) (w 46) (b 43) (b 44) (b 45) (h 43) (h 44) (h 45) y1 y2 y3 rfl rfl rfl rfl hpl hrl hx_pp hx_b hx_t)
  simp only [Po11_46, uF_self] at hk
  refine AMi.gE (is := [0, 24, 25, 26]) [1, 2, 3, 4, 5, 6, 7, 8, 9, 10, 11, 12, 13, 14, 15, 16, 17, 18, 19, 20, 21, 22, 23, 27] 28 hk rfl rfl (by decide +kernel) (by decide +kernel) (fun z u hq => ?_)
  rcases hq with ⟨hz, hu, hq⟩ | ⟨hz, hu, hq⟩
  · subst hu
    exact ⟨rfl, RW b w h, rfl, rfl, RW_rest (by decide) rfl, Or.inl ⟨hz, rfl, hq⟩⟩
  · subst hu
    exact ⟨rfl, RW b (uF w 46 ((w 46) + 1)) (uF (uF (uF h 43 (uZ (h 43) (w 46) y1)) 44 (uZ (h 44) (w 46) y2)) 45 (uZ (h 45) (w 46) y3)), rfl, rfl, RW_rest (by decide) rfl, Or.inr (⟨hz, rfl, hq⟩)⟩
def QX12_fits (b : Nat → Nat) (w : Nat → Int) (h : Nat → Int → Int) (y1 : Int) (z : Int) (u : EW) : Prop := ∃ A2 : Int → Int, ∃ M2 : Int → Int, ∃ W2 : Int → Int, z = aFits (w 21) (w 28) (w 29) (w 26) (c5 (h 20) 3) (c5 (h 20) 4) (h 23) (h 24) (w 46) (h 43) (h 44) (h 45) y1 ∧ u = RW b w (uF (uF (uF h 33 A2) 34 M2) 35 W2)
set_option maxRecDepth 100000 in
set_option maxHeartbeats 4000000 in
theorem qX12_fits (l : Launch) (b : Nat → Nat) (w : Nat → Int) (h : Nat → Int → Int) (y1 : Int) (hz : okZ (w 21) (w 28) (w 29) (c5 (h 20) 3) (c5 (h 20) 4) (h 23) (h 24)) (hx_pp : inR y1) (hro : 0 ≤ (w 46) ∧ (w 46) ≤ 20 ∧ ∀ k, 0 ≤ k → k < (w 46) → (0 ≤ (h 43) k ∧ (h 43) k < (w 21)) ∧ (0 ≤ (h 44) k ∧ (h 44) k ≤ 29) ∧ (0 ≤ (h 45) k ∧ (h 45) k ≤ 9999)) : AMi l yX12_fits cX12_fits 5 .int 5 0 0 [rv (b 0), iv y1] (RW b w h) (QX12_fits b w h y1) := by
  have hk := (kX12_fits l (b 0) (o11 b w) (w 21) (w 28) (w 29) (w 26) (b 20) (b 23) (b 24) (b 33) (b 34) (b 35) (h 20) (h 23) (h 24) (h 33) (h 34) (h 35) y1 (w 46) (b 43) (b 44) (b 45) (h 43) (h 44) (h 45) rfl rfl rfl rfl rfl rfl rfl rfl rfl rfl rfl rfl rfl rfl hz hx_pp hro)
  refine AMi.gE (is := [0, 12, 13, 14, 16, 17, 18, 24, 25, 26]) [1, 2, 3, 4, 5, 6, 7, 8, 9, 10, 11, 15, 19, 20, 21, 22, 23, 27] 28 hk rfl rfl (by decide +kernel) (by decide +kernel) (fun z u hq => ?_)
  obtain ⟨A2, M2, W2, hz, hu⟩ := hq
  subst hu
  exact ⟨rfl, RW b w (uF (uF (uF h 33 A2) 34 M2) 35 W2), rfl, rfl, RW_rest (by decide) rfl, ⟨A2, M2, W2, hz, rfl⟩⟩
def QX12_deaf (b : Nat → Nat) (w : Nat → Int) (h : Nat → Int → Int) (y1 : Int) (z : Int) (u : EW) : Prop := ∃ A2 : Int → Int, ∃ M2 : Int → Int, ∃ W2 : Int → Int, z = aDeaf (w 21) (w 28) (w 29) (w 26) (c5 (h 20) 3) (c5 (h 20) 4) (h 23) (h 24) y1 ∧ u = RW b w (uF (uF (uF h 33 A2) 34 M2) 35 W2)
set_option maxRecDepth 100000 in
set_option maxHeartbeats 4000000 in
theorem qX12_deaf (l : Launch) (b : Nat → Nat) (w : Nat → Int) (h : Nat → Int → Int) (y1 : Int) (hz : okZ (w 21) (w 28) (w 29) (c5 (h 20) 3) (c5 (h 20) 4) (h 23) (h 24)) (hx_pp : inR y1) : AMi l yX12_deaf cX12_deaf 4 .int 6 0 0 [rv (b 0), iv y1] (RW b w h) (QX12_deaf b w h y1) := by
  have hk := (kX12_deaf l (b 0) (o11 b w) (w 21) (w 28) (w 29) (w 26) (b 20) (b 23) (b 24) (b 33) (b 34) (b 35) (h 20) (h 23) (h 24) (h 33) (h 34) (h 35) y1 rfl rfl rfl rfl rfl rfl rfl rfl rfl rfl hz hx_pp)
  refine AMi.gE (is := [0, 12, 13, 14, 16, 17, 18]) [1, 2, 3, 4, 5, 6, 7, 8, 9, 10, 11, 15, 19, 20, 21, 22, 23, 24, 25, 26, 27] 28 hk rfl rfl (by decide +kernel) (by decide +kernel) (fun z u hq => ?_)
  obtain ⟨A2, M2, W2, hz, hu⟩ := hq
  subst hu
  exact ⟨rfl, RW b w (uF (uF (uF h 33 A2) 34 M2) 35 W2), rfl, rfl, RW_rest (by decide) rfl, ⟨A2, M2, W2, hz, rfl⟩⟩
def QX12_echoes (b : Nat → Nat) (w : Nat → Int) (h : Nat → Int → Int) (y1 : Int) (z : Int) (u : EW) : Prop := ∃ A2 : Int → Int, ∃ M2 : Int → Int, ∃ W2 : Int → Int, z = aEchoes (w 21) (w 28) (w 26) (c5 (h 20) 3) (c5 (h 20) 4) (h 23) (h 24) y1 ∧ u = RW b w (uF (uF (uF h 33 A2) 34 M2) 35 W2)
set_option maxRecDepth 100000 in
set_option maxHeartbeats 4000000 in
theorem qX12_echoes (l : Launch) (b : Nat → Nat) (w : Nat → Int) (h : Nat → Int → Int) (y1 : Int) (hz : okZ (w 21) (w 28) (w 29) (c5 (h 20) 3) (c5 (h 20) 4) (h 23) (h 24)) (hx_v : inR y1) : AMi l yX12_echoes cX12_echoes 7 .int 6 0 0 [rv (b 0), iv y1] (RW b w h) (QX12_echoes b w h y1) := by
  have hk := (kX12_echoes l (b 0) (o11 b w) (w 21) (w 28) (w 29) (w 26) (b 20) (b 23) (b 24) (b 33) (b 34) (b 35) (h 20) (h 23) (h 24) (h 33) (h 34) (h 35) y1 rfl rfl rfl rfl rfl rfl rfl rfl rfl hz hx_v)
  simp only [Po11_29, uF_self] at hk
  refine AMi.gE (is := [0, 12, 13, 14, 16, 17, 18]) [1, 2, 3, 4, 5, 6, 7, 8, 9, 10, 11, 15, 19, 20, 21, 22, 23, 24, 25, 26, 27] 28 hk rfl rfl (by decide +kernel) (by decide +kernel) (fun z u hq => ?_)
  obtain ⟨A2, M2, W2, hz, hu⟩ := hq
  subst hu
  exact ⟨rfl, RW b w (uF (uF (uF h 33 A2) 34 M2) 35 W2), rfl, rfl, RW_rest (by decide) rfl, ⟨A2, M2, W2, hz, rfl⟩⟩
def QX12_gift (b : Nat → Nat) (w : Nat → Int) (h : Nat → Int → Int) (ds : List LwS) (y1 : Int) (z : Int) (u : EW) : Prop := ∃ A2 : Int → Int, ∃ M2 : Int → Int, ∃ W2 : Int → Int, ∃ Wb2 : Int → Int, ∃ L2 : Int → Int, ∃ S2 : Int → Int, z = aGift (w 21) (w 28) (w 29) (w 26) (w 22) (w 25) (c5 (h 20) 3) (c5 (h 20) 4) (h 23) (h 24) (c5 (h 20) 2) (c5 (h 20) 1) (aDy (w 27) (csA ds (w 27)) (w 22) (w 21) (w 25)) y1 ∧ u = RW b w (uF (uF (uF (uF (uF (uF h 15 L2) 16 S2) 33 A2) 34 M2) 35 W2) 36 Wb2)
set_option maxRecDepth 100000 in
set_option maxHeartbeats 4000000 in
theorem qX12_gift (l : Launch) (b : Nat → Nat) (w : Nat → Int) (h : Nat → Int → Int) (ds : List LwS) (y1 : Int) (hz : okZ (w 21) (w 28) (w 29) (c5 (h 20) 3) (c5 (h 20) 4) (h 23) (h 24)) (hx_v : inR y1) (hpm : (0 ≤ (w 21) ∧ (w 21) ≤ 6) ∧ 1 ≤ (w 22) ∧ (w 22) ≤ 99) (hho : (w 27) = -1 ∨ (0 ≤ (w 27) ∧ (w 27) ≤ 3 ∧ lawAt (h 6) (h 7) (h 9) (h 10) (h 11) (h 12) (w 27) (csA ds (w 27)))) (hod : okDy (w 21) (w 22) (c5 (h 20) 2) (c5 (h 20) 1)) (hdy : 0 ≤ (w 25) ∧ (w 25) ≤ 1000) : AMi l yX12_gift cX12_gift 7 .int 6 0 0 [rv (b 0), iv y1] (RW b w h) (QX12_gift b w h ds y1) := by
  have hk := (kX12_gift l (b 0) (o11 b w) (w 21) (w 28) (w 29) (w 26) (b 20) (b 23) (b 24) (b 33) (b 34) (b 35) (h 20) (h 23) (h 24) (h 33) (h 34) (h 35) y1 (w 22) (w 27) (w 25) (b 6) (b 7) (b 9) (b 10) (b 11) (b 12) (b 15) (b 16) (h 6) (h 7) (h 9) (h 10) (h 11) (h 12) (h 15) (h 16) (csA ds (w 27)) (b 36) (h 36) rfl rfl rfl rfl rfl rfl rfl rfl rfl rfl rfl rfl rfl rfl rfl rfl rfl rfl rfl rfl rfl rfl hz hx_v hpm hho hod hdy)
  refine AMi.gE (is := [0, 12, 13, 14, 16, 17, 18, 19, 2, 3, 5, 6, 7, 8, 9, 10]) [1, 4, 11, 15, 20, 21, 22, 23, 24, 25, 26, 27] 28 hk rfl rfl (by decide +kernel) (by decide +kernel) (fun z u hq => ?_)
  obtain ⟨A2, M2, W2, Wb2, L2, S2, hz, hu⟩ := hq
  subst hu
  exact ⟨rfl, RW b w (uF (uF (uF (uF (uF (uF h 15 L2) 16 S2) 33 A2) 34 M2) 35 W2) 36 Wb2), rfl, rfl, RW_rest (by decide) rfl, ⟨A2, M2, W2, Wb2, L2, S2, hz, rfl⟩⟩
def QX12_tune (b : Nat → Nat) (w : Nat → Int) (h : Nat → Int → Int) (y1 y2 : Int) (z : Int) (u : EW) : Prop := ∃ z9 : Int, ∃ A2 : Int → Int, ∃ M2 : Int → Int, ∃ W2 : Int → Int, z = z9 ∧ u = RW b w (uF (uF (uF h 33 A2) 34 M2) 35 W2) ∧ rTune (w 21) (w 28) (w 29) (w 26) (c5 (h 20) 3) (c5 (h 20) 4) (h 23) (h 24) (w 30) y1 y2 z9
set_option maxRecDepth 100000 in
set_option maxHeartbeats 4000000 in
theorem qX12_tune (l : Launch) (b : Nat → Nat) (w : Nat → Int) (h : Nat → Int → Int) (y1 y2 : Int) (hz : okZ (w 21) (w 28) (w 29) (c5 (h 20) 3) (c5 (h 20) 4) (h 23) (h 24)) (hx_pp : inR y1) (hx_v : inR y2) (hlim : 0 ≤ (w 30) ∧ (w 30) ≤ 999) : AMi l yX12_tune cX12_tune 8 .int 6 0 0 [rv (b 0), iv y1, iv y2] (RW b w h) (QX12_tune b w h y1 y2) := by
  have hk := (kX12_tune l (b 0) (o11 b w) (w 21) (w 28) (w 29) (w 26) (b 20) (b 23) (b 24) (b 33) (b 34) (b 35) (h 20) (h 23) (h 24) (h 33) (h 34) (h 35) y1 y2 (w 30) rfl rfl rfl rfl rfl rfl rfl rfl rfl rfl rfl hz hx_pp hx_v hlim)
  refine AMi.gE (is := [0, 12, 13, 14, 16, 17, 18]) [1, 2, 3, 4, 5, 6, 7, 8, 9, 10, 11, 15, 19, 20, 21, 22, 23, 24, 25, 26, 27] 28 hk rfl rfl (by decide +kernel) (by decide +kernel) (fun z u hq => ?_)
  obtain ⟨z9, A2, M2, W2, hz, hu, hs⟩ := hq
  subst hu
  exact ⟨rfl, RW b w (uF (uF (uF h 33 A2) 34 M2) 35 W2), rfl, rfl, RW_rest (by decide) rfl, ⟨z9, A2, M2, W2, hz, rfl, hs⟩⟩
def QX12_place (b : Nat → Nat) (w : Nat → Int) (h : Nat → Int → Int) (y1 y2 : Int) (z : Int) (u : EW) : Prop := ∃ A2 : Int → Int, ∃ M2 : Int → Int, ∃ W2 : Int → Int, z = aPlace (w 21) (w 28) (w 29) (w 26) (c5 (h 20) 3) (c5 (h 20) 4) (h 23) (h 24) y1 y2 ∧ u = RW b w (uF (uF (uF h 33 A2) 34 M2) 35 W2)
set_option maxRecDepth 100000 in
set_option maxHeartbeats 4000000 in
theorem qX12_place (l : Launch) (b : Nat → Nat) (w : Nat → Int) (h : Nat → Int → Int) (y1 y2 : Int) (hz : okZ (w 21) (w 28) (w 29) (c5 (h 20) 3) (c5 (h 20) 4) (h 23) (h 24)) (hx_b : inR y1) (hx_i : inR y2) : AMi l yX12_place cX12_place 7 .int 4 0 0 [rv (b 0), iv y1, iv y2] (RW b w h) (QX12_place b w h y1 y2) := by
  have hk := (kX12_place l (b 0) (o11 b w) (w 21) (w 28) (w 29) (w 26) (b 20) (b 23) (b 24) (b 33) (b 34) (b 35) (h 20) (h 23) (h 24) (h 33) (h 34) (h 35) y1 y2 rfl rfl rfl rfl rfl rfl rfl rfl rfl rfl hz hx_b hx_i)
  refine AMi.gE (is := [0, 12, 13, 14, 16, 17, 18]) [1, 2, 3, 4, 5, 6, 7, 8, 9, 10, 11, 15, 19, 20, 21, 22, 23, 24, 25, 26, 27] 28 hk rfl rfl (by decide +kernel) (by decide +kernel) (fun z u hq => ?_)
  obtain ⟨A2, M2, W2, hz, hu⟩ := hq
  subst hu
  exact ⟨rfl, RW b w (uF (uF (uF h 33 A2) 34 M2) 35 W2), rfl, rfl, RW_rest (by decide) rfl, ⟨A2, M2, W2, hz, rfl⟩⟩
def QX12_overtakes (b : Nat → Nat) (w : Nat → Int) (h : Nat → Int → Int) (y1 y2 : Int) (z : Int) (u : EW) : Prop := ∃ A2 : Int → Int, ∃ M2 : Int → Int, ∃ W2 : Int → Int, z = aOver (w 21) (w 28) (w 29) (w 26) (c5 (h 20) 3) (c5 (h 20) 4) (h 23) (h 24) y1 y2 ∧ u = RW b w (uF (uF (uF h 33 A2) 34 M2) 35 W2)
set_option maxRecDepth 100000 in
set_option maxHeartbeats 4000000 in
theorem qX12_overtakes (l : Launch) (b : Nat → Nat) (w : Nat → Int) (h : Nat → Int → Int) (y1 y2 : Int) (hz : okZ (w 21) (w 28) (w 29) (c5 (h 20) 3) (c5 (h 20) 4) (h 23) (h 24)) (hx_i : inR y1) (hx_j : inR y2) : AMi l yX12_overtakes cX12_overtakes 6 .int 4 0 0 [rv (b 0), iv y1, iv y2] (RW b w h) (QX12_overtakes b w h y1 y2) := by
  have hk := (kX12_overtakes l (b 0) (o11 b w) (w 21) (w 28) (w 29) (w 26) (b 20) (b 23) (b 24) (b 33) (b 34) (b 35) (h 20) (h 23) (h 24) (h 33) (h 34) (h 35) y1 y2 rfl rfl rfl rfl rfl rfl rfl rfl rfl rfl hz hx_i hx_j)
  refine AMi.gE (is := [0, 12, 13, 14, 16, 17, 18]) [1, 2, 3, 4, 5, 6, 7, 8, 9, 10, 11, 15, 19, 20, 21, 22, 23, 24, 25, 26, 27] 28 hk rfl rfl (by decide +kernel) (by decide +kernel) (fun z u hq => ?_)
  obtain ⟨A2, M2, W2, hz, hu⟩ := hq
  subst hu
  exact ⟨rfl, RW b w (uF (uF (uF h 33 A2) 34 M2) 35 W2), rfl, rfl, RW_rest (by decide) rfl, ⟨A2, M2, W2, hz, rfl⟩⟩
def QX12_middle (b : Nat → Nat) (w : Nat → Int) (h : Nat → Int → Int) (z : Int) (u : EW) : Prop := ∃ A2 : Int → Int, ∃ M2 : Int → Int, ∃ W2 : Int → Int, z = aMiddle (w 21) (w 28) (w 29) (w 26) (c5 (h 20) 3) (c5 (h 20) 4) (h 23) (h 24) ∧ u = RW b w (uF (uF (uF h 33 A2) 34 M2) 35 W2)
set_option maxRecDepth 100000 in
set_option maxHeartbeats 4000000 in
theorem qX12_middle (l : Launch) (b : Nat → Nat) (w : Nat → Int) (h : Nat → Int → Int) (hz : okZ (w 21) (w 28) (w 29) (c5 (h 20) 3) (c5 (h 20) 4) (h 23) (h 24)) : AMi l yX12_middle cX12_middle 6 .int 4 0 0 [rv (b 0)] (RW b w h) (QX12_middle b w h) := by
  have hk := (kX12_middle l (b 0) (o11 b w) (w 21) (w 28) (w 29) (w 26) (b 20) (b 23) (b 24) (b 33) (b 34) (b 35) (h 20) (h 23) (h 24) (h 33) (h 34) (h 35) rfl rfl rfl rfl rfl rfl rfl rfl rfl rfl hz)
  refine AMi.gE (is := [0, 12, 13, 14, 16, 17, 18]) [1, 2, 3, 4, 5, 6, 7, 8, 9, 10, 11, 15, 19, 20, 21, 22, 23, 24, 25, 26, 27] 28 hk rfl rfl (by decide +kernel) (by decide +kernel) (fun z u hq => ?_)
  obtain ⟨A2, M2, W2, hz, hu⟩ := hq
  subst hu
  exact ⟨rfl, RW b w (uF (uF (uF h 33 A2) 34 M2) 35 W2), rfl, rfl, RW_rest (by decide) rfl, ⟨A2, M2, W2, hz, rfl⟩⟩
def QX12_ends (b : Nat → Nat) (w : Nat → Int) (h : Nat → Int → Int) (y1 : Int) (z : Int) (u : EW) : Prop := ∃ A2 : Int → Int, ∃ M2 : Int → Int, ∃ W2 : Int → Int, z = aEnds (w 21) (w 28) (w 29) (w 26) (c5 (h 20) 3) (c5 (h 20) 4) (h 23) (h 24) y1 ∧ u = RW b w (uF (uF (uF h 33 A2) 34 M2) 35 W2)
set_option maxRecDepth 100000 in
set_option maxHeartbeats 4000000 in
theorem qX12_ends (l : Launch) (b : Nat → Nat) (w : Nat → Int) (h : Nat → Int → Int) (y1 : Int) (hz : okZ (w 21) (w 28) (w 29) (c5 (h 20) 3) (c5 (h 20) 4) (h 23) (h 24)) (hx_v : inR y1) : AMi l yX12_ends cX12_ends 3 .int 4 0 0 [rv (b 0), iv y1] (RW b w h) (QX12_ends b w h y1) := by
  have hk := (kX12_ends l (b 0) (o11 b w) (w 21) (w 28) (w 29) (w 26) (b 20) (b 23) (b 24) (b 33) (b 34) (b 35) (h 20) (h 23) (h 24) (h 33) (h 34) (h 35) y1 rfl rfl rfl rfl rfl rfl rfl rfl rfl rfl hz hx_v)
  refine AMi.gE (is := [0, 12, 13, 14, 16, 17, 18]) [1, 2, 3, 4, 5, 6, 7, 8, 9, 10, 11, 15, 19, 20, 21, 22, 23, 24, 25, 26, 27] 28 hk rfl rfl (by decide +kernel) (by decide +kernel) (fun z u hq => ?_)
  obtain ⟨A2, M2, W2, hz, hu⟩ := hq
  subst hu
  exact ⟨rfl, RW b w (uF (uF (uF h 33 A2) 34 M2) 35 W2), rfl, rfl, RW_rest (by decide) rfl, ⟨A2, M2, W2, hz, rfl⟩⟩
def QX12_stray (b : Nat → Nat) (w : Nat → Int) (h : Nat → Int → Int) (y1 y2 : Int) (z : Int) (u : EW) : Prop := ∃ A2 : Int → Int, ∃ M2 : Int → Int, ∃ W2 : Int → Int, z = aStray (w 21) (w 28) (w 29) (c5 (h 20) 3) (c5 (h 20) 4) (h 23) y1 y2 ∧ u = RW b w (uF (uF (uF h 33 A2) 34 M2) 35 W2)
set_option maxRecDepth 100000 in
set_option maxHeartbeats 4000000 in
theorem qX12_stray (l : Launch) (b : Nat → Nat) (w : Nat → Int) (h : Nat → Int → Int) (y1 y2 : Int) (hz : okZ (w 21) (w 28) (w 29) (c5 (h 20) 3) (c5 (h 20) 4) (h 23) (h 24)) (hx_pp : inR y1) (hx_v : inR y2) : AMi l yX12_stray cX12_stray 4 .int 4 0 0 [rv (b 0), iv y1, iv y2] (RW b w h) (QX12_stray b w h y1 y2) := by
  have hk := (kX12_stray l (b 0) (o11 b w) (w 21) (w 28) (w 29) (w 26) (b 20) (b 23) (b 24) (b 33) (b 34) (b 35) (h 20) (h 23) (h 24) (h 33) (h 34) (h 35) y1 y2 rfl rfl rfl rfl rfl rfl rfl rfl rfl rfl hz hx_pp hx_v)
  refine AMi.gE (is := [0, 12, 13, 14, 16, 17, 18]) [1, 2, 3, 4, 5, 6, 7, 8, 9, 10, 11, 15, 19, 20, 21, 22, 23, 24, 25, 26, 27] 28 hk rfl rfl (by decide +kernel) (by decide +kernel) (fun z u hq => ?_)
  obtain ⟨A2, M2, W2, hz, hu⟩ := hq
  subst hu
  exact ⟨rfl, RW b w (uF (uF (uF h 33 A2) 34 M2) 35 W2), rfl, rfl, RW_rest (by decide) rfl, ⟨A2, M2, W2, hz, rfl⟩⟩
def QX12_image (b : Nat → Nat) (w : Nat → Int) (h : Nat → Int → Int) (z : Int) (u : EW) : Prop := (z = -1 ∧ u = RW b w h ∧ (w 21) = 0) ∨ (∃ I2 : Int → Int, z = (w 25) ∧ u = RW b (uF (uF w 48 (w 25)) 49 1) (uF h 47 I2) ∧ 1 ≤ (w 21) ∧ (∀ x, 0 ≤ x → x < 6 → I2 x = (h 23) x))
set_option maxRecDepth 100000 in
set_option maxHeartbeats 4000000 in
theorem qX12_image (l : Launch) (b : Nat → Nat) (w : Nat → Int) (h : Nat → Int → Int) (hpl : 0 ≤ (w 21) ∧ (w 21) ≤ 6) : AMi l yX12_image cX12_image 2 .int 0 0 0 [rv (b 0)] (RW b w h) (QX12_image b w h) := by
  have hk := (kX12_image l (b 0) (o11 b w) (w 21) (b 23) (h 23) (b 47) (h 47) (w 25) (w 48) (w 49) rfl rfl rfl rfl hpl)
  simp only [Po11_48, Po11_49, uF_self] at hk
  refine AMi.gE (is := [0, 13, 27]) [1, 2, 3, 4, 5, 6, 7, 8, 9, 10, 11, 12, 14, 15, 16, 17, 18, 19, 20, 21, 22, 23, 24, 25, 26] 28 hk rfl rfl (by decide +kernel) (by decide +kernel) (fun z u hq => ?_)
  rcases hq with ⟨hz, hu, hq⟩ | ⟨I2, hz, hu, hq, hI2⟩
  · subst hu
    exact ⟨rfl, RW b w h, rfl, rfl, RW_rest (by decide) rfl, Or.inl ⟨hz, rfl, hq⟩⟩
  · subst hu
    exact ⟨rfl, RW b (uF (uF w 48 (w 25)) 49 1) (uF h 47 I2), rfl, rfl, RW_rest (by decide) rfl, Or.inr (⟨I2, hz, rfl, hq, hI2⟩)⟩
def QX12_back (b : Nat → Nat) (w : Nat → Int) (h : Nat → Int → Int) (z : Int) (u : EW) : Prop := (z = -1 ∧ u = RW b w h ∧ (w 49) = 0) ∨ (∃ B2 : Int → Int, z = (w 48) ∧ u = RW b (uF (uF w 25 (w 48)) 32 0) (uF h 23 B2) ∧ (w 49) = 1 ∧ (∀ x, 0 ≤ x → x < 6 → B2 x = (h 47) x))
set_option maxRecDepth 100000 in
set_option maxHeartbeats 4000000 in
theorem qX12_back (l : Launch) (b : Nat → Nat) (w : Nat → Int) (h : Nat → Int → Int) (hh : (w 49) = 0 ∨ (w 49) = 1) : AMi l yX12_back cX12_back 2 .int 0 0 0 [rv (b 0)] (RW b w h) (QX12_back b w h) := by
  have hk := (kX12_back l (b 0) (o11 b w) (b 23) (h 23) (b 47) (h 47) (w 25) (w 48) (w 49) (w 32) rfl rfl rfl rfl hh)
  simp only [Po11_25, Po11_32, uF_self] at hk
  refine AMi.gE (is := [0, 13, 27]) [1, 2, 3, 4, 5, 6, 7, 8, 9, 10, 11, 12, 14, 15, 16, 17, 18, 19, 20, 21, 22, 23, 24, 25, 26] 28 hk rfl rfl (by decide +kernel) (by decide +kernel) (fun z u hq => ?_)
  rcases hq with ⟨hz, hu, hq⟩ | ⟨B2, hz, hu, hq, hB2⟩
  · subst hu
    exact ⟨rfl, RW b w h, rfl, rfl, RW_rest (by decide) rfl, Or.inl ⟨hz, rfl, hq⟩⟩
  · subst hu
    exact ⟨rfl, RW b (uF (uF w 25 (w 48)) 32 0) (uF h 23 B2), rfl, rfl, RW_rest (by decide) rfl, Or.inr (⟨B2, hz, rfl, hq, hB2⟩)⟩
def QX12_count (b : Nat → Nat) (w : Nat → Int) (h : Nat → Int → Int) (y1 : Int) (z : Int) (u : EW) : Prop := ∃ z9 : Int, z = z9 ∧ u = RW b w h
set_option maxRecDepth 100000 in
set_option maxHeartbeats 4000000 in
theorem qX12_count (l : Launch) (b : Nat → Nat) (w : Nat → Int) (h : Nat → Int → Int) (y1 : Int) (hx_v : inR y1) : AMi l yX12_count cX12_count 2 .int 0 0 0 [rv (b 0), iv y1] (RW b w h) (QX12_count b w h y1) := by
  have hk := (kX12_count l (b 0) (o11 b w) y1 (w 21) (w 22) (w 13) (w 2) (w 25) (w 27) (w 28) (w 29) (w 30) (w 26) (w 46) (w 32) rfl rfl rfl rfl rfl rfl rfl rfl rfl rfl rfl rfl hx_v)
  refine AMi.gE (is := [0]) [1, 2, 3, 4, 5, 6, 7, 8, 9, 10, 11, 12, 13, 14, 15, 16, 17, 18, 19, 20, 21, 22, 23, 24, 25, 26, 27] 28 hk rfl rfl (by decide +kernel) (by decide +kernel) (fun z u hq => ?_)
  obtain ⟨z9, hz, hu⟩ := hq
  subst hu
  exact ⟨rfl, RW b w h, rfl, rfl, RW_rest (by decide) rfl, ⟨z9, hz, rfl⟩⟩
