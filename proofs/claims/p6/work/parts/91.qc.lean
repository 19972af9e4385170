def QX11_feed (a : Nat → Nat) (v : Nat → Int) (g : Nat → Int → Int) (R : Int → Int → Int) (ds : List LwS) (ys : Nat → LwY) (y1 y2 y3 y4 y5 : Int) (z : Int) (u : EW) : Prop := (z = -1 ∧ u = CW a v g R ds ys ∧ 160 < (v 4) + fbn y1 y2 y3 y4 y5) ∨ (∃ n2 : Int, ∃ T2 : Int → Int, z = n2 ∧ u = CW a (uF v 4 n2) (uF g 21 T2) R ds ys ∧ (v 4) + fbn y1 y2 y3 y4 y5 ≤ 160 ∧ n2 = (v 4) + fbn y1 y2 y3 y4 y5 ∧ T2 = wrL (g 21) (v 4) (fbs y1 y2 y3 y4 y5))
set_option maxRecDepth 100000 in
set_option maxHeartbeats 4000000 in
theorem qX11_feed (l : Launch) (a : Nat → Nat) (v : Nat → Int) (g : Nat → Int → Int) (R : Int → Int → Int) (ds : List LwS) (ys : Nat → LwY) (y1 y2 y3 y4 y5 : Int) (hn : 0 ≤ (v 4) ∧ (v 4) ≤ 160) : AMi l yX11_feed cX11_feed 7 .int 1 0 0 [rv (a 19), iv y1, iv y2, iv y3, iv y4, iv y5] (CW a v g R ds ys) (QX11_feed a v g R ds ys y1 y2 y3 y4 y5) := by
  have hk := (kX11_feed l (a 19) (a 20) (a 21) (o10 a v) (o6 a v) (g 21) (v 4) y1 y2 y3 y4 y5 rfl rfl hn)
  simp only [Po6_1, uF_self] at hk
  refine AMi.gL (wl := CF a v g R ds) (is := [19, 20, 21]) [0, 1, 2, 3, 4, 5, 6, 7, 8, 9, 10, 11, 12, 13, 14, 15, 16, 17, 18, 22, 23, 24, 25, 26, 27, 28, 29, 30, 31, 32, 33, 34, 35, 36, 37, 38, 39, 40, 41, 42, 43, 44] 45 hk rfl rfl (by decide +kernel) (by decide +kernel) (fun z u hq => ?_)
  rcases hq with ⟨hz, hu, hq⟩ | ⟨n2, T2, hz, hu, hq, h2, h3⟩
  · subst hu
    exact ⟨rfl, CF a v g R ds, rfl, rfl, CF_rest (by decide) rfl, Or.inl ⟨hz, rfl, hq⟩⟩
  · subst hu
    exact ⟨rfl, CF a (uF v 4 n2) (uF g 21 T2) R ds, rfl, rfl, CF_rest (by decide) rfl, Or.inr (⟨n2, T2, hz, rfl, hq, h2, h3⟩)⟩
def QX11_end (a : Nat → Nat) (v : Nat → Int) (g : Nat → Int → Int) (R : Int → Int → Int) (ds : List LwS) (ys : Nat → LwY) (y1 : Int) (z : Int) (u : EW) : Prop := (z = 0 ∧ u = CW a v g R ds ys ∧ (¬ (0 ≤ y1 ∧ y1 ≤ (v 4)))) ∨ (z = 1 ∧ u = CW a (uF v 4 y1) g R ds ys ∧ (0 ≤ y1 ∧ y1 ≤ (v 4)))
set_option maxRecDepth 100000 in
set_option maxHeartbeats 4000000 in
theorem qX11_end (l : Launch) (a : Nat → Nat) (v : Nat → Int) (g : Nat → Int → Int) (R : Int → Int → Int) (ds : List LwS) (ys : Nat → LwY) (y1 : Int) (hn : 0 ≤ (v 4) ∧ (v 4) ≤ 160) (hm : inR y1) : AMi l yX11_end cX11_end 2 .boolean 0 0 0 [rv (a 19), iv y1] (CW a v g R ds ys) (QX11_end a v g R ds ys y1) := by
  have hk := (kX11_end l (a 19) (a 20) (o10 a v) (o6 a v) (v 4) y1 rfl hn hm)
  simp only [Po6_1, uF_self] at hk
  refine AMi.gL (wl := CF a v g R ds) (is := [19, 20]) [0, 1, 2, 3, 4, 5, 6, 7, 8, 9, 10, 11, 12, 13, 14, 15, 16, 17, 18, 21, 22, 23, 24, 25, 26, 27, 28, 29, 30, 31, 32, 33, 34, 35, 36, 37, 38, 39, 40, 41, 42, 43, 44] 45 hk rfl rfl (by decide +kernel) (by decide +kernel) (fun z u hq => ?_)
  rcases hq with ⟨hz, hu, hq⟩ | ⟨hz, hu, hq⟩
  · subst hu
    exact ⟨rfl, CF a v g R ds, rfl, rfl, CF_rest (by decide) rfl, Or.inl ⟨hz, rfl, hq⟩⟩
  · subst hu
    exact ⟨rfl, CF a (uF v 4 y1) g R ds, rfl, rfl, CF_rest (by decide) rfl, Or.inr (⟨hz, rfl, hq⟩)⟩
def QX11_fault (a : Nat → Nat) (v : Nat → Int) (g : Nat → Int → Int) (R : Int → Int → Int) (ds : List LwS) (ys : Nat → LwY) (y1 : Int) (z : Int) (u : EW) : Prop := (∃ fl : Int, ∃ a2 : Int, ∃ x2 : Int, ∃ p2 : Int, ∃ m2 : Int, ∃ R2 : Int → Int → Int, z = fl ∧ u = CW a (uF (uF (uF (uF (uF v 5 a2) 6 fl) 7 x2) 8 p2) 9 m2) g R2 ds ys ∧ y1 = 0 ∧ tnRes (g 21) (v 4) R = .inl fl ∧ (0 ≤ fl ∧ fl ≤ 160)) ∨ (∃ a2 : Int, ∃ x2 : Int, ∃ p2 : Int, ∃ m2 : Int, ∃ R2 : Int → Int → Int, z = -1 ∧ u = CW a (uF (uF (uF (uF (uF v 5 a2) 6 (-1)) 7 x2) 8 p2) 9 m2) g R2 ds ys ∧ y1 = 0 ∧ tnRes (g 21) (v 4) R = .inr (p2, m2, x2, R2) ∧ okTS (p2, m2, x2, R2)) ∨ (∃ fl : Int, ∃ a2 : Int, ∃ x2 : Int, ∃ C2 : Int → Int, z = fl ∧ u = CW a (uF (uF (uF v 10 a2) 11 fl) 12 x2) (uF g 30 C2) R ds ys ∧ y1 = 1 ∧ lwRes (g 21) (v 4) = .inl fl ∧ (0 ≤ fl ∧ fl ≤ 160)) ∨ (∃ a2 : Int, ∃ ts : List Int, z = -1 ∧ u = CW a (uF (uF (uF v 10 a2) 11 (-1)) 12 (0 + ((ts).length : Int))) (uF g 30 (wrL (g 30) 0 (ts))) R ds ys ∧ y1 = 1 ∧ lwRes (g 21) (v 4) = .inr ts ∧ (ts.length : Int) ≤ 160 ∧ (∀ t ∈ ts, -200 ≤ t ∧ t ≤ 9999)) ∨ (z = -2 ∧ u = CW a v g R ds ys ∧ (y1 ≠ 0 ∧ y1 ≠ 1))
set_option maxRecDepth 100000 in
set_option maxHeartbeats 4000000 in
theorem qX11_fault (l : Launch) (a : Nat → Nat) (v : Nat → Int) (g : Nat → Int → Int) (R : Int → Int → Int) (ds : List LwS) (ys : Nat → LwY) (y1 : Int) (hT : okT (g 21) (v 4)) (hx_v : inR y1) : AMi l yX11_fault cX11_fault 2 .int 33 0 0 [rv (a 19), iv y1] (CW a v g R ds ys) (QX11_fault a v g R ds ys y1) := by
  have hk := (kX11_fault l (a 19) (o10 a v) (a 22) (o8 a v) (v 5) (v 6) (v 7) (a 20) (o6 a v) (a 21) (g 21) (v 4) (a 23) (o7d a v) (v 8) (v 9) (a 24) (a 25) (a 26) (a 27) (a 28) R (a 29) (o2 a v) (v 10) (v 11) (v 12) (a 30) (g 30) y1 rfl rfl rfl rfl rfl rfl rfl rfl rfl rfl rfl rfl rfl hT hx_v)
  simp only [Po2_1, Po2_2, Po2_4, Po6_1, Po7d_0, Po7d_1, Po8_1, Po8_2, Po8_4, uF_self] at hk
  refine AMi.gL (wl := CF a v g R ds) (is := [19, 20, 21, 22, 23, 24, 25, 26, 27, 28, 29, 30]) [0, 1, 2, 3, 4, 5, 6, 7, 8, 9, 10, 11, 12, 13, 14, 15, 16, 17, 18, 31, 32, 33, 34, 35, 36, 37, 38, 39, 40, 41, 42, 43, 44] 45 hk rfl rfl (by decide +kernel) (by decide +kernel) (fun z u hq => ?_)
  rcases hq with ⟨fl, a2, x2, p2, m2, R2, hz, hu, hv, hr, hfl⟩ | ⟨a2, x2, p2, m2, R2, hz, hu, hv, hr, hk⟩ | ⟨fl, a2, x2, C2, hz, hu, hv, hr, hfl⟩ | ⟨a2, ts, hz, hu, hv, hr, hl, ht2⟩ | ⟨hz, hu, hv⟩
  · subst hu
    exact ⟨rfl, CF a (uF (uF (uF (uF (uF v 5 a2) 6 fl) 7 x2) 8 p2) 9 m2) g R2 ds, rfl, rfl, CF_rest (by decide) rfl, Or.inl ⟨fl, a2, x2, p2, m2, R2, hz, rfl, hv, hr, hfl⟩⟩
  · subst hu
    exact ⟨rfl, CF a (uF (uF (uF (uF (uF v 5 a2) 6 (-1)) 7 x2) 8 p2) 9 m2) g R2 ds, rfl, rfl, CF_rest (by decide) rfl, Or.inr (Or.inl ⟨a2, x2, p2, m2, R2, hz, rfl, hv, hr, hk⟩)⟩
  · subst hu
    exact ⟨rfl, CF a (uF (uF (uF v 10 a2) 11 fl) 12 x2) (uF g 30 C2) R ds, rfl, rfl, CF_rest (by decide) rfl, Or.inr (Or.inr (Or.inl ⟨fl, a2, x2, C2, hz, rfl, hv, hr, hfl⟩))⟩
  · subst hu
    exact ⟨rfl, CF a (uF (uF (uF v 10 a2) 11 (-1)) 12 (0 + ((ts).length : Int))) (uF g 30 (wrL (g 30) 0 (ts))) R ds, rfl, rfl, CF_rest (by decide) rfl, Or.inr (Or.inr (Or.inr (Or.inl ⟨a2, ts, hz, rfl, hv, hr, hl, ht2⟩)))⟩
  · subst hu
    exact ⟨rfl, CF a v g R ds, rfl, rfl, CF_rest (by decide) rfl, Or.inr (Or.inr (Or.inr (Or.inr (⟨hz, rfl, hv⟩))))⟩
def QX11_text (a : Nat → Nat) (v : Nat → Int) (g : Nat → Int → Int) (R : Int → Int → Int) (ds : List LwS) (ys : Nat → LwY) (y1 : Int) (z : Int) (u : EW) : Prop := (z = -1 ∧ u = CW a v g R ds ys ∧ (y1 ≠ 0 ∧ y1 ≠ 1)) ∨ (∃ fl : Int, ∃ a2 : Int, ∃ x2 : Int, ∃ p2 : Int, ∃ m2 : Int, ∃ R2 : Int → Int → Int, z = -1 ∧ u = CW a (uF (uF (uF (uF (uF v 5 a2) 6 fl) 7 x2) 8 p2) 9 m2) g R2 ds ys ∧ y1 = 0 ∧ tnRes (g 21) (v 4) R = .inl fl) ∨ (∃ a2 : Int, ∃ x2 : Int, ∃ p2 : Int, ∃ m2 : Int, ∃ R2 : Int → Int → Int, ∃ B2 : Int → Int, ∃ D2 : Int → Int, ∃ K2 : Int → Int, ∃ F2 : Int → Int, ∃ H2 : Int → Int, ∃ B3 : Int → Int, ∃ F3 : Int → Int, ∃ H3 : Int → Int, ∃ L3 : Int → Int, ∃ y2 : Nat → LwY, z = p2 ∧ u = CW a (uF (uF (uF (uF (uF (uF (uF (uF (uF (uF (uF (uF (uF (uF (uF v 3 0) 4 0) 5 a2) 6 (-1)) 7 x2) 8 p2) 9 m2) 13 p2) 14 m2) 15 0) 16 0) 17 0) 19 0) 23 0) 35 0) (uF (uF (uF (uF (uF (uF (uF (uF (uF g 32 B2) 33 D2) 34 K2) 35 F2) 36 H2) 38 B3) 39 F3) 40 H3) 41 L3) R2 ds y2 ∧ y1 = 0 ∧ tnRes (g 21) (v 4) R = .inr (p2, m2, x2, R2) ∧ okTS (p2, m2, x2, R2) ∧ (∀ x, 0 ≤ x → x < 6 → B2 x = colR R2 0 x) ∧ (∀ x, 0 ≤ x → x < 6 → D2 x = colR R2 1 x) ∧ (∀ x, 0 ≤ x → x < 6 → K2 x = colR R2 2 x) ∧ (∀ x, 0 ≤ x → x < 6 → F2 x = colR R2 3 x) ∧ (∀ x, 0 ≤ x → x < 6 → H2 x = colR R2 4 x) ∧ (∀ x, 0 ≤ x → x < 6 → B3 x = colR R2 0 x) ∧ (∀ x, 0 ≤ x → x < 6 → F3 x = colR R2 3 x) ∧ (∀ x, 0 ≤ x → x < 6 → H3 x = colR R2 4 x) ∧ (∀ x, 0 ≤ x → x < 6 → L3 x = 0) ∧ okW ds y2 m2 p2) ∨ (z = -1 ∧ u = CW a v g R ds ys ∧ y1 = 1 ∧ 4 ≤ (v 1)) ∨ (∃ fl : Int, ∃ a2 : Int, ∃ x2 : Int, ∃ C2 : Int → Int, z = -1 ∧ u = CW a (uF (uF (uF v 10 a2) 11 fl) 12 x2) (uF g 30 C2) R ds ys ∧ y1 = 1 ∧ (v 1) < 4 ∧ lwRes (g 21) (v 4) = .inl fl) ∨ (∃ a2 : Int, ∃ x2 : Int, ∃ C2 : Int → Int, ∃ cs : List (List Int × List Int), ∃ x9 : LwS, ∃ v9 : LwY, z = (v 1) ∧ u = CW a (uF (uF (uF (uF (uF v 1 ((v 1) + 1)) 4 0) 10 a2) 11 (-1)) 12 x2) (uF g 30 C2) R (ds ++ [x9]) (uN ys ds.length v9) ∧ y1 = 1 ∧ (v 1) < 4 ∧ pLawLS (g 21) (v 4) 161 0 [] = .inr cs ∧ x9.cs = cs ∧ lwSok x9 ∧ v9.kn = 0)
set_option maxRecDepth 100000 in
set_option maxHeartbeats 4000000 in
theorem qX11_text (l : Launch) (a : Nat → Nat) (v : Nat → Int) (g : Nat → Int → Int) (R : Int → Int → Int) (ds : List LwS) (ys : Nat → LwY) (y1 : Int) (hT : okT (g 21) (v 4)) (htn : 0 ≤ (v 4) ∧ (v 4) ≤ 160) (hx_v : inR y1) (hds : (ds.length : Int) = (v 1) ∧ 0 ≤ (v 1) ∧ (v 1) ≤ 4) (hdy : okW ds ys (v 14) (v 13)) : AMi l yX11_text cX11_text 2 .int 33 4 1325 [rv (a 19), iv y1] (CW a v g R ds ys) (QX11_text a v g R ds ys y1) := by
  have hk := (kX11_text l (a 19) (o10 a v) (a 20) (o6 a v) (v 4) (a 21) (g 21) (a 22) (o8 a v) (v 5) (v 6) (v 7) (a 23) (o7d a v) (v 8) (v 9) (a 24) (a 25) (a 26) (a 27) (a 28) R (a 29) (o2 a v) (v 10) (v 11) (v 12) (a 30) (g 30) (v 3) (a 31) (o7w a v) (v 13) (v 14) (a 32) (a 33) (a 34) (a 35) (a 36) (g 32) (g 33) (g 34) (g 35) (g 36) (a 37) (o5s a v) (v 13) (v 21) (v 22) (v 23) (a 38) (a 39) (a 40) (a 41) (g 38) (g 39) (g 40) (g 41) (a 42) (o0 a v) (v 15) (v 16) (v 17) (v 18) (v 19) (a 43) (o9 a v) (v 35) ds ys (v 14) (v 13) (v 1) (a 44) y1 rfl rfl rfl rfl rfl rfl rfl rfl rfl rfl rfl rfl rfl rfl rfl rfl rfl rfl rfl rfl rfl rfl rfl rfl rfl rfl rfl hT htn hx_v hds hdy)
  simp only [Po0_0, Po0_1, Po0_2, Po0_3, Po0_4, Po10_13, Po10_15, Po2_1, Po2_2, Po2_4, Po5s_0, Po5s_1, Po5s_2, Po5s_3, Po6_1, Po7d_0, Po7d_1, Po7w_0, Po7w_1, Po8_1, Po8_2, Po8_4, Po9_0, uF_self] at hk
  refine AMi.frAT (wl := CF a v g R ds) (wr := (CF a v g R ds).take 19) hk rfl (fun z u hq => ?_)
  rcases hq with ⟨hz, hu, hv⟩ | ⟨fl, a2, x2, p2, m2, R2, hz, hu, hv, hr⟩ | ⟨a2, x2, p2, m2, R2, B2, D2, K2, F2, H2, B3, F3, H3, L3, y2, hz, hu, hv, hr, hk, hB2, hD2, hK2, hF2, hH2, hB3, hF3, hH3, hL3, hy2⟩ | ⟨hz, hu, hv, hl⟩ | ⟨fl, a2, x2, C2, hz, hu, hv, hl, hr⟩ | ⟨a2, x2, C2, cs, x9, v9, hz, hu, hv, hl, hr, hcs, hok, hkn⟩
  · subst hu
    exact ⟨CW a v g R ds ys, rfl, Or.inl ⟨hz, rfl, hv⟩⟩
  · subst hu
    exact ⟨CW a (uF (uF (uF (uF (uF v 5 a2) 6 fl) 7 x2) 8 p2) 9 m2) g R2 ds ys, rfl, Or.inr (Or.inl ⟨fl, a2, x2, p2, m2, R2, hz, rfl, hv, hr⟩)⟩
  · subst hu
    exact ⟨CW a (uF (uF (uF (uF (uF (uF (uF (uF (uF (uF (uF (uF (uF (uF (uF v 3 0) 4 0) 5 a2) 6 (-1)) 7 x2) 8 p2) 9 m2) 13 p2) 14 m2) 15 0) 16 0) 17 0) 19 0) 23 0) 35 0) (uF (uF (uF (uF (uF (uF (uF (uF (uF g 32 B2) 33 D2) 34 K2) 35 F2) 36 H2) 38 B3) 39 F3) 40 H3) 41 L3) R2 ds y2, rfl, Or.inr (Or.inr (Or.inl ⟨a2, x2, p2, m2, R2, B2, D2, K2, F2, H2, B3, F3, H3, L3, y2, hz, rfl, hv, hr, hk, hB2, hD2, hK2, hF2, hH2, hB3, hF3, hH3, hL3, hy2⟩))⟩
  · subst hu
    exact ⟨CW a v g R ds ys, rfl, Or.inr (Or.inr (Or.inr (Or.inl ⟨hz, rfl, hv, hl⟩)))⟩
  · subst hu
    exact ⟨CW a (uF (uF (uF v 10 a2) 11 fl) 12 x2) (uF g 30 C2) R ds ys, rfl, Or.inr (Or.inr (Or.inr (Or.inr (Or.inl ⟨fl, a2, x2, C2, hz, rfl, hv, hl, hr⟩))))⟩
  · subst hu
    exact ⟨CW a (uF (uF (uF (uF (uF v 1 ((v 1) + 1)) 4 0) 10 a2) 11 (-1)) 12 x2) (uF g 30 C2) R (ds ++ [x9]) (uN ys ds.length v9), rfl, Or.inr (Or.inr (Or.inr (Or.inr (Or.inr (⟨a2, x2, C2, cs, x9, v9, hz, rfl, hv, hl, hr, hcs, hok, hkn⟩)))))⟩
def QX11_set (a : Nat → Nat) (v : Nat → Int) (g : Nat → Int → Int) (R : Int → Int → Int) (ds : List LwS) (ys : Nat → LwY) (y1 y2 : Int) (z : Int) (u : EW) : Prop := (z = 0 ∧ u = CW a v g R ds ys ∧ (¬ ((y1 = 0 ∧ -1 ≤ y2 ∧ y2 < (v 1)) ∨ (y1 = 1 ∧ 1 ≤ y2 ∧ y2 ≤ 30) ∨ (y1 = 2 ∧ 0 ≤ y2 ∧ y2 ≤ 3) ∨ (y1 = 3 ∧ 0 ≤ y2 ∧ y2 ≤ 999)))) ∨ (z = 1 ∧ u = CW a (uF (uF v 2 y2) 35 0) g R ds ys ∧ (y1 = 0 ∧ -1 ≤ y2 ∧ y2 < (v 1))) ∨ (z = 1 ∧ u = CW a (uF (uF v 21 y2) 35 0) g R ds ys ∧ (y1 = 1 ∧ 1 ≤ y2 ∧ y2 ≤ 30)) ∨ (z = 1 ∧ u = CW a (uF (uF v 22 y2) 35 0) g R ds ys ∧ (y1 = 2 ∧ 0 ≤ y2 ∧ y2 ≤ 3)) ∨ (z = 1 ∧ u = CW a (uF (uF v 0 y2) 35 0) g R ds ys ∧ (y1 = 3 ∧ 0 ≤ y2 ∧ y2 ≤ 999))
set_option maxRecDepth 100000 in
set_option maxHeartbeats 4000000 in
theorem qX11_set (l : Launch) (a : Nat → Nat) (v : Nat → Int) (g : Nat → Int → Int) (R : Int → Int → Int) (ds : List LwS) (ys : Nat → LwY) (y1 y2 : Int) (hlw : 0 ≤ (v 1) ∧ (v 1) ≤ 4) (hx_v : inR y1) (hx_x : inR y2) : AMi l yX11_set cX11_set 4 .boolean 1 0 0 [rv (a 19), iv y1, iv y2] (CW a v g R ds ys) (QX11_set a v g R ds ys y1 y2) := by
  have hk := (kX11_set l (a 19) (o10 a v) (o5s a v) (v 21) (v 22) (a 37) (a 43) (o9 a v) (v 35) (v 0) (v 2) (v 1) y1 y2 rfl rfl rfl hlw hx_v hx_x)
  simp only [Po10_12, Po10_14, Po5s_1, Po5s_2, Po9_0, uF_self] at hk
  refine AMi.gL (wl := CF a v g R ds) (is := [19, 37, 43]) [0, 1, 2, 3, 4, 5, 6, 7, 8, 9, 10, 11, 12, 13, 14, 15, 16, 17, 18, 20, 21, 22, 23, 24, 25, 26, 27, 28, 29, 30, 31, 32, 33, 34, 35, 36, 38, 39, 40, 41, 42, 44] 45 hk rfl rfl (by decide +kernel) (by decide +kernel) (fun z u hq => ?_)
  rcases hq with ⟨hz, hu, hq⟩ | ⟨hz, hu, hq⟩ | ⟨hz, hu, hq⟩ | ⟨hz, hu, hq⟩ | ⟨hz, hu, hq⟩
  · subst hu
    exact ⟨rfl, CF a v g R ds, rfl, rfl, CF_rest (by decide) rfl, Or.inl ⟨hz, rfl, hq⟩⟩
  · subst hu
    exact ⟨rfl, CF a (uF (uF v 2 y2) 35 0) g R ds, rfl, rfl, CF_rest (by decide) rfl, Or.inr (Or.inl ⟨hz, rfl, hq⟩)⟩
  · subst hu
    exact ⟨rfl, CF a (uF (uF v 21 y2) 35 0) g R ds, rfl, rfl, CF_rest (by decide) rfl, Or.inr (Or.inr (Or.inl ⟨hz, rfl, hq⟩))⟩
  · subst hu
    exact ⟨rfl, CF a (uF (uF v 22 y2) 35 0) g R ds, rfl, rfl, CF_rest (by decide) rfl, Or.inr (Or.inr (Or.inr (Or.inl ⟨hz, rfl, hq⟩)))⟩
  · subst hu
    exact ⟨rfl, CF a (uF (uF v 0 y2) 35 0) g R ds, rfl, rfl, CF_rest (by decide) rfl, Or.inr (Or.inr (Or.inr (Or.inr (⟨hz, rfl, hq⟩))))⟩
def QX11_tell (a : Nat → Nat) (v : Nat → Int) (g : Nat → Int → Int) (R : Int → Int → Int) (ds : List LwS) (ys : Nat → LwY) (y1 y2 y3 : Int) (z : Int) (u : EW) : Prop := (z = 0 ∧ u = CW a v g R ds ys ∧ (¬ ((0 ≤ y1 ∧ y1 < (v 13)) ∧ ((y2 = 0 ∧ -1 ≤ y3 ∧ y3 < (v 13) ∧ y3 ≠ y1) ∨ (y2 = 1 ∧ 0 ≤ y3 ∧ y3 ≤ 10) ∨ (y2 = 2 ∧ 0 ≤ y3 ∧ y3 ≤ 50))))) ∨ (z = 1 ∧ u = CW a (uF v 35 0) (uF g 39 (uZ (g 39) y1 y3)) R ds ys ∧ ((0 ≤ y1 ∧ y1 < (v 13)) ∧ y2 = 0 ∧ -1 ≤ y3 ∧ y3 < (v 13) ∧ y3 ≠ y1)) ∨ (z = 1 ∧ u = CW a (uF v 35 0) (uF g 40 (uZ (g 40) y1 y3)) R ds ys ∧ ((0 ≤ y1 ∧ y1 < (v 13)) ∧ y2 = 1 ∧ 0 ≤ y3 ∧ y3 ≤ 10)) ∨ (z = 1 ∧ u = CW a (uF v 35 0) (uF g 41 (uZ (g 41) y1 y3)) R ds ys ∧ ((0 ≤ y1 ∧ y1 < (v 13)) ∧ y2 = 2 ∧ 0 ≤ y3 ∧ y3 ≤ 50))
set_option maxRecDepth 100000 in
set_option maxHeartbeats 4000000 in
theorem qX11_tell (l : Launch) (a : Nat → Nat) (v : Nat → Int) (g : Nat → Int → Int) (R : Int → Int → Int) (ds : List LwS) (ys : Nat → LwY) (y1 y2 y3 : Int) (hpl : 0 ≤ (v 13) ∧ (v 13) ≤ 6) (hx_q : inR y1) (hx_v : inR y2) (hx_x : inR y3) : AMi l yX11_tell cX11_tell 4 .boolean 2 0 0 [rv (a 19), iv y1, iv y2, iv y3] (CW a v g R ds ys) (QX11_tell a v g R ds ys y1 y2 y3) := by
  have hk := (kX11_tell l (a 19) (o10 a v) (a 31) (o7w a v) (o5s a v) (v 13) (a 37) (a 39) (a 40) (a 41) (g 39) (g 40) (g 41) (a 43) (o9 a v) (v 35) y1 y2 y3 rfl rfl rfl rfl rfl rfl rfl hpl hx_q hx_v hx_x)
  simp only [Po9_0, uF_self] at hk
  refine AMi.gL (wl := CF a v g R ds) (is := [19, 31, 37, 39, 40, 41, 43]) [0, 1, 2, 3, 4, 5, 6, 7, 8, 9, 10, 11, 12, 13, 14, 15, 16, 17, 18, 20, 21, 22, 23, 24, 25, 26, 27, 28, 29, 30, 32, 33, 34, 35, 36, 38, 42, 44] 45 hk rfl rfl (by decide +kernel) (by decide +kernel) (fun z u hq => ?_)
  rcases hq with ⟨hz, hu, hq⟩ | ⟨hz, hu, hq⟩ | ⟨hz, hu, hq⟩ | ⟨hz, hu, hq⟩
  · subst hu
    exact ⟨rfl, CF a v g R ds, rfl, rfl, CF_rest (by decide) rfl, Or.inl ⟨hz, rfl, hq⟩⟩
  · subst hu
    exact ⟨rfl, CF a (uF v 35 0) (uF g 39 (uZ (g 39) y1 y3)) R ds, rfl, rfl, CF_rest (by decide) rfl, Or.inr (Or.inl ⟨hz, rfl, hq⟩)⟩
  · subst hu
    exact ⟨rfl, CF a (uF v 35 0) (uF g 40 (uZ (g 40) y1 y3)) R ds, rfl, rfl, CF_rest (by decide) rfl, Or.inr (Or.inr (Or.inl ⟨hz, rfl, hq⟩))⟩
  · subst hu
    exact ⟨rfl, CF a (uF v 35 0) (uF g 41 (uZ (g 41) y1 y3)) R ds, rfl, rfl, CF_rest (by decide) rfl, Or.inr (Or.inr (Or.inr (⟨hz, rfl, hq⟩)))⟩
def QX11_mark (a : Nat → Nat) (v : Nat → Int) (g : Nat → Int → Int) (R : Int → Int → Int) (ds : List LwS) (ys : Nat → LwY) (y1 y2 : Int) (z : Int) (u : EW) : Prop := (z = 0 ∧ u = CW a v g R ds ys ∧ ((v 13) = 0 ∨ y1 < 0 ∨ 29 < y1 ∨ zAnd (zShr (v 23) y1) 1 = y2)) ∨ (z = 1 ∧ u = CW a (uF (uF v 23 (zXor (v 23) (zShl 1 y1))) 35 0) g R ds ys ∧ (1 ≤ (v 13) ∧ 0 ≤ y1 ∧ y1 ≤ 29 ∧ zAnd (zShr (v 23) y1) 1 ≠ y2))
set_option maxRecDepth 100000 in
set_option maxHeartbeats 4000000 in
theorem qX11_mark (l : Launch) (a : Nat → Nat) (v : Nat → Int) (g : Nat → Int → Int) (R : Int → Int → Int) (ds : List LwS) (ys : Nat → LwY) (y1 y2 : Int) (hpl : 0 ≤ (v 13) ∧ (v 13) ≤ 6) (hx_b : inR y1) (hv : y2 = 0 ∨ y2 = 1) : AMi l yX11_mark cX11_mark 3 .boolean 1 0 0 [rv (a 19), iv y1, iv y2] (CW a v g R ds ys) (QX11_mark a v g R ds ys y1 y2) := by
  have hk := (kX11_mark l (a 19) (o10 a v) (a 31) (o7w a v) (o5s a v) (v 13) (v 23) (a 37) (a 43) (o9 a v) (v 35) y1 y2 rfl rfl rfl rfl hpl hx_b hv)
  simp only [Po5s_3, Po9_0, uF_self] at hk
  refine AMi.gL (wl := CF a v g R ds) (is := [19, 31, 37, 43]) [0, 1, 2, 3, 4, 5, 6, 7, 8, 9, 10, 11, 12, 13, 14, 15, 16, 17, 18, 20, 21, 22, 23, 24, 25, 26, 27, 28, 29, 30, 32, 33, 34, 35, 36, 38, 39, 40, 41, 42, 44] 45 hk rfl rfl (by decide +kernel) (by decide +kernel) (fun z u hq => ?_)
  rcases hq with ⟨hz, hu, hq⟩ | ⟨hz, hu, hq⟩
  · subst hu
    exact ⟨rfl, CF a v g R ds, rfl, rfl, CF_rest (by decide) rfl, Or.inl ⟨hz, rfl, hq⟩⟩
  · subst hu
    exact ⟨rfl, CF a (uF (uF v 23 (zXor (v 23) (zShl 1 y1))) 35 0) g R ds, rfl, rfl, CF_rest (by decide) rfl, Or.inr (⟨hz, rfl, hq⟩)⟩
def QX11_damp (a : Nat → Nat) (v : Nat → Int) (g : Nat → Int → Int) (R : Int → Int → Int) (ds : List LwS) (ys : Nat → LwY) (y1 : Int) (z : Int) (u : EW) : Prop := ∃ y2 : Nat → LwY, z = aDamp (v 2) (csA ds (v 2)) (v 14) (v 13) y1 ∧ u = CW a v g R ds y2 ∧ okW ds y2 (v 14) (v 13)
set_option maxRecDepth 100000 in
set_option maxHeartbeats 4000000 in
theorem qX11_damp (l : Launch) (a : Nat → Nat) (v : Nat → Int) (g : Nat → Int → Int) (R : Int → Int → Int) (ds : List LwS) (ys : Nat → LwY) (y1 : Int) (hpl : 0 ≤ (v 13) ∧ (v 13) ≤ 6) (hmt0 : 1 ≤ (v 13) → 1 ≤ (v 14) ∧ (v 14) ≤ 99) (hds : (ds.length : Int) = (v 1) ∧ 0 ≤ (v 1) ∧ (v 1) ≤ 4) (hdy : okW ds ys (v 14) (v 13)) (hho : -1 ≤ (v 2) ∧ (v 2) < (v 1)) (hx_dd : inR y1) : AMi l yX11_damp cX11_damp 2 .int 6 0 0 [rv (a 19), iv y1] (CW a v g R ds ys) (QX11_damp a v g R ds ys y1) := by
  have hk := (kX11_damp l (a 19) (o10 a v) (a 31) (o7w a v) (v 13) ds ys (v 14) (v 1) (a 44) (v 2) y1 rfl rfl rfl rfl rfl hpl hmt0 hds hdy hho hx_dd)
  refine AMi.gT (wl := CF a v g R ds) (is := [19, 31, 44]) [0, 1, 2, 3, 4, 5, 6, 7, 8, 9, 10, 11, 12, 13, 14, 15, 16, 17, 18, 20, 21, 22, 23, 24, 25, 26, 27, 28, 29, 30, 32, 33, 34, 35, 36, 37, 38, 39, 40, 41, 42, 43] 45 hk rfl rfl (by decide +kernel) (by decide +kernel) (fun z u hq => ?_)
  obtain ⟨y2, hz, hu, hy2⟩ := hq
  subst hu
  exact ⟨_, _, rfl, rfl, lwT_key _ _ _, CF a v g R ds, rfl, rfl, CF_rest (by decide) rfl, ⟨y2, hz, rfl, hy2⟩⟩
def QX11_day (a : Nat → Nat) (v : Nat → Int) (g : Nat → Int → Int) (R : Int → Int → Int) (ds : List LwS) (ys : Nat → LwY) (y1 : Int) (z : Int) (u : EW) : Prop := (z = -1 ∧ u = CW a v g R ds ys ∧ (¬ (1 ≤ (v 13) ∧ (y1 = -1 ∨ (0 ≤ y1 ∧ y1 < (v 13))) ∧ (v 15) ≤ 999))) ∨ (∃ y2 : Nat → LwY, z = (v 15) + 1 ∧ u = CW a (uF (uF (uF (uF v 15 ((v 15) + 1)) 16 (min ((v 16) + 1) 60)) 19 (((v 19) + 1).tmod 60)) 35 0) (uF (uF g 1 (cpZ (g 38) (g 1) 0 ((v 19) * 6) 6)) 38 (paF (g 34) (g 33) (v 14) y1 (aDy (v 2) (csA ds (v 2)) (v 14) (v 13) (v 15)) (v 13) (g 38))) R ds y2 ∧ okW ds y2 (v 14) (v 13) ∧ (1 ≤ (v 13) ∧ (y1 = -1 ∨ (0 ≤ y1 ∧ y1 < (v 13))) ∧ (v 15) ≤ 999))
set_option maxRecDepth 100000 in
set_option maxHeartbeats 4000000 in
theorem qX11_day (l : Launch) (a : Nat → Nat) (v : Nat → Int) (g : Nat → Int → Int) (R : Int → Int → Int) (ds : List LwS) (ys : Nat → LwY) (y1 : Int) (hpl : 0 ≤ (v 13) ∧ (v 13) ≤ 6) (hod0 : 1 ≤ (v 13) → okDy (v 13) (v 14) (g 34) (g 33)) (hB : ∀ p, 0 ≤ p → p < (v 13) → 1 ≤ (g 38) p ∧ (g 38) p ≤ 199) (hds : (ds.length : Int) = (v 1) ∧ 0 ≤ (v 1) ∧ (v 1) ≤ 4) (hdy : okW ds ys (v 14) (v 13)) (hho : -1 ≤ (v 2) ∧ (v 2) < (v 1)) (hnx : 0 ≤ (v 19) ∧ (v 19) ≤ 59) (hun : 0 ≤ (v 16) ∧ (v 16) ≤ 60) (htd : 0 ≤ (v 15) ∧ (v 15) ≤ 1000) (hx_q : inR y1) : AMi l yX11_day cX11_day 3 .int 6 0 0 [rv (a 19), iv y1] (CW a v g R ds ys) (QX11_day a v g R ds ys y1) := by
  have hk := (kX11_day l (a 19) (o10 a v) (a 31) (o7w a v) (o5s a v) (v 13) (a 37) (a 38) (g 38) (a 43) (o9 a v) (v 35) (a 42) (o0 a v) (a 1) (g 1) (v 15) (v 16) (v 17) (v 18) (v 19) (a 33) (a 34) (g 33) (g 34) ds ys (v 14) (v 1) (a 44) (v 2) y1 rfl rfl rfl rfl rfl rfl rfl rfl rfl rfl rfl rfl hpl hod0 hB hds hdy hho hnx hun htd hx_q)
  simp only [Po0_0, Po0_1, Po0_2, Po0_3, Po0_4, Po9_0, uF_self] at hk
  refine AMi.gT (wl := CF a v g R ds) (is := [19, 31, 44, 33, 34, 42, 1, 37, 38, 43]) [0, 2, 3, 4, 5, 6, 7, 8, 9, 10, 11, 12, 13, 14, 15, 16, 17, 18, 20, 21, 22, 23, 24, 25, 26, 27, 28, 29, 30, 32, 35, 36, 39, 40, 41] 45 hk rfl rfl (by decide +kernel) (by decide +kernel) (fun z u hq => ?_)
  rcases hq with ⟨hz, hu, hq⟩ | ⟨y2, hz, hu, hy2, hq⟩
  · subst hu
    exact ⟨_, _, rfl, rfl, lwT_key _ _ _, CF a v g R ds, rfl, rfl, CF_rest (by decide) rfl, Or.inl ⟨hz, rfl, hq⟩⟩
  · subst hu
    exact ⟨_, _, rfl, rfl, lwT_key _ _ _, CF a (uF (uF (uF (uF v 15 ((v 15) + 1)) 16 (min ((v 16) + 1) 60)) 19 (((v 19) + 1).tmod 60)) 35 0) (uF (uF g 1 (cpZ (g 38) (g 1) 0 ((v 19) * 6) 6)) 38 (paF (g 34) (g 33) (v 14) y1 (aDy (v 2) (csA ds (v 2)) (v 14) (v 13) (v 15)) (v 13) (g 38))) R ds, rfl, rfl, CF_rest (by decide) rfl, Or.inr (⟨y2, hz, rfl, hy2, hq⟩)⟩
def QX11_undo (a : Nat → Nat) (v : Nat → Int) (g : Nat → Int → Int) (R : Int → Int → Int) (ds : List LwS) (ys : Nat → LwY) (z : Int) (u : EW) : Prop := (z = -1 ∧ u = CW a v g R ds ys ∧ (v 16) = 0) ∨ (z = (v 15) - 1 ∧ u = CW a (uF (uF (uF (uF v 15 ((v 15) - 1)) 16 ((v 16) - 1)) 19 (((v 19) + 60 - 1).tmod 60)) 35 0) (uF g 38 (cpZ (g 1) (g 38) (((v 19) + 60 - 1).tmod 60 * 6) 0 6)) R ds ys ∧ 1 ≤ (v 16))
set_option maxRecDepth 100000 in
set_option maxHeartbeats 4000000 in
theorem qX11_undo (l : Launch) (a : Nat → Nat) (v : Nat → Int) (g : Nat → Int → Int) (R : Int → Int → Int) (ds : List LwS) (ys : Nat → LwY) (hnx : 0 ≤ (v 19) ∧ (v 19) ≤ 59) (hun : 0 ≤ (v 16) ∧ (v 16) ≤ 60) : AMi l yX11_undo cX11_undo 1 .int 2 0 0 [rv (a 19)] (CW a v g R ds ys) (QX11_undo a v g R ds ys) := by
  have hk := (kX11_undo l (a 19) (o10 a v) (o5s a v) (a 37) (a 38) (g 38) (a 43) (o9 a v) (v 35) (a 42) (o0 a v) (a 1) (g 1) (v 15) (v 16) (v 17) (v 18) (v 19) rfl rfl rfl rfl rfl hnx hun)
  simp only [Po0_0, Po0_1, Po0_2, Po0_3, Po0_4, Po9_0, uF_self] at hk
  refine AMi.gL (wl := CF a v g R ds) (is := [19, 42, 1, 37, 38, 43]) [0, 2, 3, 4, 5, 6, 7, 8, 9, 10, 11, 12, 13, 14, 15, 16, 17, 18, 20, 21, 22, 23, 24, 25, 26, 27, 28, 29, 30, 31, 32, 33, 34, 35, 36, 39, 40, 41, 44] 45 hk rfl rfl (by decide +kernel) (by decide +kernel) (fun z u hq => ?_)
  rcases hq with ⟨hz, hu, hq⟩ | ⟨hz, hu, hq⟩
  · subst hu
    exact ⟨rfl, CF a v g R ds, rfl, rfl, CF_rest (by decide) rfl, Or.inl ⟨hz, rfl, hq⟩⟩
  · subst hu
    exact ⟨rfl, CF a (uF (uF (uF (uF v 15 ((v 15) - 1)) 16 ((v 16) - 1)) 19 (((v 19) + 60 - 1).tmod 60)) 35 0) (uF g 38 (cpZ (g 1) (g 38) (((v 19) + 60 - 1).tmod 60 * 6) 0 6)) R ds, rfl, rfl, CF_rest (by decide) rfl, Or.inr (⟨hz, rfl, hq⟩)⟩
def QX11_time (a : Nat → Nat) (v : Nat → Int) (g : Nat → Int → Int) (R : Int → Int → Int) (ds : List LwS) (ys : Nat → LwY) (y1 y2 y3 : Int) (z : Int) (u : EW) : Prop := ∃ p9 : Int, ∃ n9 : Int, ∃ k9 : Int, ∃ A2 : Int → Int, ∃ T2 : Int → Int, ∃ W2 : Int → Int, ∃ S2 : Int → Int, z = aTime (v 13) (v 21) (v 22) (v 23) (g 39) (g 40) (g 38) (g 41) y1 y2 y3 ∧ u = CW a (uF (uF (uF v 30 p9) 31 n9) 32 k9) (uF (uF (uF (uF g 9 A2) 10 T2) 11 W2) 12 S2) R ds ys
set_option maxRecDepth 100000 in
set_option maxHeartbeats 4000000 in
theorem qX11_time (l : Launch) (a : Nat → Nat) (v : Nat → Int) (g : Nat → Int → Int) (R : Int → Int → Int) (ds : List LwS) (ys : Nat → LwY) (y1 y2 y3 : Int) (hz : okZ (v 13) (v 21) (v 22) (g 39) (g 40) (g 38) (g 41)) (hx_q : inR y1) (hx_b : inR y2) (hx_v : inR y3) : AMi l yX11_time cX11_time 4 .int 4 0 0 [rv (a 19), iv y1, iv y2, iv y3] (CW a v g R ds ys) (QX11_time a v g R ds ys y1 y2 y3) := by
  have hk := (kX11_time l (a 19) (o10 a v) (a 31) (o7w a v) (o4 a v) (o5s a v) (v 13) (v 21) (v 22) (v 23) (a 8) (a 37) (a 9) (a 10) (a 11) (a 12) (a 38) (a 39) (a 40) (a 41) (g 9) (g 10) (g 11) (g 12) (g 38) (g 39) (g 40) (g 41) (v 30) (v 31) (v 32) y1 y2 y3 rfl rfl rfl rfl rfl rfl rfl rfl rfl rfl rfl rfl rfl rfl rfl rfl hz hx_q hx_b hx_v)
  simp only [Po4_6, Po4_7, Po4_8, uF_self] at hk
  refine AMi.gL (wl := CF a v g R ds) (is := [19, 31, 8, 9, 10, 11, 12, 37, 38, 39, 40, 41]) [0, 1, 2, 3, 4, 5, 6, 7, 13, 14, 15, 16, 17, 18, 20, 21, 22, 23, 24, 25, 26, 27, 28, 29, 30, 32, 33, 34, 35, 36, 42, 43, 44] 45 hk rfl rfl (by decide +kernel) (by decide +kernel) (fun z u hq => ?_)
  obtain ⟨p9, n9, k9, A2, T2, W2, S2, hz, hu⟩ := hq
  subst hu
  exact ⟨rfl, CF a (uF (uF (uF v 30 p9) 31 n9) 32 k9) (uF (uF (uF (uF g 9 A2) 10 T2) 11 W2) 12 S2) R ds, rfl, rfl, CF_rest (by decide) rfl, ⟨p9, n9, k9, A2, T2, W2, S2, hz, rfl⟩⟩
def QX11_spread (a : Nat → Nat) (v : Nat → Int) (g : Nat → Int → Int) (R : Int → Int → Int) (ds : List LwS) (ys : Nat → LwY) (y1 : Int) (z : Int) (u : EW) : Prop := ∃ p9 : Int, ∃ n9 : Int, ∃ k9 : Int, ∃ A2 : Int → Int, ∃ T2 : Int → Int, ∃ W2 : Int → Int, ∃ S2 : Int → Int, z = aSpread (v 13) (v 21) (v 22) (v 23) (g 39) (g 40) (g 38) (g 41) y1 ∧ u = CW a (uF (uF (uF v 30 p9) 31 n9) 32 k9) (uF (uF (uF (uF g 9 A2) 10 T2) 11 W2) 12 S2) R ds ys
set_option maxRecDepth 100000 in
set_option maxHeartbeats 4000000 in
theorem qX11_spread (l : Launch) (a : Nat → Nat) (v : Nat → Int) (g : Nat → Int → Int) (R : Int → Int → Int) (ds : List LwS) (ys : Nat → LwY) (y1 : Int) (hz : okZ (v 13) (v 21) (v 22) (g 39) (g 40) (g 38) (g 41)) (hx_b : inR y1) : AMi l yX11_spread cX11_spread 2 .int 4 0 0 [rv (a 19), iv y1] (CW a v g R ds ys) (QX11_spread a v g R ds ys y1) := by
  have hk := (kX11_spread l (a 19) (o10 a v) (a 31) (o7w a v) (o4 a v) (o5s a v) (v 13) (v 21) (v 22) (v 23) (a 8) (a 37) (a 9) (a 10) (a 11) (a 12) (a 38) (a 39) (a 40) (a 41) (g 9) (g 10) (g 11) (g 12) (g 38) (g 39) (g 40) (g 41) (v 30) (v 31) (v 32) y1 rfl rfl rfl rfl rfl rfl rfl rfl rfl rfl rfl rfl rfl rfl rfl rfl hz hx_b)
  simp only [Po4_6, Po4_7, Po4_8, uF_self] at hk
  refine AMi.gL (wl := CF a v g R ds) (is := [19, 31, 8, 9, 10, 11, 12, 37, 38, 39, 40, 41]) [0, 1, 2, 3, 4, 5, 6, 7, 13, 14, 15, 16, 17, 18, 20, 21, 22, 23, 24, 25, 26, 27, 28, 29, 30, 32, 33, 34, 35, 36, 42, 43, 44] 45 hk rfl rfl (by decide +kernel) (by decide +kernel) (fun z u hq => ?_)
  obtain ⟨p9, n9, k9, A2, T2, W2, S2, hz, hu⟩ := hq
  subst hu
  exact ⟨rfl, CF a (uF (uF (uF v 30 p9) 31 n9) 32 k9) (uF (uF (uF (uF g 9 A2) 10 T2) 11 W2) 12 S2) R ds, rfl, rfl, CF_rest (by decide) rfl, ⟨p9, n9, k9, A2, T2, W2, S2, hz, rfl⟩⟩
def QX11_worst (a : Nat → Nat) (v : Nat → Int) (g : Nat → Int → Int) (R : Int → Int → Int) (ds : List LwS) (ys : Nat → LwY) (y1 : Int) (z : Int) (u : EW) : Prop := ∃ p9 : Int, ∃ n9 : Int, ∃ k9 : Int, ∃ A2 : Int → Int, ∃ T2 : Int → Int, ∃ W2 : Int → Int, ∃ S2 : Int → Int, z = aWorst (v 13) (v 21) (v 22) (v 23) (g 39) (g 40) (g 38) (g 41) y1 ∧ u = CW a (uF (uF (uF v 30 p9) 31 n9) 32 k9) (uF (uF (uF (uF g 9 A2) 10 T2) 11 W2) 12 S2) R ds ys
set_option maxRecDepth 100000 in
set_option maxHeartbeats 4000000 in
theorem qX11_worst (l : Launch) (a : Nat → Nat) (v : Nat → Int) (g : Nat → Int → Int) (R : Int → Int → Int) (ds : List LwS) (ys : Nat → LwY) (y1 : Int) (hz : okZ (v 13) (v 21) (v 22) (g 39) (g 40) (g 38) (g 41)) (hx_v : inR y1) : AMi l yX11_worst cX11_worst 3 .int 4 0 0 [rv (a 19), iv y1] (CW a v g R ds ys) (QX11_worst a v g R ds ys y1) := by
  have hk := (kX11_worst l (a 19) (o10 a v) (a 31) (o7w a v) (o4 a v) (o5s a v) (v 13) (v 21) (v 22) (v 23) (a 8) (a 37) (a 9) (a 10) (a 11) (a 12) (a 38) (a 39) (a 40) (a 41) (g 9) (g 10) (g 11) (g 12) (g 38) (g 39) (g 40) (g 41) (v 30) (v 31) (v 32) y1 rfl rfl rfl rfl rfl rfl rfl rfl rfl rfl rfl rfl rfl rfl rfl rfl hz hx_v)
  simp only [Po4_6, Po4_7, Po4_8, uF_self] at hk
  refine AMi.gL (wl := CF a v g R ds) (is := [19, 31, 8, 9, 10, 11, 12, 37, 38, 39, 40, 41]) [0, 1, 2, 3, 4, 5, 6, 7, 13, 14, 15, 16, 17, 18, 20, 21, 22, 23, 24, 25, 26, 27, 28, 29, 30, 32, 33, 34, 35, 36, 42, 43, 44] 45 hk rfl rfl (by decide +kernel) (by decide +kernel) (fun z u hq => ?_)
  obtain ⟨p9, n9, k9, A2, T2, W2, S2, hz, hu⟩ := hq
  subst hu
  exact ⟨rfl, CF a (uF (uF (uF v 30 p9) 31 n9) 32 k9) (uF (uF (uF (uF g 9 A2) 10 T2) 11 W2) 12 S2) R ds, rfl, rfl, CF_rest (by decide) rfl, ⟨p9, n9, k9, A2, T2, W2, S2, hz, rfl⟩⟩
def QX11_parts (a : Nat → Nat) (v : Nat → Int) (g : Nat → Int → Int) (R : Int → Int → Int) (ds : List LwS) (ys : Nat → LwY) (z : Int) (u : EW) : Prop := ∃ p9 : Int, ∃ n9 : Int, ∃ k9 : Int, ∃ A2 : Int → Int, ∃ T2 : Int → Int, ∃ W2 : Int → Int, ∃ S2 : Int → Int, z = aParts (v 13) (v 21) (v 22) (v 23) (g 39) (g 40) (g 38) (g 41) (v 0) ∧ u = CW a (uF (uF (uF v 30 p9) 31 n9) 32 k9) (uF (uF (uF (uF g 9 A2) 10 T2) 11 W2) 12 S2) R ds ys
set_option maxRecDepth 100000 in
set_option maxHeartbeats 4000000 in
theorem qX11_parts (l : Launch) (a : Nat → Nat) (v : Nat → Int) (g : Nat → Int → Int) (R : Int → Int → Int) (ds : List LwS) (ys : Nat → LwY) (hz : okZ (v 13) (v 21) (v 22) (g 39) (g 40) (g 38) (g 41)) (hlim : 0 ≤ (v 0) ∧ (v 0) ≤ 999) : AMi l yX11_parts cX11_parts 1 .int 4 0 0 [rv (a 19)] (CW a v g R ds ys) (QX11_parts a v g R ds ys) := by
  have hk := (kX11_parts l (a 19) (o10 a v) (a 31) (o7w a v) (o4 a v) (o5s a v) (v 13) (v 21) (v 22) (v 23) (a 8) (a 37) (a 9) (a 10) (a 11) (a 12) (a 38) (a 39) (a 40) (a 41) (g 9) (g 10) (g 11) (g 12) (g 38) (g 39) (g 40) (g 41) (v 30) (v 31) (v 32) (v 0) rfl rfl rfl rfl rfl rfl rfl rfl rfl rfl rfl rfl rfl rfl rfl rfl rfl hz hlim)
  simp only [Po4_6, Po4_7, Po4_8, uF_self] at hk
  refine AMi.gL (wl := CF a v g R ds) (is := [19, 31, 8, 9, 10, 11, 12, 37, 38, 39, 40, 41]) [0, 1, 2, 3, 4, 5, 6, 7, 13, 14, 15, 16, 17, 18, 20, 21, 22, 23, 24, 25, 26, 27, 28, 29, 30, 32, 33, 34, 35, 36, 42, 43, 44] 45 hk rfl rfl (by decide +kernel) (by decide +kernel) (fun z u hq => ?_)
  obtain ⟨p9, n9, k9, A2, T2, W2, S2, hz, hu⟩ := hq
  subst hu
  exact ⟨rfl, CF a (uF (uF (uF v 30 p9) 31 n9) 32 k9) (uF (uF (uF (uF g 9 A2) 10 T2) 11 W2) 12 S2) R ds, rfl, rfl, CF_rest (by decide) rfl, ⟨p9, n9, k9, A2, T2, W2, S2, hz, rfl⟩⟩
def QX11_last (a : Nat → Nat) (v : Nat → Int) (g : Nat → Int → Int) (R : Int → Int → Int) (ds : List LwS) (ys : Nat → LwY) (y1 : Int) (z : Int) (u : EW) : Prop := ∃ p9 : Int, ∃ n9 : Int, ∃ k9 : Int, ∃ A2 : Int → Int, ∃ T2 : Int → Int, ∃ W2 : Int → Int, ∃ S2 : Int → Int, z = aLast (v 13) (v 21) (v 22) (v 23) (g 39) (g 40) (g 38) (g 41) y1 ∧ u = CW a (uF (uF (uF v 30 p9) 31 n9) 32 k9) (uF (uF (uF (uF g 9 A2) 10 T2) 11 W2) 12 S2) R ds ys
set_option maxRecDepth 100000 in
set_option maxHeartbeats 4000000 in
theorem qX11_last (l : Launch) (a : Nat → Nat) (v : Nat → Int) (g : Nat → Int → Int) (R : Int → Int → Int) (ds : List LwS) (ys : Nat → LwY) (y1 : Int) (hz : okZ (v 13) (v 21) (v 22) (g 39) (g 40) (g 38) (g 41)) (hx_b : inR y1) : AMi l yX11_last cX11_last 2 .int 4 0 0 [rv (a 19), iv y1] (CW a v g R ds ys) (QX11_last a v g R ds ys y1) := by
  have hk := (kX11_last l (a 19) (o10 a v) (a 31) (o7w a v) (o4 a v) (o5s a v) (v 13) (v 21) (v 22) (v 23) (a 8) (a 37) (a 9) (a 10) (a 11) (a 12) (a 38) (a 39) (a 40) (a 41) (g 9) (g 10) (g 11) (g 12) (g 38) (g 39) (g 40) (g 41) (v 30) (v 31) (v 32) y1 rfl rfl rfl rfl rfl rfl rfl rfl rfl rfl rfl rfl rfl rfl rfl rfl hz hx_b)
  simp only [Po4_6, Po4_7, Po4_8, uF_self] at hk
  refine AMi.gL (wl := CF a v g R ds) (is := [19, 31, 8, 9, 10, 11, 12, 37, 38, 39, 40, 41]) [0, 1, 2, 3, 4, 5, 6, 7, 13, 14, 15, 16, 17, 18, 20, 21, 22, 23, 24, 25, 26, 27, 28, 29, 30, 32, 33, 34, 35, 36, 42, 43, 44] 45 hk rfl rfl (by decide +kernel) (by decide +kernel) (fun z u hq => ?_)
  obtain ⟨p9, n9, k9, A2, T2, W2, S2, hz, hu⟩ := hq
  subst hu
  exact ⟨rfl, CF a (uF (uF (uF v 30 p9) 31 n9) 32 k9) (uF (uF (uF (uF g 9 A2) 10 T2) 11 W2) 12 S2) R ds, rfl, rfl, CF_rest (by decide) rfl, ⟨p9, n9, k9, A2, T2, W2, S2, hz, rfl⟩⟩
def QX11_settle (a : Nat → Nat) (v : Nat → Int) (g : Nat → Int → Int) (R : Int → Int → Int) (ds : List LwS) (ys : Nat → LwY) (y1 : Int) (z : Int) (u : EW) : Prop := ∃ z9 : Int, ∃ p9 : Int, ∃ n9 : Int, ∃ k9 : Int, ∃ s6 : Int, ∃ s7 : Int, ∃ A2 : Int → Int, ∃ W2 : Int → Int, z = z9 ∧ u = CW a (uF (uF (uF (uF (uF v 28 s6) 29 s7) 30 p9) 31 n9) 32 k9) (uF (uF g 9 A2) 11 W2) R ds ys ∧ rSettle (v 13) (v 22) (g 39) (g 40) (g 38) y1 z9
set_option maxRecDepth 100000 in
set_option maxHeartbeats 4000000 in
theorem qX11_settle (l : Launch) (a : Nat → Nat) (v : Nat → Int) (g : Nat → Int → Int) (R : Int → Int → Int) (ds : List LwS) (ys : Nat → LwY) (y1 : Int) (hz : okZ (v 13) (v 21) (v 22) (g 39) (g 40) (g 38) (g 41)) (hv : inR y1) : AMi l yX11_settle cX11_settle 2 .int 4 0 0 [rv (a 19), iv y1] (CW a v g R ds ys) (QX11_settle a v g R ds ys y1) := by
  have hk := (kX11_settle l (a 19) (o10 a v) (a 31) (o7w a v) (o4 a v) (o5s a v) (v 13) (v 21) (v 22) (v 23) (a 8) (a 37) (a 9) (a 10) (a 11) (a 12) (a 38) (a 39) (a 40) (a 41) (g 9) (g 11) (g 38) (g 39) (g 40) (g 41) (v 30) (v 31) (v 32) (v 28) (v 29) y1 rfl rfl rfl rfl rfl rfl rfl rfl rfl rfl rfl rfl rfl rfl rfl rfl hz hv)
  simp only [Po4_4, Po4_5, Po4_6, Po4_7, Po4_8, uF_self] at hk
  refine AMi.gL (wl := CF a v g R ds) (is := [19, 31, 8, 9, 11, 37, 38, 39, 40]) [0, 1, 2, 3, 4, 5, 6, 7, 10, 12, 13, 14, 15, 16, 17, 18, 20, 21, 22, 23, 24, 25, 26, 27, 28, 29, 30, 32, 33, 34, 35, 36, 41, 42, 43, 44] 45 hk rfl rfl (by decide +kernel) (by decide +kernel) (fun z u hq => ?_)
  obtain ⟨z9, p9, n9, k9, s6, s7, A2, W2, hz, hu, hs⟩ := hq
  subst hu
  exact ⟨rfl, CF a (uF (uF (uF (uF (uF v 28 s6) 29 s7) 30 p9) 31 n9) 32 k9) (uF (uF g 9 A2) 11 W2) R ds, rfl, rfl, CF_rest (by decide) rfl, ⟨z9, p9, n9, k9, s6, s7, A2, W2, hz, rfl, hs⟩⟩
def QX11_ring (a : Nat → Nat) (v : Nat → Int) (g : Nat → Int → Int) (R : Int → Int → Int) (ds : List LwS) (ys : Nat → LwY) (y1 : Int) (z : Int) (u : EW) : Prop := z = aRingC (v 13) (g 39) y1 ∧ u = CW a v g R ds ys
set_option maxRecDepth 100000 in
set_option maxHeartbeats 4000000 in
theorem qX11_ring (l : Launch) (a : Nat → Nat) (v : Nat → Int) (g : Nat → Int → Int) (R : Int → Int → Int) (ds : List LwS) (ys : Nat → LwY) (y1 : Int) (hz : okZ (v 13) (v 21) (v 22) (g 39) (g 40) (g 38) (g 41)) (hx_q : inR y1) : AMi l yX11_ring cX11_ring 5 .int 2 0 0 [rv (a 19), iv y1] (CW a v g R ds ys) (QX11_ring a v g R ds ys y1) := by
  have hk := (kX11_ring l (a 19) (o10 a v) (a 31) (o7w a v) (o5s a v) (v 13) (v 21) (v 22) (a 37) (a 39) (g 38) (g 39) (g 40) (g 41) y1 rfl rfl rfl rfl hz hx_q)
  refine AMi.gL (wl := CF a v g R ds) (is := [19, 31, 37, 39]) [0, 1, 2, 3, 4, 5, 6, 7, 8, 9, 10, 11, 12, 13, 14, 15, 16, 17, 18, 20, 21, 22, 23, 24, 25, 26, 27, 28, 29, 30, 32, 33, 34, 35, 36, 38, 40, 41, 42, 43, 44] 45 hk rfl rfl (by decide +kernel) (by decide +kernel) (fun z u hq => ?_)
  obtain ⟨hz, hu⟩ := hq
  subst hu
  exact ⟨rfl, CF a v g R ds, rfl, rfl, CF_rest (by decide) rfl, ⟨hz, rfl⟩⟩
def QX11_head (a : Nat → Nat) (v : Nat → Int) (g : Nat → Int → Int) (R : Int → Int → Int) (ds : List LwS) (ys : Nat → LwY) (y1 : Int) (z : Int) (u : EW) : Prop := z = aHeadC (v 13) (g 39) y1 ∧ u = CW a v g R ds ys
set_option maxRecDepth 100000 in
set_option maxHeartbeats 4000000 in
theorem qX11_head (l : Launch) (a : Nat → Nat) (v : Nat → Int) (g : Nat → Int → Int) (R : Int → Int → Int) (ds : List LwS) (ys : Nat → LwY) (y1 : Int) (hz : okZ (v 13) (v 21) (v 22) (g 39) (g 40) (g 38) (g 41)) (hx_q : inR y1) : AMi l yX11_head cX11_head 4 .int 2 0 0 [rv (a 19), iv y1] (CW a v g R ds ys) (QX11_head a v g R ds ys y1) := by
  have hk := (kX11_head l (a 19) (o10 a v) (a 31) (o7w a v) (o5s a v) (v 13) (v 21) (v 22) (a 37) (a 39) (g 38) (g 39) (g 40) (g 41) y1 rfl rfl rfl rfl hz hx_q)
  refine AMi.gL (wl := CF a v g R ds) (is := [19, 31, 37, 39]) [0, 1, 2, 3, 4, 5, 6, 7, 8, 9, 10, 11, 12, 13, 14, 15, 16, 17, 18, 20, 21, 22, 23, 24, 25, 26, 27, 28, 29, 30, 32, 33, 34, 35, 36, 38, 40, 41, 42, 43, 44] 45 hk rfl rfl (by decide +kernel) (by decide +kernel) (fun z u hq => ?_)
  obtain ⟨hz, hu⟩ := hq
  subst hu
  exact ⟨rfl, CF a v g R ds, rfl, rfl, CF_rest (by decide) rfl, ⟨hz, rfl⟩⟩
def QX11_week (a : Nat → Nat) (v : Nat → Int) (g : Nat → Int → Int) (R : Int → Int → Int) (ds : List LwS) (ys : Nat → LwY) (y1 : Int) (z : Int) (u : EW) : Prop := ∃ z9 : Int, ∃ r2 : Int, ∃ l2 : Int, ∃ p9 : Int, ∃ n9 : Int, ∃ k9 : Int, ∃ A2 : Int → Int, ∃ T2 : Int → Int, ∃ W2 : Int → Int, ∃ S2 : Int → Int, ∃ B4 : Int → Int, ∃ B3 : Int → Int, ∃ F3 : Int → Int, ∃ H3 : Int → Int, ∃ L3 : Int → Int, ∃ Kw2 : Int → Int, ∃ t4 : Int, ∃ t5 : Int, ∃ t6 : Int, ∃ t7 : Int, ∃ k2 : Int, ∃ y2 : Nat → LwY, z = z9 ∧ u = CW a (uF (uF (uF (uF (uF (uF (uF (uF (uF (uF v 24 t4) 25 t5) 26 t6) 27 t7) 30 p9) 31 n9) 32 k9) 35 k2) 36 r2) 37 l2) (uF (uF (uF (uF (uF (uF (uF (uF (uF (uF g 4 B3) 5 F3) 6 H3) 7 L3) 9 A2) 10 T2) 11 W2) 12 S2) 17 Kw2) 18 B4) R ds y2 ∧ okW ds y2 (v 14) (v 13) ∧ (∀ x, 0 ≤ x → x < 6 → 0 ≤ Kw2 x ∧ Kw2 x ≤ 9) ∧ (k2 = 0 ∨ k2 = 1) ∧ (0 ≤ r2 ∧ r2 ≤ 1000000000 ∧ 0 ≤ l2 ∧ l2 ≤ 1000000000)
set_option maxRecDepth 100000 in
set_option maxHeartbeats 4000000 in
theorem qX11_week (l : Launch) (a : Nat → Nat) (v : Nat → Int) (g : Nat → Int → Int) (R : Int → Int → Int) (ds : List LwS) (ys : Nat → LwY) (y1 : Int) (hz : okZ (v 13) (v 21) (v 22) (g 39) (g 40) (g 38) (g 41)) (hx_v : inR y1) (hod0 : 1 ≤ (v 13) → okDy (v 13) (v 14) (g 34) (g 33)) (hds : (ds.length : Int) = (v 1) ∧ 0 ≤ (v 1) ∧ (v 1) ≤ 4) (hdy : okW ds ys (v 14) (v 13)) (hho : -1 ≤ (v 2) ∧ (v 2) < (v 1)) (htd : 0 ≤ (v 15) ∧ (v 15) ≤ 1000) (hkw : ∀ x, 0 ≤ x → x < 6 → 0 ≤ (g 17) x ∧ (g 17) x ≤ 9) (hkk : (v 35) = 0 ∨ (v 35) = 1) (hrl : 0 ≤ (v 36) ∧ (v 36) ≤ 1000000000 ∧ 0 ≤ (v 37) ∧ (v 37) ≤ 1000000000) : AMi l yX11_week cX11_week 3 .int 13 0 0 [rv (a 19), iv y1] (CW a v g R ds ys) (QX11_week a v g R ds ys y1) := by
  have hk := (kX11_week l (a 19) (o10 a v) (a 31) (o7w a v) (o4 a v) (o5s a v) (v 13) (v 21) (v 22) (v 23) (a 8) (a 37) (a 9) (a 10) (a 11) (a 12) (a 38) (a 39) (a 40) (a 41) (g 9) (g 10) (g 11) (g 12) (g 38) (g 39) (g 40) (g 41) (v 30) (v 31) (v 32) y1 (a 43) (o9 a v) (v 35) (v 36) (v 37) (a 17) (a 18) (g 17) (g 18) (a 33) (a 34) (g 33) (g 34) (a 3) (a 4) (a 5) (a 6) (a 7) (o5t a v) (g 4) (g 5) (g 6) (g 7) (v 24) (v 25) (v 26) (v 27) (a 42) (o0 a v) (v 15) ds ys (v 14) (v 1) (a 44) (v 2) rfl rfl rfl rfl rfl rfl rfl rfl rfl rfl rfl rfl rfl rfl rfl rfl rfl rfl rfl rfl rfl rfl rfl rfl rfl rfl rfl rfl rfl rfl rfl rfl rfl hz hx_v hod0 hds hdy hho htd hkw hkk hrl)
  simp only [Po4_6, Po4_7, Po4_8, Po5t_0, Po5t_1, Po5t_2, Po5t_3, Po9_0, Po9_1, Po9_2, uF_self] at hk
  refine AMi.gT (wl := CF a v g R ds) (is := [19, 31, 43, 17, 18, 33, 34, 8, 9, 10, 11, 12, 37, 38, 39, 40, 41, 3, 4, 5, 6, 7, 42, 44]) [0, 1, 2, 13, 14, 15, 16, 20, 21, 22, 23, 24, 25, 26, 27, 28, 29, 30, 32, 35, 36] 45 hk rfl rfl (by decide +kernel) (by decide +kernel) (fun z u hq => ?_)
  obtain ⟨z9, r2, l2, p9, n9, k9, A2, T2, W2, S2, B4, B3, F3, H3, L3, Kw2, t4, t5, t6, t7, k2, y2, hz, hu, hy2, h1, h2, h3⟩ := hq
  subst hu
  exact ⟨_, _, rfl, rfl, lwT_key _ _ _, CF a (uF (uF (uF (uF (uF (uF (uF (uF (uF (uF v 24 t4) 25 t5) 26 t6) 27 t7) 30 p9) 31 n9) 32 k9) 35 k2) 36 r2) 37 l2) (uF (uF (uF (uF (uF (uF (uF (uF (uF (uF g 4 B3) 5 F3) 6 H3) 7 L3) 9 A2) 10 T2) 11 W2) 12 S2) 17 Kw2) 18 B4) R ds, rfl, rfl, CF_rest (by decide) rfl, ⟨z9, r2, l2, p9, n9, k9, A2, T2, W2, S2, B4, B3, F3, H3, L3, Kw2, t4, t5, t6, t7, k2, y2, hz, rfl, hy2, h1, h2, h3⟩⟩
def QX11_leader (a : Nat → Nat) (v : Nat → Int) (g : Nat → Int → Int) (R : Int → Int → Int) (ds : List LwS) (ys : Nat → LwY) (y1 y2 : Int) (z : Int) (u : EW) : Prop := ∃ p9 : Int, ∃ n9 : Int, ∃ k9 : Int, ∃ A2 : Int → Int, ∃ T2 : Int → Int, ∃ W2 : Int → Int, ∃ S2 : Int → Int, ∃ t4 : Int, ∃ t5 : Int, ∃ t6 : Int, ∃ t7 : Int, ∃ B3 : Int → Int, ∃ F3 : Int → Int, ∃ H3 : Int → Int, ∃ L3 : Int → Int, z = aLeader (v 13) (v 21) (v 22) (v 23) (g 39) (g 40) (g 38) (g 41) y1 y2 ∧ u = CW a (uF (uF (uF (uF (uF (uF (uF v 24 t4) 25 t5) 26 t6) 27 t7) 30 p9) 31 n9) 32 k9) (uF (uF (uF (uF (uF (uF (uF (uF g 4 B3) 5 F3) 6 H3) 7 L3) 9 A2) 10 T2) 11 W2) 12 S2) R ds ys
set_option maxRecDepth 100000 in
set_option maxHeartbeats 4000000 in
theorem qX11_leader (l : Launch) (a : Nat → Nat) (v : Nat → Int) (g : Nat → Int → Int) (R : Int → Int → Int) (ds : List LwS) (ys : Nat → LwY) (y1 y2 : Int) (hz : okZ (v 13) (v 21) (v 22) (g 39) (g 40) (g 38) (g 41)) (hx_q : inR y1) (hx_v : inR y2) : AMi l yX11_leader cX11_leader 7 .int 4 0 0 [rv (a 19), iv y1, iv y2] (CW a v g R ds ys) (QX11_leader a v g R ds ys y1 y2) := by
  have hk := (kX11_leader l (a 19) (o10 a v) (a 31) (o7w a v) (o4 a v) (o5s a v) (v 13) (v 21) (v 22) (v 23) (a 8) (a 37) (a 9) (a 10) (a 11) (a 12) (a 38) (a 39) (a 40) (a 41) (g 9) (g 10) (g 11) (g 12) (g 38) (g 39) (g 40) (g 41) (v 30) (v 31) (v 32) y1 y2 (a 3) (a 4) (a 5) (a 6) (a 7) (o5t a v) (g 4) (g 5) (g 6) (g 7) (v 24) (v 25) (v 26) (v 27) rfl rfl rfl rfl rfl rfl rfl rfl rfl rfl rfl rfl rfl rfl rfl rfl rfl rfl rfl rfl rfl hz hx_q hx_v)
  simp only [Po4_6, Po4_7, Po4_8, Po5t_0, Po5t_1, Po5t_2, Po5t_3, uF_self] at hk
  refine AMi.gL (wl := CF a v g R ds) (is := [19, 31, 8, 9, 10, 11, 12, 37, 38, 39, 40, 41, 3, 4, 5, 6, 7]) [0, 1, 2, 13, 14, 15, 16, 17, 18, 20, 21, 22, 23, 24, 25, 26, 27, 28, 29, 30, 32, 33, 34, 35, 36, 42, 43, 44] 45 hk rfl rfl (by decide +kernel) (by decide +kernel) (fun z u hq => ?_)
  obtain ⟨p9, n9, k9, A2, T2, W2, S2, t4, t5, t6, t7, B3, F3, H3, L3, hz, hu⟩ := hq
  subst hu
  exact ⟨rfl, CF a (uF (uF (uF (uF (uF (uF (uF v 24 t4) 25 t5) 26 t6) 27 t7) 30 p9) 31 n9) 32 k9) (uF (uF (uF (uF (uF (uF (uF (uF g 4 B3) 5 F3) 6 H3) 7 L3) 9 A2) 10 T2) 11 W2) 12 S2) R ds, rfl, rfl, CF_rest (by decide) rfl, ⟨p9, n9, k9, A2, T2, W2, S2, t4, t5, t6, t7, B3, F3, H3, L3, hz, rfl⟩⟩
def QX11_marks (a : Nat → Nat) (v : Nat → Int) (g : Nat → Int → Int) (R : Int → Int → Int) (ds : List LwS) (ys : Nat → LwY) (y1 : Int) (z : Int) (u : EW) : Prop := ∃ z9 : Int, ∃ p9 : Int, ∃ n9 : Int, ∃ k9 : Int, ∃ A2 : Int → Int, ∃ T2 : Int → Int, ∃ W2 : Int → Int, ∃ S2 : Int → Int, ∃ f2 : Int, ∃ b2 : Int, ∃ Cn2 : Int → Int, ∃ Mm2 : Int → Int, ∃ Sm2 : Int → Int, z = z9 ∧ u = CW a (uF (uF (uF (uF (uF v 30 p9) 31 n9) 32 k9) 33 f2) 34 b2) (uF (uF (uF (uF (uF (uF (uF g 9 A2) 10 T2) 11 W2) 12 S2) 14 Cn2) 15 Mm2) 16 Sm2) R ds ys ∧ (0 ≤ f2 ∧ f2 ≤ 1000000000) ∧ inR b2 ∧ (∀ x, 0 ≤ x → x < 31 → 0 ≤ Cn2 x ∧ Cn2 x ≤ 1000000000) ∧ (∀ x, 0 ≤ x → x < 31 → inR (Mm2 x))
set_option maxRecDepth 100000 in
set_option maxHeartbeats 4000000 in
theorem qX11_marks (l : Launch) (a : Nat → Nat) (v : Nat → Int) (g : Nat → Int → Int) (R : Int → Int → Int) (ds : List LwS) (ys : Nat → LwY) (y1 : Int) (hz : okZ (v 13) (v 21) (v 22) (g 39) (g 40) (g 38) (g 41)) (hx_v : inR y1) (hlim : 0 ≤ (v 0) ∧ (v 0) ≤ 999) (hfe : 0 ≤ (v 33) ∧ (v 33) ≤ 1000000000) (hbt : inR (v 34)) (hCr : ∀ x, 0 ≤ x → x < 31 → 0 ≤ (g 14) x ∧ (g 14) x ≤ 1000000000) (hMr : ∀ x, 0 ≤ x → x < 31 → inR ((g 15) x)) : AMi l yX11_marks cX11_marks 2 .int 4 0 0 [rv (a 19), iv y1] (CW a v g R ds ys) (QX11_marks a v g R ds ys y1) := by
  have hk := (kX11_marks l (a 19) (o10 a v) (a 31) (o7w a v) (o4 a v) (o5s a v) (v 13) (v 21) (v 22) (v 23) (a 8) (a 37) (a 9) (a 10) (a 11) (a 12) (a 38) (a 39) (a 40) (a 41) (g 9) (g 10) (g 11) (g 12) (g 38) (g 39) (g 40) (g 41) (v 30) (v 31) (v 32) y1 (a 13) (o3 a v) (a 14) (a 15) (a 16) (g 14) (g 15) (g 16) (v 33) (v 34) (v 0) rfl rfl rfl rfl rfl rfl rfl rfl rfl rfl rfl rfl rfl rfl rfl rfl rfl rfl rfl rfl rfl hz hx_v hlim hfe hbt hCr hMr)
  simp only [Po3_0, Po3_1, Po4_6, Po4_7, Po4_8, uF_self] at hk
  refine AMi.gL (wl := CF a v g R ds) (is := [19, 31, 8, 9, 10, 11, 12, 37, 38, 39, 40, 41, 13, 14, 15, 16]) [0, 1, 2, 3, 4, 5, 6, 7, 17, 18, 20, 21, 22, 23, 24, 25, 26, 27, 28, 29, 30, 32, 33, 34, 35, 36, 42, 43, 44] 45 hk rfl rfl (by decide +kernel) (by decide +kernel) (fun z u hq => ?_)
  obtain ⟨z9, p9, n9, k9, A2, T2, W2, S2, f2, b2, Cn2, Mm2, Sm2, hz, hu, h1, h2, h3, h4⟩ := hq
  subst hu
  exact ⟨rfl, CF a (uF (uF (uF (uF (uF v 30 p9) 31 n9) 32 k9) 33 f2) 34 b2) (uF (uF (uF (uF (uF (uF (uF g 9 A2) 10 T2) 11 W2) 12 S2) 14 Cn2) 15 Mm2) 16 Sm2) R ds, rfl, rfl, CF_rest (by decide) rfl, ⟨z9, p9, n9, k9, A2, T2, W2, S2, f2, b2, Cn2, Mm2, Sm2, hz, rfl, h1, h2, h3, h4⟩⟩
def QX11_odds (a : Nat → Nat) (v : Nat → Int) (g : Nat → Int → Int) (R : Int → Int → Int) (ds : List LwS) (ys : Nat → LwY) (y1 y2 : Int) (z : Int) (u : EW) : Prop := ∃ z9 : Int, ∃ p9 : Int, ∃ n9 : Int, ∃ k9 : Int, ∃ A2 : Int → Int, ∃ T2 : Int → Int, ∃ W2 : Int → Int, ∃ S2 : Int → Int, ∃ t4 : Int, ∃ t5 : Int, ∃ t6 : Int, ∃ t7 : Int, ∃ B3 : Int → Int, ∃ F3 : Int → Int, ∃ H3 : Int → Int, ∃ L3 : Int → Int, z = z9 ∧ u = CW a (uF (uF (uF (uF (uF (uF (uF v 24 t4) 25 t5) 26 t6) 27 t7) 30 p9) 31 n9) 32 k9) (uF (uF (uF (uF (uF (uF (uF (uF g 4 B3) 5 F3) 6 H3) 7 L3) 9 A2) 10 T2) 11 W2) 12 S2) R ds ys
set_option maxRecDepth 100000 in
set_option maxHeartbeats 4000000 in
theorem qX11_odds (l : Launch) (a : Nat → Nat) (v : Nat → Int) (g : Nat → Int → Int) (R : Int → Int → Int) (ds : List LwS) (ys : Nat → LwY) (y1 y2 : Int) (hz : okZ (v 13) (v 21) (v 22) (g 39) (g 40) (g 38) (g 41)) (hx_q : inR y1) (hx_k9 : inR y2) (hod0 : 1 ≤ (v 13) → okDy (v 13) (v 14) (g 34) (g 33)) : AMi l yX11_odds cX11_odds 6 .int 8 0 0 [rv (a 19), iv y1, iv y2] (CW a v g R ds ys) (QX11_odds a v g R ds ys y1 y2) := by
  have hk := (kX11_odds l (a 19) (o10 a v) (a 31) (o7w a v) (o4 a v) (o5s a v) (v 13) (v 21) (v 22) (v 23) (a 8) (a 37) (a 9) (a 10) (a 11) (a 12) (a 38) (a 39) (a 40) (a 41) (g 9) (g 10) (g 11) (g 12) (g 38) (g 39) (g 40) (g 41) (v 30) (v 31) (v 32) y1 y2 (a 3) (a 4) (a 5) (a 6) (a 7) (o5t a v) (g 4) (g 5) (g 6) (g 7) (v 24) (v 25) (v 26) (v 27) (a 33) (a 34) (g 33) (g 34) (v 14) rfl rfl rfl rfl rfl rfl rfl rfl rfl rfl rfl rfl rfl rfl rfl rfl rfl rfl rfl rfl rfl rfl rfl hz hx_q hx_k9 hod0)
  simp only [Po4_6, Po4_7, Po4_8, Po5t_0, Po5t_1, Po5t_2, Po5t_3, uF_self] at hk
  refine AMi.gL (wl := CF a v g R ds) (is := [19, 31, 8, 9, 10, 11, 12, 37, 38, 39, 40, 41, 3, 4, 5, 6, 7, 33, 34]) [0, 1, 2, 13, 14, 15, 16, 17, 18, 20, 21, 22, 23, 24, 25, 26, 27, 28, 29, 30, 32, 35, 36, 42, 43, 44] 45 hk rfl rfl (by decide +kernel) (by decide +kernel) (fun z u hq => ?_)
  obtain ⟨z9, p9, n9, k9, A2, T2, W2, S2, t4, t5, t6, t7, B3, F3, H3, L3, hz, hu⟩ := hq
  subst hu
  exact ⟨rfl, CF a (uF (uF (uF (uF (uF (uF (uF v 24 t4) 25 t5) 26 t6) 27 t7) 30 p9) 31 n9) 32 k9) (uF (uF (uF (uF (uF (uF (uF (uF g 4 B3) 5 F3) 6 H3) 7 L3) 9 A2) 10 T2) 11 W2) 12 S2) R ds, rfl, rfl, CF_rest (by decide) rfl, ⟨z9, p9, n9, k9, A2, T2, W2, S2, t4, t5, t6, t7, B3, F3, H3, L3, hz, rfl⟩⟩
def QX11_paid (a : Nat → Nat) (v : Nat → Int) (g : Nat → Int → Int) (R : Int → Int → Int) (ds : List LwS) (ys : Nat → LwY) (y1 : Int) (z : Int) (u : EW) : Prop := ∃ z9 : Int, ∃ p9 : Int, ∃ n9 : Int, ∃ k9 : Int, ∃ A2 : Int → Int, ∃ T2 : Int → Int, ∃ W2 : Int → Int, ∃ S2 : Int → Int, ∃ t4 : Int, ∃ t5 : Int, ∃ t6 : Int, ∃ t7 : Int, ∃ B3 : Int → Int, ∃ F3 : Int → Int, ∃ H3 : Int → Int, ∃ L3 : Int → Int, z = z9 ∧ u = CW a (uF (uF (uF (uF (uF (uF (uF v 24 t4) 25 t5) 26 t6) 27 t7) 30 p9) 31 n9) 32 k9) (uF (uF (uF (uF (uF (uF (uF (uF g 4 B3) 5 F3) 6 H3) 7 L3) 9 A2) 10 T2) 11 W2) 12 S2) R ds ys ∧ rPaid (v 13) (v 21) (v 22) (v 23) (g 39) (g 40) (g 38) (g 41) y1 z9
set_option maxRecDepth 100000 in
set_option maxHeartbeats 4000000 in
theorem qX11_paid (l : Launch) (a : Nat → Nat) (v : Nat → Int) (g : Nat → Int → Int) (R : Int → Int → Int) (ds : List LwS) (ys : Nat → LwY) (y1 : Int) (hz : okZ (v 13) (v 21) (v 22) (g 39) (g 40) (g 38) (g 41)) (hx_q : inR y1) : AMi l yX11_paid cX11_paid 4 .int 4 0 0 [rv (a 19), iv y1] (CW a v g R ds ys) (QX11_paid a v g R ds ys y1) := by
  have hk := (kX11_paid l (a 19) (o10 a v) (a 31) (o7w a v) (o4 a v) (o5s a v) (v 13) (v 21) (v 22) (v 23) (a 8) (a 37) (a 9) (a 10) (a 11) (a 12) (a 38) (a 39) (a 40) (a 41) (g 9) (g 10) (g 11) (g 12) (g 38) (g 39) (g 40) (g 41) (v 30) (v 31) (v 32) y1 (a 3) (a 4) (a 5) (a 6) (a 7) (o5t a v) (g 4) (g 5) (g 6) (g 7) (v 24) (v 25) (v 26) (v 27) rfl rfl rfl rfl rfl rfl rfl rfl rfl rfl rfl rfl rfl rfl rfl rfl rfl rfl rfl rfl rfl hz hx_q)
  simp only [Po4_6, Po4_7, Po4_8, Po5t_0, Po5t_1, Po5t_2, Po5t_3, uF_self] at hk
  refine AMi.gL (wl := CF a v g R ds) (is := [19, 31, 8, 9, 10, 11, 12, 37, 38, 39, 40, 41, 3, 4, 5, 6, 7]) [0, 1, 2, 13, 14, 15, 16, 17, 18, 20, 21, 22, 23, 24, 25, 26, 27, 28, 29, 30, 32, 33, 34, 35, 36, 42, 43, 44] 45 hk rfl rfl (by decide +kernel) (by decide +kernel) (fun z u hq => ?_)
  obtain ⟨z9, p9, n9, k9, A2, T2, W2, S2, t4, t5, t6, t7, B3, F3, H3, L3, hz, hu, hs⟩ := hq
  subst hu
  exact ⟨rfl, CF a (uF (uF (uF (uF (uF (uF (uF v 24 t4) 25 t5) 26 t6) 27 t7) 30 p9) 31 n9) 32 k9) (uF (uF (uF (uF (uF (uF (uF (uF g 4 B3) 5 F3) 6 H3) 7 L3) 9 A2) 10 T2) 11 W2) 12 S2) R ds, rfl, rfl, CF_rest (by decide) rfl, ⟨z9, p9, n9, k9, A2, T2, W2, S2, t4, t5, t6, t7, B3, F3, H3, L3, hz, rfl, hs⟩⟩
def QX11_roll (a : Nat → Nat) (v : Nat → Int) (g : Nat → Int → Int) (R : Int → Int → Int) (ds : List LwS) (ys : Nat → LwY) (y1 y2 y3 : Int) (z : Int) (u : EW) : Prop := (z = -1 ∧ u = CW a v g R ds ys ∧ (¬ ((0 ≤ y1 ∧ y1 < (v 13)) ∧ (0 ≤ y2 ∧ y2 ≤ 29) ∧ (0 ≤ y3 ∧ y3 ≤ 9999) ∧ (v 3) < 20))) ∨ (z = (v 3) + 1 ∧ u = CW a (uF v 3 ((v 3) + 1)) (uF g 2 (uZ (uZ (uZ (g 2) ((v 3) * 3) y1) ((v 3) * 3 + 1) y2) ((v 3) * 3 + 2) y3)) R ds ys ∧ ((0 ≤ y1 ∧ y1 < (v 13)) ∧ (0 ≤ y2 ∧ y2 ≤ 29) ∧ (0 ≤ y3 ∧ y3 ≤ 9999) ∧ (v 3) < 20))
set_option maxRecDepth 100000 in
set_option maxHeartbeats 4000000 in
theorem qX11_roll (l : Launch) (a : Nat → Nat) (v : Nat → Int) (g : Nat → Int → Int) (R : Int → Int → Int) (ds : List LwS) (ys : Nat → LwY) (y1 y2 y3 : Int) (hpl : 0 ≤ (v 13) ∧ (v 13) ≤ 6) (hrl : 0 ≤ (v 3) ∧ (v 3) ≤ 20) (hx_q : inR y1) (hx_b : inR y2) (hx_t : inR y3) : AMi l yX11_roll cX11_roll 6 .int 1 0 0 [rv (a 19), iv y1, iv y2, iv y3] (CW a v g R ds ys) (QX11_roll a v g R ds ys y1 y2 y3) := by
  have hk := (kX11_roll l (a 19) (o10 a v) (a 31) (o7w a v) (v 13) (a 2) (g 2) (v 3) y1 y2 y3 rfl rfl rfl hpl hrl hx_q hx_b hx_t)
  simp only [Po10_15, uF_self] at hk
  refine AMi.gL (wl := CF a v g R ds) (is := [19, 31, 2]) [0, 1, 3, 4, 5, 6, 7, 8, 9, 10, 11, 12, 13, 14, 15, 16, 17, 18, 20, 21, 22, 23, 24, 25, 26, 27, 28, 29, 30, 32, 33, 34, 35, 36, 37, 38, 39, 40, 41, 42, 43, 44] 45 hk rfl rfl (by decide +kernel) (by decide +kernel) (fun z u hq => ?_)
  rcases hq with ⟨hz, hu, hq⟩ | ⟨hz, hu, hq⟩
  · subst hu
    exact ⟨rfl, CF a v g R ds, rfl, rfl, CF_rest (by decide) rfl, Or.inl ⟨hz, rfl, hq⟩⟩
  · subst hu
    exact ⟨rfl, CF a (uF v 3 ((v 3) + 1)) (uF g 2 (uZ (uZ (uZ (g 2) ((v 3) * 3) y1) ((v 3) * 3 + 1) y2) ((v 3) * 3 + 2) y3)) R ds, rfl, rfl, CF_rest (by decide) rfl, Or.inr (⟨hz, rfl, hq⟩)⟩
def QX11_fits (a : Nat → Nat) (v : Nat → Int) (g : Nat → Int → Int) (R : Int → Int → Int) (ds : List LwS) (ys : Nat → LwY) (y1 : Int) (z : Int) (u : EW) : Prop := ∃ p9 : Int, ∃ n9 : Int, ∃ k9 : Int, ∃ A2 : Int → Int, ∃ T2 : Int → Int, ∃ W2 : Int → Int, ∃ S2 : Int → Int, ∃ t4 : Int, ∃ t5 : Int, ∃ t6 : Int, ∃ t7 : Int, ∃ B3 : Int → Int, ∃ F3 : Int → Int, ∃ H3 : Int → Int, ∃ L3 : Int → Int, z = aFits (v 13) (v 21) (v 22) (v 23) (g 39) (g 40) (g 38) (g 41) (v 3) (t3a (g 2)) (t3b (g 2)) (t3c (g 2)) y1 ∧ u = CW a (uF (uF (uF (uF (uF (uF (uF v 24 t4) 25 t5) 26 t6) 27 t7) 30 p9) 31 n9) 32 k9) (uF (uF (uF (uF (uF (uF (uF (uF g 4 B3) 5 F3) 6 H3) 7 L3) 9 A2) 10 T2) 11 W2) 12 S2) R ds ys
set_option maxRecDepth 100000 in
set_option maxHeartbeats 4000000 in
theorem qX11_fits (l : Launch) (a : Nat → Nat) (v : Nat → Int) (g : Nat → Int → Int) (R : Int → Int → Int) (ds : List LwS) (ys : Nat → LwY) (y1 : Int) (hz : okZ (v 13) (v 21) (v 22) (g 39) (g 40) (g 38) (g 41)) (hx_q : inR y1) (hto : 0 ≤ (v 3) ∧ (v 3) ≤ 20 ∧ ∀ k, 0 ≤ k → k < (v 3) → (0 ≤ t3a (g 2) k ∧ t3a (g 2) k < (v 13)) ∧ (0 ≤ t3b (g 2) k ∧ t3b (g 2) k ≤ 29) ∧ (0 ≤ t3c (g 2) k ∧ t3c (g 2) k ≤ 9999)) : AMi l yX11_fits cX11_fits 4 .int 5 0 0 [rv (a 19), iv y1] (CW a v g R ds ys) (QX11_fits a v g R ds ys y1) := by
  have hk := (kX11_fits l (a 19) (o10 a v) (a 31) (o7w a v) (o4 a v) (o5s a v) (v 13) (v 21) (v 22) (v 23) (a 8) (a 37) (a 9) (a 10) (a 11) (a 12) (a 38) (a 39) (a 40) (a 41) (g 9) (g 10) (g 11) (g 12) (g 38) (g 39) (g 40) (g 41) (v 30) (v 31) (v 32) y1 (a 3) (a 4) (a 5) (a 6) (a 7) (o5t a v) (g 4) (g 5) (g 6) (g 7) (v 24) (v 25) (v 26) (v 27) (a 2) (g 2) (v 3) rfl rfl rfl rfl rfl rfl rfl rfl rfl rfl rfl rfl rfl rfl rfl rfl rfl rfl rfl rfl rfl rfl rfl hz hx_q hto)
  simp only [Po4_6, Po4_7, Po4_8, Po5t_0, Po5t_1, Po5t_2, Po5t_3, uF_self] at hk
  refine AMi.gL (wl := CF a v g R ds) (is := [19, 31, 8, 9, 10, 11, 12, 37, 38, 39, 40, 41, 3, 4, 5, 6, 7, 2]) [0, 1, 13, 14, 15, 16, 17, 18, 20, 21, 22, 23, 24, 25, 26, 27, 28, 29, 30, 32, 33, 34, 35, 36, 42, 43, 44] 45 hk rfl rfl (by decide +kernel) (by decide +kernel) (fun z u hq => ?_)
  obtain ⟨p9, n9, k9, A2, T2, W2, S2, t4, t5, t6, t7, B3, F3, H3, L3, hz, hu⟩ := hq
  subst hu
  exact ⟨rfl, CF a (uF (uF (uF (uF (uF (uF (uF v 24 t4) 25 t5) 26 t6) 27 t7) 30 p9) 31 n9) 32 k9) (uF (uF (uF (uF (uF (uF (uF (uF g 4 B3) 5 F3) 6 H3) 7 L3) 9 A2) 10 T2) 11 W2) 12 S2) R ds, rfl, rfl, CF_rest (by decide) rfl, ⟨p9, n9, k9, A2, T2, W2, S2, t4, t5, t6, t7, B3, F3, H3, L3, hz, rfl⟩⟩
def QX11_deaf (a : Nat → Nat) (v : Nat → Int) (g : Nat → Int → Int) (R : Int → Int → Int) (ds : List LwS) (ys : Nat → LwY) (y1 : Int) (z : Int) (u : EW) : Prop := ∃ p9 : Int, ∃ n9 : Int, ∃ k9 : Int, ∃ A2 : Int → Int, ∃ T2 : Int → Int, ∃ W2 : Int → Int, ∃ S2 : Int → Int, ∃ t4 : Int, ∃ t5 : Int, ∃ t6 : Int, ∃ t7 : Int, ∃ B3 : Int → Int, ∃ F3 : Int → Int, ∃ H3 : Int → Int, ∃ L3 : Int → Int, z = aDeaf (v 13) (v 21) (v 22) (v 23) (g 39) (g 40) (g 38) (g 41) y1 ∧ u = CW a (uF (uF (uF (uF (uF (uF (uF v 24 t4) 25 t5) 26 t6) 27 t7) 30 p9) 31 n9) 32 k9) (uF (uF (uF (uF (uF (uF (uF (uF g 4 B3) 5 F3) 6 H3) 7 L3) 9 A2) 10 T2) 11 W2) 12 S2) R ds ys
set_option maxRecDepth 100000 in
set_option maxHeartbeats 4000000 in
theorem qX11_deaf (l : Launch) (a : Nat → Nat) (v : Nat → Int) (g : Nat → Int → Int) (R : Int → Int → Int) (ds : List LwS) (ys : Nat → LwY) (y1 : Int) (hz : okZ (v 13) (v 21) (v 22) (g 39) (g 40) (g 38) (g 41)) (hx_q : inR y1) : AMi l yX11_deaf cX11_deaf 2 .int 4 0 0 [rv (a 19), iv y1] (CW a v g R ds ys) (QX11_deaf a v g R ds ys y1) := by
  have hk := (kX11_deaf l (a 19) (o10 a v) (a 31) (o7w a v) (o4 a v) (o5s a v) (v 13) (v 21) (v 22) (v 23) (a 8) (a 37) (a 9) (a 10) (a 11) (a 12) (a 38) (a 39) (a 40) (a 41) (g 9) (g 10) (g 11) (g 12) (g 38) (g 39) (g 40) (g 41) (v 30) (v 31) (v 32) y1 (a 3) (a 4) (a 5) (a 6) (a 7) (o5t a v) (g 4) (g 5) (g 6) (g 7) (v 24) (v 25) (v 26) (v 27) rfl rfl rfl rfl rfl rfl rfl rfl rfl rfl rfl rfl rfl rfl rfl rfl rfl rfl rfl rfl rfl hz hx_q)
  simp only [Po4_6, Po4_7, Po4_8, Po5t_0, Po5t_1, Po5t_2, Po5t_3, uF_self] at hk
  refine AMi.gL (wl := CF a v g R ds) (is := [19, 31, 8, 9, 10, 11, 12, 37, 38, 39, 40, 41, 3, 4, 5, 6, 7]) [0, 1, 2, 13, 14, 15, 16, 17, 18, 20, 21, 22, 23, 24, 25, 26, 27, 28, 29, 30, 32, 33, 34, 35, 36, 42, 43, 44] 45 hk rfl rfl (by decide +kernel) (by decide +kernel) (fun z u hq => ?_)
  obtain ⟨p9, n9, k9, A2, T2, W2, S2, t4, t5, t6, t7, B3, F3, H3, L3, hz, hu⟩ := hq
  subst hu
  exact ⟨rfl, CF a (uF (uF (uF (uF (uF (uF (uF v 24 t4) 25 t5) 26 t6) 27 t7) 30 p9) 31 n9) 32 k9) (uF (uF (uF (uF (uF (uF (uF (uF g 4 B3) 5 F3) 6 H3) 7 L3) 9 A2) 10 T2) 11 W2) 12 S2) R ds, rfl, rfl, CF_rest (by decide) rfl, ⟨p9, n9, k9, A2, T2, W2, S2, t4, t5, t6, t7, B3, F3, H3, L3, hz, rfl⟩⟩
def QX11_echoes (a : Nat → Nat) (v : Nat → Int) (g : Nat → Int → Int) (R : Int → Int → Int) (ds : List LwS) (ys : Nat → LwY) (y1 : Int) (z : Int) (u : EW) : Prop := ∃ p9 : Int, ∃ n9 : Int, ∃ k9 : Int, ∃ A2 : Int → Int, ∃ T2 : Int → Int, ∃ W2 : Int → Int, ∃ S2 : Int → Int, ∃ t4 : Int, ∃ t5 : Int, ∃ t6 : Int, ∃ t7 : Int, ∃ B3 : Int → Int, ∃ F3 : Int → Int, ∃ H3 : Int → Int, ∃ L3 : Int → Int, z = aEchoes (v 13) (v 21) (v 23) (g 39) (g 40) (g 38) (g 41) y1 ∧ u = CW a (uF (uF (uF (uF (uF (uF (uF v 24 t4) 25 t5) 26 t6) 27 t7) 30 p9) 31 n9) 32 k9) (uF (uF (uF (uF (uF (uF (uF (uF g 4 B3) 5 F3) 6 H3) 7 L3) 9 A2) 10 T2) 11 W2) 12 S2) R ds ys
set_option maxRecDepth 100000 in
set_option maxHeartbeats 4000000 in
theorem qX11_echoes (l : Launch) (a : Nat → Nat) (v : Nat → Int) (g : Nat → Int → Int) (R : Int → Int → Int) (ds : List LwS) (ys : Nat → LwY) (y1 : Int) (hz : okZ (v 13) (v 21) (v 22) (g 39) (g 40) (g 38) (g 41)) (hx_v : inR y1) : AMi l yX11_echoes cX11_echoes 6 .int 4 0 0 [rv (a 19), iv y1] (CW a v g R ds ys) (QX11_echoes a v g R ds ys y1) := by
  have hk := (kX11_echoes l (a 19) (o10 a v) (a 31) (o7w a v) (o4 a v) (o5s a v) (v 13) (v 21) (v 22) (v 23) (a 8) (a 37) (a 9) (a 10) (a 11) (a 12) (a 38) (a 39) (a 40) (a 41) (g 9) (g 10) (g 11) (g 12) (g 38) (g 39) (g 40) (g 41) (v 30) (v 31) (v 32) y1 (a 3) (a 4) (a 5) (a 6) (a 7) (o5t a v) (g 4) (g 5) (g 6) (g 7) (v 24) (v 25) (v 26) (v 27) rfl rfl rfl rfl rfl rfl rfl rfl rfl rfl rfl rfl rfl rfl rfl rfl rfl rfl rfl rfl rfl hz hx_v)
  simp only [Po4_6, Po4_7, Po4_8, Po5t_0, Po5t_1, Po5t_2, Po5t_3, uF_self] at hk
  refine AMi.gL (wl := CF a v g R ds) (is := [19, 31, 8, 9, 10, 11, 12, 37, 38, 39, 40, 41, 3, 4, 5, 6, 7]) [0, 1, 2, 13, 14, 15, 16, 17, 18, 20, 21, 22, 23, 24, 25, 26, 27, 28, 29, 30, 32, 33, 34, 35, 36, 42, 43, 44] 45 hk rfl rfl (by decide +kernel) (by decide +kernel) (fun z u hq => ?_)
  obtain ⟨p9, n9, k9, A2, T2, W2, S2, t4, t5, t6, t7, B3, F3, H3, L3, hz, hu⟩ := hq
  subst hu
  exact ⟨rfl, CF a (uF (uF (uF (uF (uF (uF (uF v 24 t4) 25 t5) 26 t6) 27 t7) 30 p9) 31 n9) 32 k9) (uF (uF (uF (uF (uF (uF (uF (uF g 4 B3) 5 F3) 6 H3) 7 L3) 9 A2) 10 T2) 11 W2) 12 S2) R ds, rfl, rfl, CF_rest (by decide) rfl, ⟨p9, n9, k9, A2, T2, W2, S2, t4, t5, t6, t7, B3, F3, H3, L3, hz, rfl⟩⟩
def QX11_gift (a : Nat → Nat) (v : Nat → Int) (g : Nat → Int → Int) (R : Int → Int → Int) (ds : List LwS) (ys : Nat → LwY) (y1 : Int) (z : Int) (u : EW) : Prop := ∃ z9 : Int, ∃ p9 : Int, ∃ n9 : Int, ∃ k9 : Int, ∃ A2 : Int → Int, ∃ T2 : Int → Int, ∃ W2 : Int → Int, ∃ S2 : Int → Int, ∃ t4 : Int, ∃ t5 : Int, ∃ t6 : Int, ∃ t7 : Int, ∃ B3 : Int → Int, ∃ F3 : Int → Int, ∃ H3 : Int → Int, ∃ L3 : Int → Int, ∃ y2 : Nat → LwY, z = z9 ∧ u = CW a (uF (uF (uF (uF (uF (uF (uF v 24 t4) 25 t5) 26 t6) 27 t7) 30 p9) 31 n9) 32 k9) (uF (uF (uF (uF (uF (uF (uF (uF g 4 B3) 5 F3) 6 H3) 7 L3) 9 A2) 10 T2) 11 W2) 12 S2) R ds y2 ∧ okW ds y2 (v 14) (v 13)
set_option maxRecDepth 100000 in
set_option maxHeartbeats 4000000 in
theorem qX11_gift (l : Launch) (a : Nat → Nat) (v : Nat → Int) (g : Nat → Int → Int) (R : Int → Int → Int) (ds : List LwS) (ys : Nat → LwY) (y1 : Int) (hz : okZ (v 13) (v 21) (v 22) (g 39) (g 40) (g 38) (g 41)) (hx_v : inR y1) (hod0 : 1 ≤ (v 13) → okDy (v 13) (v 14) (g 34) (g 33)) (hds : (ds.length : Int) = (v 1) ∧ 0 ≤ (v 1) ∧ (v 1) ≤ 4) (hdy : okW ds ys (v 14) (v 13)) (hho : -1 ≤ (v 2) ∧ (v 2) < (v 1)) (htd : 0 ≤ (v 15) ∧ (v 15) ≤ 1000) : AMi l yX11_gift cX11_gift 7 .int 8 0 0 [rv (a 19), iv y1] (CW a v g R ds ys) (QX11_gift a v g R ds ys y1) := by
  have hk := (kX11_gift l (a 19) (o10 a v) (a 31) (o7w a v) (o4 a v) (o5s a v) (v 13) (v 21) (v 22) (v 23) (a 8) (a 37) (a 9) (a 10) (a 11) (a 12) (a 38) (a 39) (a 40) (a 41) (g 9) (g 10) (g 11) (g 12) (g 38) (g 39) (g 40) (g 41) (v 30) (v 31) (v 32) y1 (a 3) (a 4) (a 5) (a 6) (a 7) (o5t a v) (g 4) (g 5) (g 6) (g 7) (v 24) (v 25) (v 26) (v 27) (a 33) (a 34) (g 33) (g 34) ds ys (v 14) (v 1) (a 44) (v 2) (a 42) (o0 a v) (v 15) rfl rfl rfl rfl rfl rfl rfl rfl rfl rfl rfl rfl rfl rfl rfl rfl rfl rfl rfl rfl rfl rfl rfl rfl rfl rfl rfl rfl hz hx_v hod0 hds hdy hho htd)
  simp only [Po4_6, Po4_7, Po4_8, Po5t_0, Po5t_1, Po5t_2, Po5t_3, uF_self] at hk
  refine AMi.gT (wl := CF a v g R ds) (is := [19, 31, 8, 9, 10, 11, 12, 37, 38, 39, 40, 41, 3, 4, 5, 6, 7, 33, 34, 44, 42]) [0, 1, 2, 13, 14, 15, 16, 17, 18, 20, 21, 22, 23, 24, 25, 26, 27, 28, 29, 30, 32, 35, 36, 43] 45 hk rfl rfl (by decide +kernel) (by decide +kernel) (fun z u hq => ?_)
  obtain ⟨z9, p9, n9, k9, A2, T2, W2, S2, t4, t5, t6, t7, B3, F3, H3, L3, y2, hz, hu, hy2⟩ := hq
  subst hu
  exact ⟨_, _, rfl, rfl, lwT_key _ _ _, CF a (uF (uF (uF (uF (uF (uF (uF v 24 t4) 25 t5) 26 t6) 27 t7) 30 p9) 31 n9) 32 k9) (uF (uF (uF (uF (uF (uF (uF (uF g 4 B3) 5 F3) 6 H3) 7 L3) 9 A2) 10 T2) 11 W2) 12 S2) R ds, rfl, rfl, CF_rest (by decide) rfl, ⟨z9, p9, n9, k9, A2, T2, W2, S2, t4, t5, t6, t7, B3, F3, H3, L3, y2, hz, rfl, hy2⟩⟩
def QX11_tune (a : Nat → Nat) (v : Nat → Int) (g : Nat → Int → Int) (R : Int → Int → Int) (ds : List LwS) (ys : Nat → LwY) (y1 y2 : Int) (z : Int) (u : EW) : Prop := ∃ z9 : Int, ∃ p9 : Int, ∃ n9 : Int, ∃ k9 : Int, ∃ A2 : Int → Int, ∃ T2 : Int → Int, ∃ W2 : Int → Int, ∃ S2 : Int → Int, ∃ t4 : Int, ∃ t5 : Int, ∃ t6 : Int, ∃ t7 : Int, ∃ B3 : Int → Int, ∃ F3 : Int → Int, ∃ H3 : Int → Int, ∃ L3 : Int → Int, z = z9 ∧ u = CW a (uF (uF (uF (uF (uF (uF (uF v 24 t4) 25 t5) 26 t6) 27 t7) 30 p9) 31 n9) 32 k9) (uF (uF (uF (uF (uF (uF (uF (uF g 4 B3) 5 F3) 6 H3) 7 L3) 9 A2) 10 T2) 11 W2) 12 S2) R ds ys ∧ rTune (v 13) (v 21) (v 22) (v 23) (g 39) (g 40) (g 38) (g 41) (v 0) y1 y2 z9
set_option maxRecDepth 100000 in
set_option maxHeartbeats 4000000 in
theorem qX11_tune (l : Launch) (a : Nat → Nat) (v : Nat → Int) (g : Nat → Int → Int) (R : Int → Int → Int) (ds : List LwS) (ys : Nat → LwY) (y1 y2 : Int) (hz : okZ (v 13) (v 21) (v 22) (g 39) (g 40) (g 38) (g 41)) (hx_q : inR y1) (hx_v : inR y2) (hlim : 0 ≤ (v 0) ∧ (v 0) ≤ 999) : AMi l yX11_tune cX11_tune 7 .int 4 0 0 [rv (a 19), iv y1, iv y2] (CW a v g R ds ys) (QX11_tune a v g R ds ys y1 y2) := by
  have hk := (kX11_tune l (a 19) (o10 a v) (a 31) (o7w a v) (o4 a v) (o5s a v) (v 13) (v 21) (v 22) (v 23) (a 8) (a 37) (a 9) (a 10) (a 11) (a 12) (a 38) (a 39) (a 40) (a 41) (g 9) (g 10) (g 11) (g 12) (g 38) (g 39) (g 40) (g 41) (v 30) (v 31) (v 32) y1 y2 (a 3) (a 4) (a 5) (a 6) (a 7) (o5t a v) (g 4) (g 5) (g 6) (g 7) (v 24) (v 25) (v 26) (v 27) (v 0) rfl rfl rfl rfl rfl rfl rfl rfl rfl rfl rfl rfl rfl rfl rfl rfl rfl rfl rfl rfl rfl rfl hz hx_q hx_v hlim)
  simp only [Po4_6, Po4_7, Po4_8, Po5t_0, Po5t_1, Po5t_2, Po5t_3, uF_self] at hk
  refine AMi.gL (wl := CF a v g R ds) (is := [19, 31, 8, 9, 10, 11, 12, 37, 38, 39, 40, 41, 3, 4, 5, 6, 7]) [0, 1, 2, 13, 14, 15, 16, 17, 18, 20, 21, 22, 23, 24, 25, 26, 27, 28, 29, 30, 32, 33, 34, 35, 36, 42, 43, 44] 45 hk rfl rfl (by decide +kernel) (by decide +kernel) (fun z u hq => ?_)
  obtain ⟨z9, p9, n9, k9, A2, T2, W2, S2, t4, t5, t6, t7, B3, F3, H3, L3, hz, hu, hs⟩ := hq
  subst hu
  exact ⟨rfl, CF a (uF (uF (uF (uF (uF (uF (uF v 24 t4) 25 t5) 26 t6) 27 t7) 30 p9) 31 n9) 32 k9) (uF (uF (uF (uF (uF (uF (uF (uF g 4 B3) 5 F3) 6 H3) 7 L3) 9 A2) 10 T2) 11 W2) 12 S2) R ds, rfl, rfl, CF_rest (by decide) rfl, ⟨z9, p9, n9, k9, A2, T2, W2, S2, t4, t5, t6, t7, B3, F3, H3, L3, hz, rfl, hs⟩⟩
def QX11_place (a : Nat → Nat) (v : Nat → Int) (g : Nat → Int → Int) (R : Int → Int → Int) (ds : List LwS) (ys : Nat → LwY) (y1 y2 : Int) (z : Int) (u : EW) : Prop := ∃ p9 : Int, ∃ n9 : Int, ∃ k9 : Int, ∃ A2 : Int → Int, ∃ T2 : Int → Int, ∃ W2 : Int → Int, ∃ S2 : Int → Int, z = aPlace (v 13) (v 21) (v 22) (v 23) (g 39) (g 40) (g 38) (g 41) y1 y2 ∧ u = CW a (uF (uF (uF v 30 p9) 31 n9) 32 k9) (uF (uF (uF (uF g 9 A2) 10 T2) 11 W2) 12 S2) R ds ys
set_option maxRecDepth 100000 in
set_option maxHeartbeats 4000000 in
theorem qX11_place (l : Launch) (a : Nat → Nat) (v : Nat → Int) (g : Nat → Int → Int) (R : Int → Int → Int) (ds : List LwS) (ys : Nat → LwY) (y1 y2 : Int) (hz : okZ (v 13) (v 21) (v 22) (g 39) (g 40) (g 38) (g 41)) (hx_b : inR y1) (hx_i : inR y2) : AMi l yX11_place cX11_place 3 .int 4 0 0 [rv (a 19), iv y1, iv y2] (CW a v g R ds ys) (QX11_place a v g R ds ys y1 y2) := by
  have hk := (kX11_place l (a 19) (o10 a v) (a 31) (o7w a v) (o4 a v) (o5s a v) (v 13) (v 21) (v 22) (v 23) (a 8) (a 37) (a 9) (a 10) (a 11) (a 12) (a 38) (a 39) (a 40) (a 41) (g 9) (g 10) (g 11) (g 12) (g 38) (g 39) (g 40) (g 41) (v 30) (v 31) (v 32) y1 y2 rfl rfl rfl rfl rfl rfl rfl rfl rfl rfl rfl rfl rfl rfl rfl rfl hz hx_b hx_i)
  simp only [Po4_6, Po4_7, Po4_8, uF_self] at hk
  refine AMi.gL (wl := CF a v g R ds) (is := [19, 31, 8, 9, 10, 11, 12, 37, 38, 39, 40, 41]) [0, 1, 2, 3, 4, 5, 6, 7, 13, 14, 15, 16, 17, 18, 20, 21, 22, 23, 24, 25, 26, 27, 28, 29, 30, 32, 33, 34, 35, 36, 42, 43, 44] 45 hk rfl rfl (by decide +kernel) (by decide +kernel) (fun z u hq => ?_)
  obtain ⟨p9, n9, k9, A2, T2, W2, S2, hz, hu⟩ := hq
  subst hu
  exact ⟨rfl, CF a (uF (uF (uF v 30 p9) 31 n9) 32 k9) (uF (uF (uF (uF g 9 A2) 10 T2) 11 W2) 12 S2) R ds, rfl, rfl, CF_rest (by decide) rfl, ⟨p9, n9, k9, A2, T2, W2, S2, hz, rfl⟩⟩
def QX11_overtakes (a : Nat → Nat) (v : Nat → Int) (g : Nat → Int → Int) (R : Int → Int → Int) (ds : List LwS) (ys : Nat → LwY) (y1 y2 : Int) (z : Int) (u : EW) : Prop := ∃ p9 : Int, ∃ n9 : Int, ∃ k9 : Int, ∃ A2 : Int → Int, ∃ T2 : Int → Int, ∃ W2 : Int → Int, ∃ S2 : Int → Int, z = aOver (v 13) (v 21) (v 22) (v 23) (g 39) (g 40) (g 38) (g 41) y1 y2 ∧ u = CW a (uF (uF (uF v 30 p9) 31 n9) 32 k9) (uF (uF (uF (uF g 9 A2) 10 T2) 11 W2) 12 S2) R ds ys
set_option maxRecDepth 100000 in
set_option maxHeartbeats 4000000 in
theorem qX11_overtakes (l : Launch) (a : Nat → Nat) (v : Nat → Int) (g : Nat → Int → Int) (R : Int → Int → Int) (ds : List LwS) (ys : Nat → LwY) (y1 y2 : Int) (hz : okZ (v 13) (v 21) (v 22) (g 39) (g 40) (g 38) (g 41)) (hx_i : inR y1) (hx_j : inR y2) : AMi l yX11_overtakes cX11_overtakes 3 .int 4 0 0 [rv (a 19), iv y1, iv y2] (CW a v g R ds ys) (QX11_overtakes a v g R ds ys y1 y2) := by
  have hk := (kX11_overtakes l (a 19) (o10 a v) (a 31) (o7w a v) (o4 a v) (o5s a v) (v 13) (v 21) (v 22) (v 23) (a 8) (a 37) (a 9) (a 10) (a 11) (a 12) (a 38) (a 39) (a 40) (a 41) (g 9) (g 10) (g 11) (g 12) (g 38) (g 39) (g 40) (g 41) (v 30) (v 31) (v 32) y1 y2 rfl rfl rfl rfl rfl rfl rfl rfl rfl rfl rfl rfl rfl rfl rfl rfl hz hx_i hx_j)
  simp only [Po4_6, Po4_7, Po4_8, uF_self] at hk
  refine AMi.gL (wl := CF a v g R ds) (is := [19, 31, 8, 9, 10, 11, 12, 37, 38, 39, 40, 41]) [0, 1, 2, 3, 4, 5, 6, 7, 13, 14, 15, 16, 17, 18, 20, 21, 22, 23, 24, 25, 26, 27, 28, 29, 30, 32, 33, 34, 35, 36, 42, 43, 44] 45 hk rfl rfl (by decide +kernel) (by decide +kernel) (fun z u hq => ?_)
  obtain ⟨p9, n9, k9, A2, T2, W2, S2, hz, hu⟩ := hq
  subst hu
  exact ⟨rfl, CF a (uF (uF (uF v 30 p9) 31 n9) 32 k9) (uF (uF (uF (uF g 9 A2) 10 T2) 11 W2) 12 S2) R ds, rfl, rfl, CF_rest (by decide) rfl, ⟨p9, n9, k9, A2, T2, W2, S2, hz, rfl⟩⟩
def QX11_middle (a : Nat → Nat) (v : Nat → Int) (g : Nat → Int → Int) (R : Int → Int → Int) (ds : List LwS) (ys : Nat → LwY) (z : Int) (u : EW) : Prop := ∃ p9 : Int, ∃ n9 : Int, ∃ k9 : Int, ∃ A2 : Int → Int, ∃ T2 : Int → Int, ∃ W2 : Int → Int, ∃ S2 : Int → Int, z = aMiddle (v 13) (v 21) (v 22) (v 23) (g 39) (g 40) (g 38) (g 41) ∧ u = CW a (uF (uF (uF v 30 p9) 31 n9) 32 k9) (uF (uF (uF (uF g 9 A2) 10 T2) 11 W2) 12 S2) R ds ys
set_option maxRecDepth 100000 in
set_option maxHeartbeats 4000000 in
theorem qX11_middle (l : Launch) (a : Nat → Nat) (v : Nat → Int) (g : Nat → Int → Int) (R : Int → Int → Int) (ds : List LwS) (ys : Nat → LwY) (hz : okZ (v 13) (v 21) (v 22) (g 39) (g 40) (g 38) (g 41)) : AMi l yX11_middle cX11_middle 1 .int 4 0 0 [rv (a 19)] (CW a v g R ds ys) (QX11_middle a v g R ds ys) := by
  have hk := (kX11_middle l (a 19) (o10 a v) (a 31) (o7w a v) (o4 a v) (o5s a v) (v 13) (v 21) (v 22) (v 23) (a 8) (a 37) (a 9) (a 10) (a 11) (a 12) (a 38) (a 39) (a 40) (a 41) (g 9) (g 10) (g 11) (g 12) (g 38) (g 39) (g 40) (g 41) (v 30) (v 31) (v 32) rfl rfl rfl rfl rfl rfl rfl rfl rfl rfl rfl rfl rfl rfl rfl rfl hz)
  simp only [Po4_6, Po4_7, Po4_8, uF_self] at hk
  refine AMi.gL (wl := CF a v g R ds) (is := [19, 31, 8, 9, 10, 11, 12, 37, 38, 39, 40, 41]) [0, 1, 2, 3, 4, 5, 6, 7, 13, 14, 15, 16, 17, 18, 20, 21, 22, 23, 24, 25, 26, 27, 28, 29, 30, 32, 33, 34, 35, 36, 42, 43, 44] 45 hk rfl rfl (by decide +kernel) (by decide +kernel) (fun z u hq => ?_)
  obtain ⟨p9, n9, k9, A2, T2, W2, S2, hz, hu⟩ := hq
  subst hu
  exact ⟨rfl, CF a (uF (uF (uF v 30 p9) 31 n9) 32 k9) (uF (uF (uF (uF g 9 A2) 10 T2) 11 W2) 12 S2) R ds, rfl, rfl, CF_rest (by decide) rfl, ⟨p9, n9, k9, A2, T2, W2, S2, hz, rfl⟩⟩
def QX11_ends (a : Nat → Nat) (v : Nat → Int) (g : Nat → Int → Int) (R : Int → Int → Int) (ds : List LwS) (ys : Nat → LwY) (y1 : Int) (z : Int) (u : EW) : Prop := ∃ p9 : Int, ∃ n9 : Int, ∃ k9 : Int, ∃ A2 : Int → Int, ∃ T2 : Int → Int, ∃ W2 : Int → Int, ∃ S2 : Int → Int, z = aEnds (v 13) (v 21) (v 22) (v 23) (g 39) (g 40) (g 38) (g 41) y1 ∧ u = CW a (uF (uF (uF v 30 p9) 31 n9) 32 k9) (uF (uF (uF (uF g 9 A2) 10 T2) 11 W2) 12 S2) R ds ys
set_option maxRecDepth 100000 in
set_option maxHeartbeats 4000000 in
theorem qX11_ends (l : Launch) (a : Nat → Nat) (v : Nat → Int) (g : Nat → Int → Int) (R : Int → Int → Int) (ds : List LwS) (ys : Nat → LwY) (y1 : Int) (hz : okZ (v 13) (v 21) (v 22) (g 39) (g 40) (g 38) (g 41)) (hx_v : inR y1) : AMi l yX11_ends cX11_ends 4 .int 4 0 0 [rv (a 19), iv y1] (CW a v g R ds ys) (QX11_ends a v g R ds ys y1) := by
  have hk := (kX11_ends l (a 19) (o10 a v) (a 31) (o7w a v) (o4 a v) (o5s a v) (v 13) (v 21) (v 22) (v 23) (a 8) (a 37) (a 9) (a 10) (a 11) (a 12) (a 38) (a 39) (a 40) (a 41) (g 9) (g 10) (g 11) (g 12) (g 38) (g 39) (g 40) (g 41) (v 30) (v 31) (v 32) y1 rfl rfl rfl rfl rfl rfl rfl rfl rfl rfl rfl rfl rfl rfl rfl rfl hz hx_v)
  simp only [Po4_6, Po4_7, Po4_8, uF_self] at hk
  refine AMi.gL (wl := CF a v g R ds) (is := [19, 31, 8, 9, 10, 11, 12, 37, 38, 39, 40, 41]) [0, 1, 2, 3, 4, 5, 6, 7, 13, 14, 15, 16, 17, 18, 20, 21, 22, 23, 24, 25, 26, 27, 28, 29, 30, 32, 33, 34, 35, 36, 42, 43, 44] 45 hk rfl rfl (by decide +kernel) (by decide +kernel) (fun z u hq => ?_)
  obtain ⟨p9, n9, k9, A2, T2, W2, S2, hz, hu⟩ := hq
  subst hu
  exact ⟨rfl, CF a (uF (uF (uF v 30 p9) 31 n9) 32 k9) (uF (uF (uF (uF g 9 A2) 10 T2) 11 W2) 12 S2) R ds, rfl, rfl, CF_rest (by decide) rfl, ⟨p9, n9, k9, A2, T2, W2, S2, hz, rfl⟩⟩
def QX11_stray (a : Nat → Nat) (v : Nat → Int) (g : Nat → Int → Int) (R : Int → Int → Int) (ds : List LwS) (ys : Nat → LwY) (y1 y2 : Int) (z : Int) (u : EW) : Prop := ∃ p9 : Int, ∃ n9 : Int, ∃ k9 : Int, ∃ A2 : Int → Int, ∃ T2 : Int → Int, ∃ W2 : Int → Int, ∃ S2 : Int → Int, z = aStray (v 13) (v 21) (v 22) (g 39) (g 40) (g 38) y1 y2 ∧ u = CW a (uF (uF (uF v 30 p9) 31 n9) 32 k9) (uF (uF (uF (uF g 9 A2) 10 T2) 11 W2) 12 S2) R ds ys
set_option maxRecDepth 100000 in
set_option maxHeartbeats 4000000 in
theorem qX11_stray (l : Launch) (a : Nat → Nat) (v : Nat → Int) (g : Nat → Int → Int) (R : Int → Int → Int) (ds : List LwS) (ys : Nat → LwY) (y1 y2 : Int) (hz : okZ (v 13) (v 21) (v 22) (g 39) (g 40) (g 38) (g 41)) (hx_q : inR y1) (hx_v : inR y2) : AMi l yX11_stray cX11_stray 3 .int 4 0 0 [rv (a 19), iv y1, iv y2] (CW a v g R ds ys) (QX11_stray a v g R ds ys y1 y2) := by
  have hk := (kX11_stray l (a 19) (o10 a v) (a 31) (o7w a v) (o4 a v) (o5s a v) (v 13) (v 21) (v 22) (v 23) (a 8) (a 37) (a 9) (a 10) (a 11) (a 12) (a 38) (a 39) (a 40) (a 41) (g 9) (g 10) (g 11) (g 12) (g 38) (g 39) (g 40) (g 41) (v 30) (v 31) (v 32) y1 y2 rfl rfl rfl rfl rfl rfl rfl rfl rfl rfl rfl rfl rfl rfl rfl rfl hz hx_q hx_v)
  simp only [Po4_6, Po4_7, Po4_8, uF_self] at hk
  refine AMi.gL (wl := CF a v g R ds) (is := [19, 31, 8, 9, 10, 11, 12, 37, 38, 39, 40, 41]) [0, 1, 2, 3, 4, 5, 6, 7, 13, 14, 15, 16, 17, 18, 20, 21, 22, 23, 24, 25, 26, 27, 28, 29, 30, 32, 33, 34, 35, 36, 42, 43, 44] 45 hk rfl rfl (by decide +kernel) (by decide +kernel) (fun z u hq => ?_)
  obtain ⟨p9, n9, k9, A2, T2, W2, S2, hz, hu⟩ := hq
  subst hu
  exact ⟨rfl, CF a (uF (uF (uF v 30 p9) 31 n9) 32 k9) (uF (uF (uF (uF g 9 A2) 10 T2) 11 W2) 12 S2) R ds, rfl, rfl, CF_rest (by decide) rfl, ⟨p9, n9, k9, A2, T2, W2, S2, hz, rfl⟩⟩
def QX11_image (a : Nat → Nat) (v : Nat → Int) (g : Nat → Int → Int) (R : Int → Int → Int) (ds : List LwS) (ys : Nat → LwY) (z : Int) (u : EW) : Prop := (z = -1 ∧ u = CW a v g R ds ys ∧ (v 13) = 0) ∨ (z = (v 15) ∧ u = CW a (uF (uF v 17 1) 18 (v 15)) (uF g 0 (cpZ (g 38) (g 0) 0 0 6)) R ds ys ∧ 1 ≤ (v 13))
set_option maxRecDepth 100000 in
set_option maxHeartbeats 4000000 in
theorem qX11_image (l : Launch) (a : Nat → Nat) (v : Nat → Int) (g : Nat → Int → Int) (R : Int → Int → Int) (ds : List LwS) (ys : Nat → LwY) (hpl : 0 ≤ (v 13) ∧ (v 13) ≤ 6) : AMi l yX11_image cX11_image 1 .int 2 0 0 [rv (a 19)] (CW a v g R ds ys) (QX11_image a v g R ds ys) := by
  have hk := (kX11_image l (a 19) (o10 a v) (a 31) (o7w a v) (o5s a v) (v 13) (a 37) (a 38) (g 38) (a 42) (o0 a v) (a 0) (g 0) (v 15) (v 16) (v 17) (v 18) (v 19) rfl rfl rfl rfl rfl rfl hpl)
  simp only [Po0_0, Po0_1, Po0_2, Po0_3, Po0_4, uF_self] at hk
  refine AMi.gL (wl := CF a v g R ds) (is := [19, 31, 42, 0, 37, 38]) [1, 2, 3, 4, 5, 6, 7, 8, 9, 10, 11, 12, 13, 14, 15, 16, 17, 18, 20, 21, 22, 23, 24, 25, 26, 27, 28, 29, 30, 32, 33, 34, 35, 36, 39, 40, 41, 43, 44] 45 hk rfl rfl (by decide +kernel) (by decide +kernel) (fun z u hq => ?_)
  rcases hq with ⟨hz, hu, hq⟩ | ⟨hz, hu, hq⟩
  · subst hu
    exact ⟨rfl, CF a v g R ds, rfl, rfl, CF_rest (by decide) rfl, Or.inl ⟨hz, rfl, hq⟩⟩
  · subst hu
    exact ⟨rfl, CF a (uF (uF v 17 1) 18 (v 15)) (uF g 0 (cpZ (g 38) (g 0) 0 0 6)) R ds, rfl, rfl, CF_rest (by decide) rfl, Or.inr (⟨hz, rfl, hq⟩)⟩
def QX11_back (a : Nat → Nat) (v : Nat → Int) (g : Nat → Int → Int) (R : Int → Int → Int) (ds : List LwS) (ys : Nat → LwY) (z : Int) (u : EW) : Prop := (z = -1 ∧ u = CW a v g R ds ys ∧ (v 17) = 0) ∨ (z = (v 18) ∧ u = CW a (uF (uF (uF v 15 (v 18)) 16 0) 35 0) (uF g 38 (cpZ (g 0) (g 38) 0 0 6)) R ds ys ∧ (v 17) = 1)
set_option maxRecDepth 100000 in
set_option maxHeartbeats 4000000 in
theorem qX11_back (l : Launch) (a : Nat → Nat) (v : Nat → Int) (g : Nat → Int → Int) (R : Int → Int → Int) (ds : List LwS) (ys : Nat → LwY) (hhi : (v 17) = 0 ∨ (v 17) = 1) : AMi l yX11_back cX11_back 1 .int 2 0 0 [rv (a 19)] (CW a v g R ds ys) (QX11_back a v g R ds ys) := by
  have hk := (kX11_back l (a 19) (o10 a v) (o5s a v) (a 37) (a 38) (g 38) (a 43) (o9 a v) (v 35) (a 42) (o0 a v) (a 0) (g 0) (v 15) (v 16) (v 17) (v 18) (v 19) rfl rfl rfl rfl rfl hhi)
  simp only [Po0_0, Po0_1, Po0_2, Po0_3, Po0_4, Po9_0, uF_self] at hk
  refine AMi.gL (wl := CF a v g R ds) (is := [19, 42, 0, 37, 38, 43]) [1, 2, 3, 4, 5, 6, 7, 8, 9, 10, 11, 12, 13, 14, 15, 16, 17, 18, 20, 21, 22, 23, 24, 25, 26, 27, 28, 29, 30, 31, 32, 33, 34, 35, 36, 39, 40, 41, 44] 45 hk rfl rfl (by decide +kernel) (by decide +kernel) (fun z u hq => ?_)
  rcases hq with ⟨hz, hu, hq⟩ | ⟨hz, hu, hq⟩
  · subst hu
    exact ⟨rfl, CF a v g R ds, rfl, rfl, CF_rest (by decide) rfl, Or.inl ⟨hz, rfl, hq⟩⟩
  · subst hu
    exact ⟨rfl, CF a (uF (uF (uF v 15 (v 18)) 16 0) 35 0) (uF g 38 (cpZ (g 0) (g 38) 0 0 6)) R ds, rfl, rfl, CF_rest (by decide) rfl, Or.inr (⟨hz, rfl, hq⟩)⟩
def QX11_count (a : Nat → Nat) (v : Nat → Int) (g : Nat → Int → Int) (R : Int → Int → Int) (ds : List LwS) (ys : Nat → LwY) (y1 : Int) (z : Int) (u : EW) : Prop := ∃ z9 : Int, z = z9 ∧ u = CW a v g R ds ys
set_option maxRecDepth 100000 in
set_option maxHeartbeats 4000000 in
theorem qX11_count (l : Launch) (a : Nat → Nat) (v : Nat → Int) (g : Nat → Int → Int) (R : Int → Int → Int) (ds : List LwS) (ys : Nat → LwY) (y1 : Int) (hx_v : inR y1) : AMi l yX11_count cX11_count 2 .int 0 0 0 [rv (a 19), iv y1] (CW a v g R ds ys) (QX11_count a v g R ds ys y1) := by
  have hk := (kX11_count l (a 19) (o10 a v) (a 31) (o7w a v) (o5s a v) (v 13) (v 21) (v 22) (v 23) (a 37) (a 42) (o0 a v) (v 15) (v 16) (v 17) (v 18) (v 19) (a 20) (o6 a v) (v 14) y1 (v 1) (v 4) (v 2) (v 0) (v 3) rfl rfl rfl rfl rfl rfl rfl rfl rfl rfl rfl rfl rfl rfl rfl hx_v)
  simp only [Po0_0, Po0_1, Po0_2, Po0_3, Po0_4, uF_self] at hk
  refine AMi.gL (wl := CF a v g R ds) (is := [19, 31, 37, 42, 20]) [0, 1, 2, 3, 4, 5, 6, 7, 8, 9, 10, 11, 12, 13, 14, 15, 16, 17, 18, 21, 22, 23, 24, 25, 26, 27, 28, 29, 30, 32, 33, 34, 35, 36, 38, 39, 40, 41, 43, 44] 45 hk rfl rfl (by decide +kernel) (by decide +kernel) (fun z u hq => ?_)
  obtain ⟨z9, hz, hu⟩ := hq
  subst hu
  exact ⟨rfl, CF a v g R ds, rfl, rfl, CF_rest (by decide) rfl, ⟨z9, hz, rfl⟩⟩
