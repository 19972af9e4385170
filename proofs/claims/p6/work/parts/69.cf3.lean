section TE
variable {pl n ec mk q v : Int} {Fo Ho B Lt F2 H2 B2 L2 : Int → Int}
def teq (pl : Int) (Fo Ho B Lt F2 H2 B2 L2 : Int → Int) : Prop := ∀ p, 0 ≤ p → p < pl → Fo p = F2 p ∧ Ho p = H2 p ∧ B p = B2 p ∧ Lt p = L2 p
theorem te_0 (hp : pl ≤ 6) (hB : ∀ x, 0 ≤ x → x < 6 → B2 x = B x) (hF : ∀ x, 0 ≤ x → x < 6 → F2 x = Fo x) (hH : ∀ x, 0 ≤ x → x < 6 → H2 x = Ho x) (hL : ∀ x, 0 ≤ x → x < 6 → L2 x = Lt x) : teq pl Fo Ho B Lt F2 H2 B2 L2 := fun p h0 h1 => ⟨(hF p h0 (by omega)).symm, (hH p h0 (by omega)).symm, (hB p h0 (by omega)).symm, (hL p h0 (by omega)).symm⟩
theorem te_F (h : teq pl Fo Ho B Lt F2 H2 B2 L2) : teq pl (uZ Fo q v) Ho B Lt (uZ F2 q v) H2 B2 L2 := fun p h0 h1 => by
  obtain ⟨a, b⟩ := h p h0 h1
  refine ⟨?_, b⟩
  unfold uZ
  split
  · rfl
  · exact a
theorem te_H (h : teq pl Fo Ho B Lt F2 H2 B2 L2) : teq pl Fo (uZ Ho q v) B Lt F2 (uZ H2 q v) B2 L2 := fun p h0 h1 => by
  obtain ⟨a, b, d⟩ := h p h0 h1
  refine ⟨a, ?_, d⟩
  unfold uZ
  split
  · rfl
  · exact b
theorem te_L (h : teq pl Fo Ho B Lt F2 H2 B2 L2) : teq pl Fo Ho B (uZ Lt q v) F2 H2 B2 (uZ L2 q v) := fun p h0 h1 => by
  obtain ⟨a, b, d, g⟩ := h p h0 h1
  refine ⟨a, b, d, ?_⟩
  unfold uZ
  split
  · rfl
  · exact g
theorem wS_c (h : okS pl n ec Fo Ho B Lt) (e : teq pl Fo Ho B Lt F2 H2 B2 L2) (b p : Int) (hb : 0 ≤ b) (h0 : 0 ≤ p) (h1 : p < pl) : wS pl ec mk Fo Ho B Lt b p = wS pl ec mk F2 H2 B2 L2 b p := by
  unfold wS wF
  have k := fun y y0 y1 => tS_c (mk := mk) h e b y hb y0 y1
  have k2 := mxI_c pl (by have := h.1; omega) k
  have k3 := k p h0 h1
  unfold tS at k2 k3
  rw [k2, k3]
theorem ld_keep {o be le : Int} (hok : okS pl n ec Fo Ho B Lt) (ho : -1 ≤ o ∧ o < pl) (hq : 0 ≤ q) (h : (o = -1 ∧ le = 1000000000 ∧ be = -1) ∨ (0 ≤ o ∧ ldI pl n ec mk Fo Ho B Lt q o = (be, le))) (c : o = q ∨ le ≤ WO pl n ec mk (uZ Fo q o) Ho B Lt) : (o + 1 = -1 ∧ le = 1000000000 ∧ be = -1) ∨ (0 ≤ o + 1 ∧ ldI pl n ec mk Fo Ho B Lt q (o + 1) = (be, le)) := by
  have hw := (hok.fo (p := q) (v := o) ho).worst (mk := mk)
  rcases h with ⟨a, b, d⟩ | ⟨a, b⟩
  · exfalso; omega
  · refine Or.inr ⟨by omega, ?_⟩
    rw [ldI_S a, b, if_neg (fun g => by have := g.2; dsimp only at this; omega)]
theorem ld_take {o be le : Int} (hok : okS pl n ec Fo Ho B Lt) (ho : -1 ≤ o ∧ o < pl) (hne : o ≠ q) (h : (o = -1 ∧ le = 1000000000 ∧ be = -1) ∨ (0 ≤ o ∧ ldI pl n ec mk Fo Ho B Lt q o = (be, le))) (c : WO pl n ec mk (uZ Fo q o) Ho B Lt < le) : (o + 1 = -1 ∧ WO pl n ec mk (uZ Fo q o) Ho B Lt = 1000000000 ∧ o = -1) ∨ (0 ≤ o + 1 ∧ ldI pl n ec mk Fo Ho B Lt q (o + 1) = (o, WO pl n ec mk (uZ Fo q o) Ho B Lt)) := by
  refine Or.inr ⟨by omega, ?_⟩
  rcases h with ⟨a, b, d⟩ | ⟨a, b⟩
  · subst a; exact ldI_0
  · rw [ldI_S a, b, if_pos ⟨hne, c⟩]
theorem ec_keep {o be le : Int} (hok : okS pl n o Fo Ho B Lt) (h : (o = 0 ∧ le = 1000000000 ∧ be = 0) ∨ (1 ≤ o ∧ ehI pl n mk Fo Ho B Lt (o - 1) = (be, le))) (c : le ≤ WO pl n o mk Fo Ho B Lt) : (o + 1 = 0 ∧ le = 1000000000 ∧ be = 0) ∨ (1 ≤ o + 1 ∧ ehI pl n mk Fo Ho B Lt (o + 1 - 1) = (be, le)) := by
  have hw := hok.worst (mk := mk)
  rcases h with ⟨a, b, d⟩ | ⟨a, b⟩
  · exfalso; omega
  · refine Or.inr ⟨by omega, ?_⟩
    have e : ehI pl n mk Fo Ho B Lt (o - 1 + 1) = _ := ehI_S (by omega)
    rw [Int.sub_add_cancel, b] at e
    rw [Int.add_sub_cancel, e, if_neg (by dsimp only; omega)]
theorem ec_take {o be le : Int} (h0 : 0 ≤ o) (h : (o = 0 ∧ le = 1000000000 ∧ be = 0) ∨ (1 ≤ o ∧ ehI pl n mk Fo Ho B Lt (o - 1) = (be, le))) (c : WO pl n o mk Fo Ho B Lt < le) : (o + 1 = 0 ∧ WO pl n o mk Fo Ho B Lt = 1000000000 ∧ o = 0) ∨ (1 ≤ o + 1 ∧ ehI pl n mk Fo Ho B Lt (o + 1 - 1) = (o, WO pl n o mk Fo Ho B Lt)) := by
  refine Or.inr ⟨by omega, ?_⟩
  rw [Int.add_sub_cancel]
  rcases h with ⟨a, b, d⟩ | ⟨a, b⟩
  · subst a; exact ehI_0
  · have e : ehI pl n mk Fo Ho B Lt (o - 1 + 1) = _ := ehI_S (by omega)
    rw [Int.sub_add_cancel, b] at e
    rw [e, if_pos (by dsimp only; omega)]
theorem alL_c (h : okS pl n ec Fo Ho B (uZ Lt q v)) (e : teq pl Fo Ho B (uZ Lt q v) F2 H2 B2 L2) (hq : 0 ≤ q ∧ q < pl) : (∀ o, 0 ≤ o → o < pl → o ≠ q → tS pl ec mk F2 H2 B2 L2 (n - 1) o < tS pl ec mk F2 H2 B2 L2 (n - 1) q) ↔ alL pl n ec mk Fo Ho B Lt q v := by
  have hn := h.2.2.1
  have k := fun y y0 y1 => tS_c (mk := mk) h e (n - 1) y (by omega) y0 y1
  constructor
  · intro g o h0 h1 hne
    rw [k o h0 h1, k q hq.1 hq.2]
    exact g o h0 h1 hne
  · intro g o h0 h1 hne
    rw [← k o h0 h1, ← k q hq.1 hq.2]
    exact g o h0 h1 hne
theorem agR_c {rl o : Int} {P1 B1 T1 : Int → Int} (h : okS pl n ec (uZ Fo q o) Ho B Lt) (e : teq pl (uZ Fo q o) Ho B Lt F2 H2 B2 L2) (hr : ∀ k, 0 ≤ k → k < rl → (0 ≤ P1 k ∧ P1 k < pl) ∧ 0 ≤ B1 k) : (∀ k, 0 ≤ k → k < rl → B1 k < n ∧ wS pl ec mk F2 H2 B2 L2 (B1 k) (P1 k) = T1 k) ↔ agR pl n ec mk Fo Ho B Lt rl P1 B1 T1 q o := by
  constructor
  · intro g k h0 h1
    have := g k h0 h1
    have r := hr k h0 h1
    exact ⟨this.1, (wS_c h e (B1 k) (P1 k) r.2 r.1.1 r.1.2).trans this.2⟩
  · intro g k h0 h1
    have := g k h0 h1
    have r := hr k h0 h1
    exact ⟨this.1, (wS_c h e (B1 k) (P1 k) r.2 r.1.1 r.1.2).symm.trans this.2⟩
theorem fb_no2 {rl f st : Int} {P1 B1 T1 : Int → Int} (hf : -1 ≤ f) (h : (f = -1 ∧ st = 0) ∨ (0 ≤ f ∧ st = fiB pl n ec mk Fo Ho B Lt rl P1 B1 T1 q f.toNat)) (hr : inR st) (e : f ≠ q) (hq : agB pl n ec mk Fo Ho B Lt rl P1 B1 T1 q f = false) : (f + 1 = -1 ∧ st = 0) ∨ (0 ≤ f + 1 ∧ st = fiB pl n ec mk Fo Ho B Lt rl P1 B1 T1 q (f + 1).toNat) := by
  have := fb_no hf h e hr hq
  rwa [zOr_0 hr] at this
end TE
def t3 (To : Int → Int) (j : Int) : Int → Int := fun k => To (k * 3 + j)
section TV
variable {P : Int → Int} {own sp hw lim : Int}
def stepOf (own k : Int) : Int := if own ≤ k then 2 * (k - own) else 2 * (own - k) - 1
theorem stepOf_e (own k : Int) : (own ≤ k ∧ stepOf own k = 2 * (k - own)) ∨ (k < own ∧ stepOf own k = 2 * (own - k) - 1) := by
  unfold stepOf
  split <;> omega
theorem tu_no (h : ∀ k, 0 ≤ k → k ≤ 10 → stepOf own k < sp → lim < P k) (hs : stepOf own hw = sp) (c : lim < P hw) : ∀ k, 0 ≤ k → k ≤ 10 → stepOf own k < sp + 1 → lim < P k := by
  intro k h0 h1 h2
  have a := stepOf_e own k
  have b := stepOf_e own hw
  by_cases e : k = hw
  · rw [e]; exact c
  · exact h k h0 h1 (by omega)
theorem tu_out (h : ∀ k, 0 ≤ k → k ≤ 10 → stepOf own k < sp → lim < P k) (hs : stepOf own hw = sp) (c : hw < 0 ∨ 10 < hw) : ∀ k, 0 ≤ k → k ≤ 10 → stepOf own k < sp + 1 → lim < P k := by
  intro k h0 h1 h2
  have a := stepOf_e own k
  have b := stepOf_e own hw
  exact h k h0 h1 (by omega)
theorem tu_best (h : ∀ k, 0 ≤ k → k ≤ 10 → stepOf own k < sp → lim < P k) (hs : stepOf own hw = sp) : ∀ k, 0 ≤ k → k ≤ 10 → P k ≤ lim → (hw - own).natAbs < (k - own).natAbs ∨ (hw - own).natAbs = (k - own).natAbs ∧ hw ≤ k := by
  intro k h0 h1 h2
  have a := stepOf_e own k
  have b := stepOf_e own hw
  have c := fun g => h k h0 h1 g
  by_cases d : stepOf own k < sp
  · have := c d; omega
  · omega
end TV
set_option maxHeartbeats 4000000 in
set_option maxRecDepth 100000 in
theorem kX11_deaf (l : Launch) (h0 : Nat) (f : Nat → AV) (oW : Nat) (fW : Nat → AV) (fP : Nat → AV) (fS : Nat → AV) (pl : Int) (n : Int) (ec : Int) (mk : Int) (oP : Nat) (oS : Nat) (aA : Nat) (aT : Nat) (aW : Nat) (aS : Nat) (aB : Nat) (aF : Nat) (aH : Nat) (aL : Nat) (Ab : Int → Int) (Tm : Int → Int) (Wq : Int → Int) (Sp : Int → Int) (B : Int → Int) (Fo : Int → Int) (Ho : Int → Int) (Lt : Int → Int) (p0 : Int) (n0 : Int) (k0 : Int) (q : Int) (oT : Nat) (tB : Nat) (tF : Nat) (tH : Nat) (tL : Nat) (fT : Nat → AV) (TB : Int → Int) (TF : Int → Int) (TH : Int → Int) (TL : Int → Int) (t0 : Int) (t1 : Int) (t2 : Int) (t3 : Int) (hf0 : f 3 = rv oW) (hf1 : f 7 = rv oS) (hf2 : f 9 = rv oP) (hf3 : f 8 = rv oT) (hf4 : fW 0 = iv pl) (hf5 : fP 0 = rv aA) (hf6 : fP 1 = rv aT) (hf7 : fP 2 = rv aW) (hf8 : fP 3 = rv aS) (hf9 : fS 0 = iv pl) (hf10 : fS 1 = iv n) (hf11 : fS 2 = iv ec) (hf12 : fS 3 = iv mk) (hf13 : fS 4 = rv aB) (hf14 : fS 5 = rv aF) (hf15 : fS 6 = rv aH) (hf16 : fS 7 = rv aL) (hf17 : fT 4 = rv tB) (hf18 : fT 5 = rv tF) (hf19 : fT 6 = rv tH) (hf20 : fT 7 = rv tL) (hz : okZ pl n ec Fo Ho B Lt) (hx_q : inR q) : AMi l yX11_deaf cX11_deaf 2 .int 4 0 0 [rv h0, iv q] [(h0, ob 10 f), (oW, ob 7 fW), (oP, ob 4 (uF (uF (uF fP 6 (iv p0)) 7 (iv n0)) 8 (iv k0))), (aA, ar 1206 Ab), (aT, ar 180 Tm), (aW, ar 6 Wq), (aS, ar 30 Sp), (oS, ob 5 fS), (aB, ar 6 B), (aF, ar 6 Fo), (aH, ar 6 Ho), (aL, ar 6 Lt), (oT, ob 5 (uF (uF (uF (uF fT 0 (iv t0)) 1 (iv t1)) 2 (iv t2)) 3 (iv t3))), (tB, ar 6 TB), (tF, ar 6 TF), (tH, ar 6 TH), (tL, ar 6 TL)] (fun z u => ∃ p9 : Int, ∃ n9 : Int, ∃ k9 : Int, ∃ A2 : Int → Int, ∃ T2 : Int → Int, ∃ W2 : Int → Int, ∃ S2 : Int → Int, ∃ t4 : Int, ∃ t5 : Int, ∃ t6 : Int, ∃ t7 : Int, ∃ B3 : Int → Int, ∃ F3 : Int → Int, ∃ H3 : Int → Int, ∃ L3 : Int → Int, z = aDeaf pl n ec mk Fo Ho B Lt q ∧ u = [(h0, ob 10 f), (oW, ob 7 fW), (oP, ob 4 (uF (uF (uF fP 6 (iv p9)) 7 (iv n9)) 8 (iv k9))), (aA, ar 1206 A2), (aT, ar 180 T2), (aW, ar 6 W2), (aS, ar 30 S2), (oS, ob 5 fS), (aB, ar 6 B), (aF, ar 6 Fo), (aH, ar 6 Ho), (aL, ar 6 Lt), (oT, ob 5 (uF (uF (uF (uF fT 0 (iv t4)) 1 (iv t5)) 2 (iv t6)) 3 (iv t7))), (tB, ar 6 B3), (tF, ar 6 F3), (tH, ar 6 H3), (tL, ar 6 L3)]) := by
  refine AMi.of2 rfl (nle rfl) ?_
  intro D G A p e s m args below meth c Po hPo X
  have hz6 := hz.2.1
  have hz0 := hz.1
  have hzn := hz.2.2.1
  have hzm := hz.2.2.2.1
  have hze := hz.2.2.2.2
  refine S_aload_n X dX11_deaf_0 rfl rfl ?_
  refine S_iload_n X dX11_deaf_1 rfl rfl ?_
  refine S_calli X (kX11_isPlayer l h0 f oW fW pl q hf0 hf4 (by omega) (by omega)) (is := [0, 1]) rfl (run_V X lkX11_147 0 rfl rfl (is := [0, 1]) (avs := [iv q]) (rest := []) rfl rfl (nle rfl) ⟨nle rfl, nle rfl⟩ ⟨nle rfl, nle rfl⟩ dX11_deaf_2 (by decide) rfl) (fun z_3 u_1 hp_2 => ?_)
  rcases hp_2 with ⟨hz_4, hu_5, hp_6⟩ | ⟨hz_7, hu_8, hp_9⟩
  ·
    subst hz_4
    subst hu_5
    refine ⟨rfl, ?_⟩
    refine S_w (ws' := [(h0, ob 10 f), (oW, ob 7 fW), (oP, ob 4 (uF (uF (uF fP 6 (iv p0)) 7 (iv n0)) 8 (iv k0))), (aA, ar 1206 Ab), (aT, ar 180 Tm), (aW, ar 6 Wq), (aS, ar 30 Sp), (oS, ob 5 fS), (aB, ar 6 B), (aF, ar 6 Fo), (aH, ar 6 Ho), (aL, ar 6 Lt), (oT, ob 5 (uF (uF (uF (uF fT 0 (iv t0)) 1 (iv t1)) 2 (iv t2)) 3 (iv t3))), (tB, ar 6 TB), (tF, ar 6 TF), (tH, ar 6 TH), (tL, ar 6 TL)]) rfl ?_
    refine S_if_ne (tgt := 10) X dX11_deaf_5 (by decide) (by decide) (fun h9 => absurd h9 (by decide)) (fun _ => ?_)
    refine S_iconst X dX11_deaf_8 ?_
    exact S_iret X (nle rfl) (nle rfl) dX11_deaf_9 (hPo _ _ (⟨_, _, _, _, _, _, _, _, _, _, _, _, _, _, _, by unfold aDeaf; rw [if_neg (by omega)], rfl⟩))
  ·
    subst hz_7
    subst hu_8
    refine ⟨rfl, ?_⟩
    refine S_w (ws' := [(h0, ob 10 f), (oW, ob 7 fW), (oP, ob 4 (uF (uF (uF fP 6 (iv p0)) 7 (iv n0)) 8 (iv k0))), (aA, ar 1206 Ab), (aT, ar 180 Tm), (aW, ar 6 Wq), (aS, ar 30 Sp), (oS, ob 5 fS), (aB, ar 6 B), (aF, ar 6 Fo), (aH, ar 6 Ho), (aL, ar 6 Lt), (oT, ob 5 (uF (uF (uF (uF fT 0 (iv t0)) 1 (iv t1)) 2 (iv t2)) 3 (iv t3))), (tB, ar 6 TB), (tF, ar 6 TF), (tH, ar 6 TH), (tL, ar 6 TL)]) rfl ?_
    refine S_if_ne (tgt := 10) X dX11_deaf_5 (by decide) (by decide) (fun _ => ?_) (fun h9 => absurd h9 (by decide))
    have hok := hz.s (by omega)
    have hpl := hok.2.1
    have hpl1 := hok.1
    have hn1 := hok.2.2.1
    have hn2 := hok.2.2.2.1
    have hec := hok.2.2.2.2
    refine S_aload_n X dX11_deaf_10 rfl rfl ?_
    refine S_get X fgX11_63_10 0 rfl hf3 dX11_deaf_11 ?_
    refine S_aload_n X dX11_deaf_14 rfl rfl ?_
    refine S_get X fgX11_59_10 0 rfl hf1 dX11_deaf_15 ?_
    refine S_callv X (kX6_copyFrom l fS pl n ec mk oS aB aF aH aL B Fo Ho Lt oT tB tF tH tL fT TB TF TH TL t0 t1 t2 t3 hf9 hf10 hf11 hf12 hf13 hf14 hf15 hf16 hf17 hf18 hf19 hf20) (is := [12, 13, 14, 15, 16, 7, 8, 9, 10, 11]) rfl (run_V X lkX11_289 12 rfl rfl (is := [12, 13, 14, 15, 16, 7, 8, 9, 10, 11]) (avs := [rv oS]) (rest := []) rfl rfl (nle rfl) ⟨nle rfl, nle rfl⟩ ⟨nle rfl, nle rfl⟩ dX11_deaf_18 (by decide) rfl) (fun u_12 hp_13 => ?_)
    obtain ⟨B2_15, F2_16, H2_17, L2_18, hu_20, hB2_21, hF2_22, hH2_23, hL2_24⟩ := hp_13
    subst hu_20
    refine ⟨rfl, ?_⟩
    refine S_w (ws' := [(h0, ob 10 f), (oW, ob 7 fW), (oP, ob 4 (uF (uF (uF fP 6 (iv p0)) 7 (iv n0)) 8 (iv k0))), (aA, ar 1206 Ab), (aT, ar 180 Tm), (aW, ar 6 Wq), (aS, ar 30 Sp), (oS, ob 5 fS), (aB, ar 6 B), (aF, ar 6 Fo), (aH, ar 6 Ho), (aL, ar 6 Lt), (oT, ob 5 (uF (uF (uF (uF fT 0 (iv pl)) 1 (iv n)) 2 (iv ec)) 3 (iv mk))), (tB, ar 6 B2_15), (tF, ar 6 F2_16), (tH, ar 6 H2_17), (tL, ar 6 L2_18)]) rfl ?_
    have hB9 := hB2_21
    have hF9 := hF2_22
    have hH9 := hH2_23
    have hL9 := hL2_24
    have hte := te_0 (pl := pl) (by omega) hB9 hF9 hH9 hL9
    refine S_aload_n X dX11_deaf_21 rfl rfl ?_
    refine S_get X fgX11_63_10 0 rfl hf3 dX11_deaf_22 ?_
    refine S_get X fgX11_168_5 12 rfl hf18 dX11_deaf_25 ?_
    refine S_iload_n X dX11_deaf_28 rfl rfl ?_
    refine S_iconst X dX11_deaf_29 ?_
    refine S_iast X 14 rfl (by omega) (by omega) (nle rfl) dX11_deaf_30 ?_
    refine S_w (ws' := [(h0, ob 10 f), (oW, ob 7 fW), (oP, ob 4 (uF (uF (uF fP 6 (iv p0)) 7 (iv n0)) 8 (iv k0))), (aA, ar 1206 Ab), (aT, ar 180 Tm), (aW, ar 6 Wq), (aS, ar 30 Sp), (oS, ob 5 fS), (aB, ar 6 B), (aF, ar 6 Fo), (aH, ar 6 Ho), (aL, ar 6 Lt), (oT, ob 5 (uF (uF (uF (uF fT 0 (iv pl)) 1 (iv n)) 2 (iv ec)) 3 (iv mk))), (tB, ar 6 B2_15), (tF, ar 6 (uZ F2_16 q (-1))), (tH, ar 6 H2_17), (tL, ar 6 L2_18)]) rfl ?_
    refine S_aload_n X dX11_deaf_31 rfl rfl ?_
    refine S_get X fgX11_69_10 0 rfl hf2 dX11_deaf_32 ?_
    refine S_aload_n X dX11_deaf_35 rfl rfl ?_
    refine S_get X fgX11_63_10 0 rfl hf3 dX11_deaf_36 ?_
    refine S_ldc (n := 1000000000) X m813 dX11_deaf_39 ?_
    refine S_calli X (kX4_performE l fP (uF (uF (uF (uF fT 0 (iv pl)) 1 (iv n)) 2 (iv ec)) 3 (iv mk)) pl n ec mk oP oT aA aT aW aS tB tF tH tL Ab Tm Wq Sp B2_15 (uZ F2_16 q (-1)) H2_17 L2_18 p0 n0 k0 hf5 hf6 hf7 hf8 rfl rfl rfl rfl hf17 hf18 hf19 hf20 ((hok.fo (p := q) (v := -1) (by omega)).c (te_F hte))) (is := [2, 3, 4, 5, 6, 12, 13, 14, 15, 16]) rfl (run_V X lkX11_235 2 rfl rfl (is := [2, 3, 4, 5, 6, 12, 13, 14, 15, 16]) (avs := [rv oT, iv 1000000000]) (rest := []) rfl rfl (nle rfl) ⟨nle rfl, nle rfl⟩ ⟨nle rfl, nle rfl⟩ dX11_deaf_41 (by decide) rfl) (fun z_27 u_25 hp_26 => ?_)
    obtain ⟨A2_28, T2_29, W2_30, S2_31, hz_32, hu_33, hq_34, hA2_35, hT2_36, hS2_37⟩ := hp_26
    subst hz_32
    subst hu_33
    refine ⟨rfl, ?_⟩
    refine S_w (ws' := [(h0, ob 10 f), (oW, ob 7 fW), (oP, ob 4 (uF (uF (uF fP 6 (iv pl)) 7 (iv n)) 8 (iv mk))), (aA, ar 1206 A2_28), (aT, ar 180 T2_29), (aW, ar 6 W2_30), (aS, ar 30 S2_31), (oS, ob 5 fS), (aB, ar 6 B), (aF, ar 6 Fo), (aH, ar 6 Ho), (aL, ar 6 Lt), (oT, ob 5 (uF (uF (uF (uF fT 0 (iv pl)) 1 (iv n)) 2 (iv ec)) 3 (iv mk))), (tB, ar 6 B2_15), (tF, ar 6 (uZ F2_16 q (-1))), (tH, ar 6 H2_17), (tL, ar 6 L2_18)]) rfl ?_
    exact S_iret X (nle rfl) (nle rfl) dX11_deaf_44 (hPo _ _ (⟨_, _, _, _, _, _, _, _, _, _, _, _, _, _, _, by unfold aDeaf; rw [if_pos (by omega)]; exact (WO_c (hok.fo (p := q) (v := -1) (by omega)) (te_F hte)).symm, rfl⟩))
set_option maxHeartbeats 4000000 in
set_option maxRecDepth 100000 in
theorem kX11_leader (l : Launch) (h0 : Nat) (f : Nat → AV) (oW : Nat) (fW : Nat → AV) (fP : Nat → AV) (fS : Nat → AV) (pl : Int) (n : Int) (ec : Int) (mk : Int) (oP : Nat) (oS : Nat) (aA : Nat) (aT : Nat) (aW : Nat) (aS : Nat) (aB : Nat) (aF : Nat) (aH : Nat) (aL : Nat) (Ab : Int → Int) (Tm : Int → Int) (Wq : Int → Int) (Sp : Int → Int) (B : Int → Int) (Fo : Int → Int) (Ho : Int → Int) (Lt : Int → Int) (p0 : Int) (n0 : Int) (k0 : Int) (q : Int) (v : Int) (oT : Nat) (tB : Nat) (tF : Nat) (tH : Nat) (tL : Nat) (fT : Nat → AV) (TB : Int → Int) (TF : Int → Int) (TH : Int → Int) (TL : Int → Int) (t0 : Int) (t1 : Int) (t2 : Int) (t3 : Int) (hf0 : f 3 = rv oW) (hf1 : f 7 = rv oS) (hf2 : f 9 = rv oP) (hf3 : f 8 = rv oT) (hf4 : fW 0 = iv pl) (hf5 : fP 0 = rv aA) (hf6 : fP 1 = rv aT) (hf7 : fP 2 = rv aW) (hf8 : fP 3 = rv aS) (hf9 : fS 0 = iv pl) (hf10 : fS 1 = iv n) (hf11 : fS 2 = iv ec) (hf12 : fS 3 = iv mk) (hf13 : fS 4 = rv aB) (hf14 : fS 5 = rv aF) (hf15 : fS 6 = rv aH) (hf16 : fS 7 = rv aL) (hf17 : fT 4 = rv tB) (hf18 : fT 5 = rv tF) (hf19 : fT 6 = rv tH) (hf20 : fT 7 = rv tL) (hz : okZ pl n ec Fo Ho B Lt) (hx_q : inR q) (hx_v : inR v) : AMi l yX11_leader cX11_leader 7 .int 4 0 0 [rv h0, iv q, iv v] [(h0, ob 10 f), (oW, ob 7 fW), (oP, ob 4 (uF (uF (uF fP 6 (iv p0)) 7 (iv n0)) 8 (iv k0))), (aA, ar 1206 Ab), (aT, ar 180 Tm), (aW, ar 6 Wq), (aS, ar 30 Sp), (oS, ob 5 fS), (aB, ar 6 B), (aF, ar 6 Fo), (aH, ar 6 Ho), (aL, ar 6 Lt), (oT, ob 5 (uF (uF (uF (uF fT 0 (iv t0)) 1 (iv t1)) 2 (iv t2)) 3 (iv t3))), (tB, ar 6 TB), (tF, ar 6 TF), (tH, ar 6 TH), (tL, ar 6 TL)] (fun z u => ∃ p9 : Int, ∃ n9 : Int, ∃ k9 : Int, ∃ A2 : Int → Int, ∃ T2 : Int → Int, ∃ W2 : Int → Int, ∃ S2 : Int → Int, ∃ t4 : Int, ∃ t5 : Int, ∃ t6 : Int, ∃ t7 : Int, ∃ B3 : Int → Int, ∃ F3 : Int → Int, ∃ H3 : Int → Int, ∃ L3 : Int → Int, z = aLeader pl n ec mk Fo Ho B Lt q v ∧ u = [(h0, ob 10 f), (oW, ob 7 fW), (oP, ob 4 (uF (uF (uF fP 6 (iv p9)) 7 (iv n9)) 8 (iv k9))), (aA, ar 1206 A2), (aT, ar 180 T2), (aW, ar 6 W2), (aS, ar 30 S2), (oS, ob 5 fS), (aB, ar 6 B), (aF, ar 6 Fo), (aH, ar 6 Ho), (aL, ar 6 Lt), (oT, ob 5 (uF (uF (uF (uF fT 0 (iv t4)) 1 (iv t5)) 2 (iv t6)) 3 (iv t7))), (tB, ar 6 B3), (tF, ar 6 F3), (tH, ar 6 H3), (tL, ar 6 L3)]) := by
  refine AMi.of2 rfl (nle rfl) ?_
  intro D G A p e s m args below meth c Po hPo X
  have hz6 := hz.2.1
  have hz0 := hz.1
  have hzn := hz.2.2.1
  have hzm := hz.2.2.2.1
  have hze := hz.2.2.2.2
  refine S_aload_n X dX11_leader_0 rfl rfl ?_
  refine S_iload_n X dX11_leader_1 rfl rfl ?_
  refine S_calli X (kX11_isPlayer l h0 f oW fW pl q hf0 hf4 (by omega) (by omega)) (is := [0, 1]) rfl (run_V X lkX11_147 0 rfl rfl (is := [0, 1]) (avs := [iv q]) (rest := []) rfl rfl (nle rfl) ⟨nle rfl, nle rfl⟩ ⟨nle rfl, nle rfl⟩ dX11_leader_2 (by decide) rfl) (fun z_3 u_1 hp_2 => ?_)
  rcases hp_2 with ⟨hz_4, hu_5, hp_6⟩ | ⟨hz_7, hu_8, hp_9⟩
  ·
    subst hz_4
    subst hu_5
    refine ⟨rfl, ?_⟩
    refine S_w (ws' := [(h0, ob 10 f), (oW, ob 7 fW), (oP, ob 4 (uF (uF (uF fP 6 (iv p0)) 7 (iv n0)) 8 (iv k0))), (aA, ar 1206 Ab), (aT, ar 180 Tm), (aW, ar 6 Wq), (aS, ar 30 Sp), (oS, ob 5 fS), (aB, ar 6 B), (aF, ar 6 Fo), (aH, ar 6 Ho), (aL, ar 6 Lt), (oT, ob 5 (uF (uF (uF (uF fT 0 (iv t0)) 1 (iv t1)) 2 (iv t2)) 3 (iv t3))), (tB, ar 6 TB), (tF, ar 6 TF), (tH, ar 6 TH), (tL, ar 6 TL)]) rfl ?_
    refine S_if_eq (tgt := 17) X dX11_leader_5 (by decide) (by decide) (fun _ => ?_) (fun h9 => absurd h9 (by decide))
    refine S_ldc (n := -1000000) X (by rw [show i32 (-1000000) = (-1000000 : Int32) from by decide]; exact m697) dX11_leader_17 ?_
    exact S_iret X (nle rfl) (nle rfl) dX11_leader_19 (hPo _ _ (⟨_, _, _, _, _, _, _, _, _, _, _, _, _, _, _, by unfold aLeader; rw [if_neg (by omega)], rfl⟩))
  ·
    subst hz_7
    subst hu_8
    refine ⟨rfl, ?_⟩
    refine S_w (ws' := [(h0, ob 10 f), (oW, ob 7 fW), (oP, ob 4 (uF (uF (uF fP 6 (iv p0)) 7 (iv n0)) 8 (iv k0))), (aA, ar 1206 Ab), (aT, ar 180 Tm), (aW, ar 6 Wq), (aS, ar 30 Sp), (oS, ob 5 fS), (aB, ar 6 B), (aF, ar 6 Fo), (aH, ar 6 Ho), (aL, ar 6 Lt), (oT, ob 5 (uF (uF (uF (uF fT 0 (iv t0)) 1 (iv t1)) 2 (iv t2)) 3 (iv t3))), (tB, ar 6 TB), (tF, ar 6 TF), (tH, ar 6 TH), (tL, ar 6 TL)]) rfl ?_
    refine S_if_eq (tgt := 17) X dX11_leader_5 (by decide) (by decide) (fun h9 => absurd h9 (by decide)) (fun _ => ?_)
    refine S_iload_n X dX11_leader_8 rfl rfl ?_
    refine S_if_lt (tgt := 17) X dX11_leader_9 (by decide) (by omega) (fun c_12 => ?_) (fun c_12 => ?_)
    ·
      refine S_ldc (n := -1000000) X (by rw [show i32 (-1000000) = (-1000000 : Int32) from by decide]; exact m697) dX11_leader_17 ?_
      exact S_iret X (nle rfl) (nle rfl) dX11_leader_19 (hPo _ _ (⟨_, _, _, _, _, _, _, _, _, _, _, _, _, _, _, by unfold aLeader; rw [if_neg (by omega)], rfl⟩))
    ·
      refine S_iload_n X dX11_leader_12 rfl rfl ?_
      refine S_iconst X dX11_leader_13 ?_
      refine S_icmp_le (tgt := 20) X dX11_leader_14 (by decide) (by omega) (by decide) (fun c_13 => ?_) (fun c_13 => ?_)
      ·
        have hok := hz.s (by omega)
        have hpl := hok.2.1
        have hpl1 := hok.1
        have hn1 := hok.2.2.1
        have hn2 := hok.2.2.2.1
        have hec := hok.2.2.2.2
        refine S_aload_n X dX11_leader_20 rfl rfl ?_
        refine S_get X fgX11_63_10 0 rfl hf3 dX11_leader_21 ?_
        refine S_aload_n X dX11_leader_24 rfl rfl ?_
        refine S_get X fgX11_59_10 0 rfl hf1 dX11_leader_25 ?_
        refine S_callv X (kX6_copyFrom l fS pl n ec mk oS aB aF aH aL B Fo Ho Lt oT tB tF tH tL fT TB TF TH TL t0 t1 t2 t3 hf9 hf10 hf11 hf12 hf13 hf14 hf15 hf16 hf17 hf18 hf19 hf20) (is := [12, 13, 14, 15, 16, 7, 8, 9, 10, 11]) rfl (run_V X lkX11_289 12 rfl rfl (is := [12, 13, 14, 15, 16, 7, 8, 9, 10, 11]) (avs := [rv oS]) (rest := []) rfl rfl (nle rfl) ⟨nle rfl, nle rfl⟩ ⟨nle rfl, nle rfl⟩ dX11_leader_28 (by decide) rfl) (fun u_14 hp_15 => ?_)
        obtain ⟨B2_17, F2_18, H2_19, L2_20, hu_22, hB2_23, hF2_24, hH2_25, hL2_26⟩ := hp_15
        subst hu_22
        refine ⟨rfl, ?_⟩
        refine S_w (ws' := [(h0, ob 10 f), (oW, ob 7 fW), (oP, ob 4 (uF (uF (uF fP 6 (iv p0)) 7 (iv n0)) 8 (iv k0))), (aA, ar 1206 Ab), (aT, ar 180 Tm), (aW, ar 6 Wq), (aS, ar 30 Sp), (oS, ob 5 fS), (aB, ar 6 B), (aF, ar 6 Fo), (aH, ar 6 Ho), (aL, ar 6 Lt), (oT, ob 5 (uF (uF (uF (uF fT 0 (iv pl)) 1 (iv n)) 2 (iv ec)) 3 (iv mk))), (tB, ar 6 B2_17), (tF, ar 6 F2_18), (tH, ar 6 H2_19), (tL, ar 6 L2_20)]) rfl ?_
        have hB9 := hB2_23
        have hF9 := hF2_24
        have hH9 := hH2_25
        have hL9 := hL2_26
        have hte := te_0 (pl := pl) (by omega) hB9 hF9 hH9 hL9
        refine S_ldc (n := 1000000000) X m813 dX11_leader_31 ?_
        refine S_istore_n X dX11_leader_33 rfl (nle rfl) ?_
        refine S_iconst X dX11_leader_34 ?_
        refine S_istore X dX11_leader_35 (nle rfl) ?_
        refine S_iconst X dX11_leader_37 ?_
        refine S_istore X dX11_leader_38 (nle rfl) ?_
        have lp40_3 : ∀ (N : Nat) (o : Int) (be : Int) (le : Int) (Fv : Int → Int) (Aw : Int → Int) (Tw : Int → Int) (Ww : Int → Int) (Sw : Int → Int) (pw : Int) (nw : Int) (kw : Int) (L : Nat → Option AV), -1 ≤ o ∧ o ≤ pl → 0 ≤ le ∧ le ≤ 1000000000 → (∀ x, uZ Fv q x = uZ F2_18 q x) → (o = -1 ∧ le = 1000000000 ∧ be = -1) ∨ (0 ≤ o ∧ ldI pl n ec mk Fo Ho B Lt q o = (be, le)) → L 0 = some (rv h0) → L 1 = some (iv q) → L 2 = some (iv v) → L 3 = some (iv le) → L 4 = some (iv be) → L 5 = some (iv o) → pl + 1 - o < (N : Int) → S_ p l e (rmD 4 0 0) s m args below meth c (MQ below (QcI D G A Po) args s 0 0 A) D G A 7 0 0 40 L [] [(h0, ob 10 f), (oW, ob 7 fW), (oP, ob 4 (uF (uF (uF fP 6 (iv pw)) 7 (iv nw)) 8 (iv kw))), (aA, ar 1206 Aw), (aT, ar 180 Tw), (aW, ar 6 Ww), (aS, ar 30 Sw), (oS, ob 5 fS), (aB, ar 6 B), (aF, ar 6 Fo), (aH, ar 6 Ho), (aL, ar 6 Lt), (oT, ob 5 (uF (uF (uF (uF fT 0 (iv pl)) 1 (iv n)) 2 (iv ec)) 3 (iv mk))), (tB, ar 6 B2_17), (tF, ar 6 Fv), (tH, ar 6 H2_19), (tL, ar 6 L2_20)] := by
          intro N
          induction N with
          | zero =>
            intro o be le Fv Aw Tw Ww Sw pw nw kw L40 ho hle hFv hld hL40_0 hL40_1 hL40_2 hL40_3 hL40_4 hL40_5 hN40
            exfalso; omega
          | succ N ih40 =>
            intro o be le Fv Aw Tw Ww Sw pw nw kw L40 ho hle hFv hld hL40_0 hL40_1 hL40_2 hL40_3 hL40_4 hL40_5 hN40
            refine S_iload X dX11_leader_40 hL40_5 ?_
            refine S_aload_n X dX11_leader_42 rfl hL40_0 ?_
            refine S_get X fgX11_35_10 0 rfl hf0 dX11_leader_43 ?_
            refine S_get X fgX11_115_7 1 rfl hf4 dX11_leader_46 ?_
            refine S_icmp_ge (tgt := 106) X dX11_leader_49 (by decide) (by omega) (by omega) (fun c_27 => ?_) (fun c_27 => ?_)
            ·
              refine S_iload_n X dX11_leader_106 rfl hL40_2 ?_
              refine S_if_ne (tgt := 115) X dX11_leader_107 (by decide) (by omega) (fun c_28 => ?_) (fun c_28 => ?_)
              ·
                refine S_iload_n X dX11_leader_115 rfl hL40_3 ?_
                exact S_iret X (nle rfl) (nle rfl) dX11_leader_116 (hPo _ _ (⟨_, _, _, _, _, _, _, _, _, _, _, _, _, _, _, by unfold aLeader; rw [if_pos (by omega), if_neg (by omega)]; rcases hld with h9 | h9; (exfalso; omega); have h8 := h9.2; rw [show o = pl by omega] at h8; rw [h8], rfl⟩))
              ·
                refine S_iload X dX11_leader_110 hL40_4 ?_
                refine S_goto (tgt := 116) X dX11_leader_112 (by decide) ?_
                exact S_iret X (nle rfl) (nle rfl) dX11_leader_116 (hPo _ _ (⟨_, _, _, _, _, _, _, _, _, _, _, _, _, _, _, by unfold aLeader; rw [if_pos (by omega), if_pos (by omega)]; rcases hld with h9 | h9; (exfalso; omega); have h8 := h9.2; rw [show o = pl by omega] at h8; rw [h8], rfl⟩))
            ·
              refine S_aload_n X dX11_leader_52 rfl hL40_0 ?_
              refine S_get X fgX11_63_10 0 rfl hf3 dX11_leader_53 ?_
              refine S_get X fgX11_168_5 12 rfl hf18 dX11_leader_56 ?_
              refine S_iload_n X dX11_leader_59 rfl hL40_1 ?_
              refine S_iload X dX11_leader_60 hL40_5 ?_
              refine S_iast X 14 rfl (by omega) (by omega) (nle rfl) dX11_leader_62 ?_
              refine S_w (ws' := [(h0, ob 10 f), (oW, ob 7 fW), (oP, ob 4 (uF (uF (uF fP 6 (iv pw)) 7 (iv nw)) 8 (iv kw))), (aA, ar 1206 Aw), (aT, ar 180 Tw), (aW, ar 6 Ww), (aS, ar 30 Sw), (oS, ob 5 fS), (aB, ar 6 B), (aF, ar 6 Fo), (aH, ar 6 Ho), (aL, ar 6 Lt), (oT, ob 5 (uF (uF (uF (uF fT 0 (iv pl)) 1 (iv n)) 2 (iv ec)) 3 (iv mk))), (tB, ar 6 B2_17), (tF, ar 6 (uZ Fv q o)), (tH, ar 6 H2_19), (tL, ar 6 L2_20)]) rfl ?_
              refine S_iload X dX11_leader_63 hL40_5 ?_
              refine S_iload_n X dX11_leader_65 rfl hL40_1 ?_
              refine S_icmp_ne (tgt := 73) X dX11_leader_66 (by decide) (by omega) (by omega) (fun c_29 => ?_) (fun c_29 => ?_)
              ·
                refine S_aload_n X dX11_leader_73 rfl hL40_0 ?_
                refine S_get X fgX11_69_10 0 rfl hf2 dX11_leader_74 ?_
                refine S_aload_n X dX11_leader_77 rfl hL40_0 ?_
                refine S_get X fgX11_63_10 0 rfl hf3 dX11_leader_78 ?_
                refine S_iload_n X dX11_leader_81 rfl hL40_3 ?_
                refine S_calli X (kX4_perform l fP (uF (uF (uF (uF fT 0 (iv pl)) 1 (iv n)) 2 (iv ec)) 3 (iv mk)) pl n ec mk oP oT aA aT aW aS tB tF tH tL Aw Tw Ww Sw B2_17 (uZ Fv q o) H2_19 L2_20 pw nw kw le hf5 hf6 hf7 hf8 rfl rfl rfl rfl hf17 hf18 hf19 hf20 (by rw [hFv]; exact (hok.fo (p := q) (v := o) (by omega)).c (te_F hte)) (by omega)) (is := [2, 3, 4, 5, 6, 12, 13, 14, 15, 16]) rfl (run_V X lkX11_235 2 rfl rfl (is := [2, 3, 4, 5, 6, 12, 13, 14, 15, 16]) (avs := [rv oT, iv le]) (rest := []) rfl rfl (nle rfl) ⟨nle rfl, nle rfl⟩ ⟨nle rfl, nle rfl⟩ dX11_leader_82 (by decide) rfl) (fun z_32 u_30 hp_31 => ?_)
                rcases hp_31 with ⟨A2_33, T2_34, W2_35, S2_36, hz_37, hu_38, hq_39⟩ | ⟨A2_40, T2_41, W2_42, S2_43, hz_44, hu_45, hq_46, hA2_47, hT2_48, hS2_49⟩
                ·
                  replace hz_37 := Eq.symm hz_37
                  subst hz_37
                  subst hu_38
                  refine ⟨rfl, ?_⟩
                  refine S_w (ws' := [(h0, ob 10 f), (oW, ob 7 fW), (oP, ob 4 (uF (uF (uF fP 6 (iv pl)) 7 (iv n)) 8 (iv mk))), (aA, ar 1206 A2_33), (aT, ar 180 T2_34), (aW, ar 6 W2_35), (aS, ar 30 S2_36), (oS, ob 5 fS), (aB, ar 6 B), (aF, ar 6 Fo), (aH, ar 6 Ho), (aL, ar 6 Lt), (oT, ob 5 (uF (uF (uF (uF fT 0 (iv pl)) 1 (iv n)) 2 (iv ec)) 3 (iv mk))), (tB, ar 6 B2_17), (tF, ar 6 (uZ Fv q o)), (tH, ar 6 H2_19), (tL, ar 6 L2_20)]) rfl ?_
                  have hcu : le ≤ WO pl n ec mk (uZ Fo q o) Ho B Lt := by have h9 := hq_39; rw [hFv] at h9; rwa [← WO_c (hok.fo (p := q) (v := o) (by omega)) (te_F hte)] at h9
                  have hwr := (hok.fo (p := q) (v := o) (by omega)).worst (mk := mk)
                  refine S_istore X dX11_leader_85 (nle rfl) ?_
                  refine S_iload X dX11_leader_87 rfl ?_
                  refine S_iload_n X dX11_leader_89 rfl hL40_3 ?_
                  refine S_icmp_ge (tgt := 100) X dX11_leader_90 (by decide) (by omega) (by omega) (fun c_50 => ?_) (fun c_50 => by exfalso; omega)
                  refine S_iinc X dX11_leader_100 (nle rfl) hL40_5 ?_
                  refine S_goto (tgt := 40) X dX11_leader_103 (by decide) ?_
                  exact ih40 (o + 1) be le (uZ Fv q o) A2_33 T2_34 W2_35 S2_36 pl n mk _ (by omega) (by omega) (fun x => by first | (rw [uZ_twice]; exact hFv x) | exact hFv x) (ld_keep hok (by omega) (by omega) hld (by omega)) hL40_0 hL40_1 hL40_2 hL40_3 hL40_4 rfl (by omega)
                ·
                  subst hz_44
                  subst hu_45
                  refine ⟨rfl, ?_⟩
                  refine S_w (ws' := [(h0, ob 10 f), (oW, ob 7 fW), (oP, ob 4 (uF (uF (uF fP 6 (iv pl)) 7 (iv n)) 8 (iv mk))), (aA, ar 1206 A2_40), (aT, ar 180 T2_41), (aW, ar 6 W2_42), (aS, ar 30 S2_43), (oS, ob 5 fS), (aB, ar 6 B), (aF, ar 6 Fo), (aH, ar 6 Ho), (aL, ar 6 Lt), (oT, ob 5 (uF (uF (uF (uF fT 0 (iv pl)) 1 (iv n)) 2 (iv ec)) 3 (iv mk))), (tB, ar 6 B2_17), (tF, ar 6 (uZ Fv q o)), (tH, ar 6 H2_19), (tL, ar 6 L2_20)]) rfl ?_
                  have hv1 : WO pl n ec mk (uZ Fv q o) H2_19 B2_17 L2_20 = WO pl n ec mk (uZ Fo q o) Ho B Lt := by rw [hFv]; exact (WO_c (hok.fo (p := q) (v := o) (by omega)) (te_F hte)).symm
                  rw [hv1]
                  have hwr := (hok.fo (p := q) (v := o) (by omega)).worst (mk := mk)
                  refine S_istore X dX11_leader_85 (nle rfl) ?_
                  refine S_iload X dX11_leader_87 rfl ?_
                  refine S_iload_n X dX11_leader_89 rfl hL40_3 ?_
                  refine S_icmp_ge (tgt := 100) X dX11_leader_90 (by decide) (by omega) (by omega) (fun c_51 => ?_) (fun c_51 => ?_)
                  ·
                    refine S_iinc X dX11_leader_100 (nle rfl) hL40_5 ?_
                    refine S_goto (tgt := 40) X dX11_leader_103 (by decide) ?_
                    exact ih40 (o + 1) be le (uZ Fv q o) A2_40 T2_41 W2_42 S2_43 pl n mk _ (by omega) (by omega) (fun x => by first | (rw [uZ_twice]; exact hFv x) | exact hFv x) (ld_keep hok (by omega) (by omega) hld (by omega)) hL40_0 hL40_1 hL40_2 hL40_3 hL40_4 rfl (by omega)
                  ·
                    refine S_iload X dX11_leader_93 rfl ?_
                    refine S_istore_n X dX11_leader_95 rfl (nle rfl) ?_
                    refine S_iload X dX11_leader_96 hL40_5 ?_
                    refine S_istore X dX11_leader_98 (nle rfl) ?_
                    refine S_iinc X dX11_leader_100 (nle rfl) hL40_5 ?_
                    refine S_goto (tgt := 40) X dX11_leader_103 (by decide) ?_
                    exact ih40 (o + 1) o (WO pl n ec mk (uZ Fo q o) Ho B Lt) (uZ Fv q o) A2_40 T2_41 W2_42 S2_43 pl n mk _ (by omega) (by omega) (fun x => by first | (rw [uZ_twice]; exact hFv x) | exact hFv x) (ld_take hok (by omega) (by omega) hld (by omega)) hL40_0 hL40_1 hL40_2 rfl rfl rfl (by omega)
              ·
                refine S_iload_n X dX11_leader_69 rfl hL40_3 ?_
                refine S_goto (tgt := 85) X dX11_leader_70 (by decide) ?_
                refine S_istore X dX11_leader_85 (nle rfl) ?_
                refine S_iload X dX11_leader_87 rfl ?_
                refine S_iload_n X dX11_leader_89 rfl hL40_3 ?_
                refine S_icmp_ge (tgt := 100) X dX11_leader_90 (by decide) (by omega) (by omega) (fun c_52 => ?_) (fun c_52 => by exfalso; omega)
                refine S_iinc X dX11_leader_100 (nle rfl) hL40_5 ?_
                refine S_goto (tgt := 40) X dX11_leader_103 (by decide) ?_
                exact ih40 (o + 1) be le (uZ Fv q o) Aw Tw Ww Sw pw nw kw _ (by omega) (by omega) (fun x => by first | (rw [uZ_twice]; exact hFv x) | exact hFv x) (ld_keep hok (by omega) (by omega) hld (by omega)) hL40_0 hL40_1 hL40_2 hL40_3 hL40_4 rfl (by omega)
        exact lp40_3 (Int.toNat (pl + 1 - (-1)) + 1) (-1) (-1) 1000000000 F2_18 Ab Tm Wq Sp p0 n0 k0 _ (by omega) (by omega) (fun x => rfl) (Or.inl ⟨rfl, rfl, rfl⟩) rfl rfl rfl rfl rfl rfl (by omega)
      ·
        refine S_ldc (n := -1000000) X (by rw [show i32 (-1000000) = (-1000000 : Int32) from by decide]; exact m697) dX11_leader_17 ?_
        exact S_iret X (nle rfl) (nle rfl) dX11_leader_19 (hPo _ _ (⟨_, _, _, _, _, _, _, _, _, _, _, _, _, _, _, by unfold aLeader; rw [if_neg (by omega)], rfl⟩))
set_option maxHeartbeats 4000000 in
set_option maxRecDepth 100000 in
theorem kX11_echoes (l : Launch) (h0 : Nat) (f : Nat → AV) (oW : Nat) (fW : Nat → AV) (fP : Nat → AV) (fS : Nat → AV) (pl : Int) (n : Int) (ec : Int) (mk : Int) (oP : Nat) (oS : Nat) (aA : Nat) (aT : Nat) (aW : Nat) (aS : Nat) (aB : Nat) (aF : Nat) (aH : Nat) (aL : Nat) (Ab : Int → Int) (Tm : Int → Int) (Wq : Int → Int) (Sp : Int → Int) (B : Int → Int) (Fo : Int → Int) (Ho : Int → Int) (Lt : Int → Int) (p0 : Int) (n0 : Int) (k0 : Int) (v : Int) (oT : Nat) (tB : Nat) (tF : Nat) (tH : Nat) (tL : Nat) (fT : Nat → AV) (TB : Int → Int) (TF : Int → Int) (TH : Int → Int) (TL : Int → Int) (t0 : Int) (t1 : Int) (t2 : Int) (t3 : Int) (hf0 : f 3 = rv oW) (hf1 : f 7 = rv oS) (hf2 : f 9 = rv oP) (hf3 : f 8 = rv oT) (hf4 : fW 0 = iv pl) (hf5 : fP 0 = rv aA) (hf6 : fP 1 = rv aT) (hf7 : fP 2 = rv aW) (hf8 : fP 3 = rv aS) (hf9 : fS 0 = iv pl) (hf10 : fS 1 = iv n) (hf11 : fS 2 = iv ec) (hf12 : fS 3 = iv mk) (hf13 : fS 4 = rv aB) (hf14 : fS 5 = rv aF) (hf15 : fS 6 = rv aH) (hf16 : fS 7 = rv aL) (hf17 : fT 4 = rv tB) (hf18 : fT 5 = rv tF) (hf19 : fT 6 = rv tH) (hf20 : fT 7 = rv tL) (hz : okZ pl n ec Fo Ho B Lt) (hx_v : inR v) : AMi l yX11_echoes cX11_echoes 6 .int 4 0 0 [rv h0, iv v] [(h0, ob 10 f), (oW, ob 7 fW), (oP, ob 4 (uF (uF (uF fP 6 (iv p0)) 7 (iv n0)) 8 (iv k0))), (aA, ar 1206 Ab), (aT, ar 180 Tm), (aW, ar 6 Wq), (aS, ar 30 Sp), (oS, ob 5 fS), (aB, ar 6 B), (aF, ar 6 Fo), (aH, ar 6 Ho), (aL, ar 6 Lt), (oT, ob 5 (uF (uF (uF (uF fT 0 (iv t0)) 1 (iv t1)) 2 (iv t2)) 3 (iv t3))), (tB, ar 6 TB), (tF, ar 6 TF), (tH, ar 6 TH), (tL, ar 6 TL)] (fun z u => ∃ p9 : Int, ∃ n9 : Int, ∃ k9 : Int, ∃ A2 : Int → Int, ∃ T2 : Int → Int, ∃ W2 : Int → Int, ∃ S2 : Int → Int, ∃ t4 : Int, ∃ t5 : Int, ∃ t6 : Int, ∃ t7 : Int, ∃ B3 : Int → Int, ∃ F3 : Int → Int, ∃ H3 : Int → Int, ∃ L3 : Int → Int, z = aEchoes pl n mk Fo Ho B Lt v ∧ u = [(h0, ob 10 f), (oW, ob 7 fW), (oP, ob 4 (uF (uF (uF fP 6 (iv p9)) 7 (iv n9)) 8 (iv k9))), (aA, ar 1206 A2), (aT, ar 180 T2), (aW, ar 6 W2), (aS, ar 30 S2), (oS, ob 5 fS), (aB, ar 6 B), (aF, ar 6 Fo), (aH, ar 6 Ho), (aL, ar 6 Lt), (oT, ob 5 (uF (uF (uF (uF fT 0 (iv t4)) 1 (iv t5)) 2 (iv t6)) 3 (iv t7))), (tB, ar 6 B3), (tF, ar 6 F3), (tH, ar 6 H3), (tL, ar 6 L3)]) := by
  refine AMi.of2 rfl (nle rfl) ?_
  intro D G A p e s m args below meth c Po hPo X
  have hz6 := hz.2.1
  have hz0 := hz.1
  have hzn := hz.2.2.1
  have hzm := hz.2.2.2.1
  have hze := hz.2.2.2.2
  refine S_aload_n X dX11_echoes_0 rfl rfl ?_
  refine S_iload_n X dX11_echoes_1 rfl rfl ?_
  refine S_calli X (kX11_isOneOfTwo l h0 f oW fW pl v hf0 hf4 (by omega) (by omega)) (is := [0, 1]) rfl (run_V X lkX11_252 0 rfl rfl (is := [0, 1]) (avs := [iv v]) (rest := []) rfl rfl (nle rfl) ⟨nle rfl, nle rfl⟩ ⟨nle rfl, nle rfl⟩ dX11_echoes_2 (by decide) rfl) (fun z_3 u_1 hp_2 => ?_)
  rcases hp_2 with ⟨hz_4, hu_5, hp_6⟩ | ⟨hz_7, hu_8, hp_9⟩
  ·
    subst hz_4
    subst hu_5
    refine ⟨rfl, ?_⟩
    refine S_w (ws' := [(h0, ob 10 f), (oW, ob 7 fW), (oP, ob 4 (uF (uF (uF fP 6 (iv p0)) 7 (iv n0)) 8 (iv k0))), (aA, ar 1206 Ab), (aT, ar 180 Tm), (aW, ar 6 Wq), (aS, ar 30 Sp), (oS, ob 5 fS), (aB, ar 6 B), (aF, ar 6 Fo), (aH, ar 6 Ho), (aL, ar 6 Lt), (oT, ob 5 (uF (uF (uF (uF fT 0 (iv t0)) 1 (iv t1)) 2 (iv t2)) 3 (iv t3))), (tB, ar 6 TB), (tF, ar 6 TF), (tH, ar 6 TH), (tL, ar 6 TL)]) rfl ?_
    refine S_if_ne (tgt := 10) X dX11_echoes_5 (by decide) (by decide) (fun h9 => absurd h9 (by decide)) (fun _ => ?_)
    refine S_iconst X dX11_echoes_8 ?_
    exact S_iret X (nle rfl) (nle rfl) dX11_echoes_9 (hPo _ _ (⟨_, _, _, _, _, _, _, _, _, _, _, _, _, _, _, by unfold aEchoes; rw [if_neg (by omega)], rfl⟩))
  ·
    subst hz_7
    subst hu_8
    refine ⟨rfl, ?_⟩
    refine S_w (ws' := [(h0, ob 10 f), (oW, ob 7 fW), (oP, ob 4 (uF (uF (uF fP 6 (iv p0)) 7 (iv n0)) 8 (iv k0))), (aA, ar 1206 Ab), (aT, ar 180 Tm), (aW, ar 6 Wq), (aS, ar 30 Sp), (oS, ob 5 fS), (aB, ar 6 B), (aF, ar 6 Fo), (aH, ar 6 Ho), (aL, ar 6 Lt), (oT, ob 5 (uF (uF (uF (uF fT 0 (iv t0)) 1 (iv t1)) 2 (iv t2)) 3 (iv t3))), (tB, ar 6 TB), (tF, ar 6 TF), (tH, ar 6 TH), (tL, ar 6 TL)]) rfl ?_
    refine S_if_ne (tgt := 10) X dX11_echoes_5 (by decide) (by decide) (fun _ => ?_) (fun h9 => absurd h9 (by decide))
    have hok := hz.s (by omega)
    have hpl := hok.2.1
    have hpl1 := hok.1
    have hn1 := hok.2.2.1
    have hn2 := hok.2.2.2.1
    have hec := hok.2.2.2.2
    refine S_aload_n X dX11_echoes_10 rfl rfl ?_
    refine S_get X fgX11_63_10 0 rfl hf3 dX11_echoes_11 ?_
    refine S_aload_n X dX11_echoes_14 rfl rfl ?_
    refine S_get X fgX11_59_10 0 rfl hf1 dX11_echoes_15 ?_
    refine S_callv X (kX6_copyFrom l fS pl n ec mk oS aB aF aH aL B Fo Ho Lt oT tB tF tH tL fT TB TF TH TL t0 t1 t2 t3 hf9 hf10 hf11 hf12 hf13 hf14 hf15 hf16 hf17 hf18 hf19 hf20) (is := [12, 13, 14, 15, 16, 7, 8, 9, 10, 11]) rfl (run_V X lkX11_289 12 rfl rfl (is := [12, 13, 14, 15, 16, 7, 8, 9, 10, 11]) (avs := [rv oS]) (rest := []) rfl rfl (nle rfl) ⟨nle rfl, nle rfl⟩ ⟨nle rfl, nle rfl⟩ dX11_echoes_18 (by decide) rfl) (fun u_12 hp_13 => ?_)
    obtain ⟨B2_15, F2_16, H2_17, L2_18, hu_20, hB2_21, hF2_22, hH2_23, hL2_24⟩ := hp_13
    subst hu_20
    refine ⟨rfl, ?_⟩
    refine S_w (ws' := [(h0, ob 10 f), (oW, ob 7 fW), (oP, ob 4 (uF (uF (uF fP 6 (iv p0)) 7 (iv n0)) 8 (iv k0))), (aA, ar 1206 Ab), (aT, ar 180 Tm), (aW, ar 6 Wq), (aS, ar 30 Sp), (oS, ob 5 fS), (aB, ar 6 B), (aF, ar 6 Fo), (aH, ar 6 Ho), (aL, ar 6 Lt), (oT, ob 5 (uF (uF (uF (uF fT 0 (iv pl)) 1 (iv n)) 2 (iv ec)) 3 (iv mk))), (tB, ar 6 B2_15), (tF, ar 6 F2_16), (tH, ar 6 H2_17), (tL, ar 6 L2_18)]) rfl ?_
    have hB9 := hB2_21
    have hF9 := hF2_22
    have hH9 := hH2_23
    have hL9 := hL2_24
    have hte := te_0 (pl := pl) (by omega) hB9 hF9 hH9 hL9
    refine S_ldc (n := 1000000000) X m813 dX11_echoes_21 ?_
    refine S_istore_n X dX11_echoes_23 rfl (nle rfl) ?_
    refine S_iconst X dX11_echoes_24 ?_
    refine S_istore_n X dX11_echoes_25 rfl (nle rfl) ?_
    refine S_iconst X dX11_echoes_26 ?_
    refine S_istore X dX11_echoes_27 (nle rfl) ?_
    have lp29_1 : ∀ (N : Nat) (o : Int) (be : Int) (le : Int) (e7 : Int) (Aw : Int → Int) (Tw : Int → Int) (Ww : Int → Int) (Sw : Int → Int) (pw : Int) (nw : Int) (kw : Int) (L : Nat → Option AV), 0 ≤ o ∧ o ≤ 4 → 0 ≤ le ∧ le ≤ 1000000000 → (o = 0 ∧ le = 1000000000 ∧ be = 0) ∨ (1 ≤ o ∧ ehI pl n mk Fo Ho B Lt (o - 1) = (be, le)) → L 0 = some (rv h0) → L 1 = some (iv v) → L 2 = some (iv le) → L 3 = some (iv be) → L 4 = some (iv o) → 5 - o < (N : Int) → S_ p l e (rmD 4 0 0) s m args below meth c (MQ below (QcI D G A Po) args s 0 0 A) D G A 6 0 0 29 L [] [(h0, ob 10 f), (oW, ob 7 fW), (oP, ob 4 (uF (uF (uF fP 6 (iv pw)) 7 (iv nw)) 8 (iv kw))), (aA, ar 1206 Aw), (aT, ar 180 Tw), (aW, ar 6 Ww), (aS, ar 30 Sw), (oS, ob 5 fS), (aB, ar 6 B), (aF, ar 6 Fo), (aH, ar 6 Ho), (aL, ar 6 Lt), (oT, ob 5 (uF (uF (uF (uF fT 0 (iv pl)) 1 (iv n)) 2 (iv e7)) 3 (iv mk))), (tB, ar 6 B2_15), (tF, ar 6 F2_16), (tH, ar 6 H2_17), (tL, ar 6 L2_18)] := by
      intro N
      induction N with
      | zero =>
        intro o be le e7 Aw Tw Ww Sw pw nw kw L29 ho hle heh hL29_0 hL29_1 hL29_2 hL29_3 hL29_4 hN29
        exfalso; omega
      | succ N ih29 =>
        intro o be le e7 Aw Tw Ww Sw pw nw kw L29 ho hle heh hL29_0 hL29_1 hL29_2 hL29_3 hL29_4 hN29
        refine S_iload X dX11_echoes_29 hL29_4 ?_
        refine S_iconst X dX11_echoes_31 ?_
        refine S_icmp_gt (tgt := 76) X dX11_echoes_32 (by decide) (by omega) (by decide) (fun c_25 => ?_) (fun c_25 => ?_)
        ·
          refine S_iload_n X dX11_echoes_76 rfl hL29_1 ?_
          refine S_if_ne (tgt := 84) X dX11_echoes_77 (by decide) (by omega) (fun c_26 => ?_) (fun c_26 => ?_)
          ·
            refine S_iload_n X dX11_echoes_84 rfl hL29_2 ?_
            exact S_iret X (nle rfl) (nle rfl) dX11_echoes_85 (hPo _ _ (⟨_, _, _, _, _, _, _, _, _, _, _, _, _, _, _, by unfold aEchoes; rw [if_pos (by omega), if_neg (by omega)]; rcases heh with h9 | h9; (exfalso; omega); have h8 := h9.2; rw [show o - 1 = 3 by omega] at h8; exact (congrArg Prod.snd h8).symm, rfl⟩))
          ·
            refine S_iload_n X dX11_echoes_80 rfl hL29_3 ?_
            refine S_goto (tgt := 85) X dX11_echoes_81 (by decide) ?_
            exact S_iret X (nle rfl) (nle rfl) dX11_echoes_85 (hPo _ _ (⟨_, _, _, _, _, _, _, _, _, _, _, _, _, _, _, by unfold aEchoes; rw [if_pos (by omega), if_pos (by omega)]; rcases heh with h9 | h9; (exfalso; omega); have h8 := h9.2; rw [show o - 1 = 3 by omega] at h8; exact (congrArg Prod.fst h8).symm, rfl⟩))
        ·
          refine S_aload_n X dX11_echoes_35 rfl hL29_0 ?_
          refine S_get X fgX11_63_10 0 rfl hf3 dX11_echoes_36 ?_
          refine S_iload X dX11_echoes_39 hL29_4 ?_
          refine S_put X fpX11_185_5 12 rfl FT_i dX11_echoes_41 ?_
          refine S_w (ws' := [(h0, ob 10 f), (oW, ob 7 fW), (oP, ob 4 (uF (uF (uF fP 6 (iv pw)) 7 (iv nw)) 8 (iv kw))), (aA, ar 1206 Aw), (aT, ar 180 Tw), (aW, ar 6 Ww), (aS, ar 30 Sw), (oS, ob 5 fS), (aB, ar 6 B), (aF, ar 6 Fo), (aH, ar 6 Ho), (aL, ar 6 Lt), (oT, ob 5 (uF (uF (uF (uF fT 0 (iv pl)) 1 (iv n)) 2 (iv o)) 3 (iv mk))), (tB, ar 6 B2_15), (tF, ar 6 F2_16), (tH, ar 6 H2_17), (tL, ar 6 L2_18)]) (by simp only [List.set]; rw [uF_mv (j := 3) (k := 2) (by decide), uF_same (k := 2)]) ?_
          refine S_aload_n X dX11_echoes_44 rfl hL29_0 ?_
          refine S_get X fgX11_69_10 0 rfl hf2 dX11_echoes_45 ?_
          refine S_aload_n X dX11_echoes_48 rfl hL29_0 ?_
          refine S_get X fgX11_63_10 0 rfl hf3 dX11_echoes_49 ?_
          refine S_iload_n X dX11_echoes_52 rfl hL29_2 ?_
          refine S_calli X (kX4_perform l fP (uF (uF (uF (uF fT 0 (iv pl)) 1 (iv n)) 2 (iv o)) 3 (iv mk)) pl n o mk oP oT aA aT aW aS tB tF tH tL Aw Tw Ww Sw B2_15 F2_16 H2_17 L2_18 pw nw kw le hf5 hf6 hf7 hf8 rfl rfl rfl rfl hf17 hf18 hf19 hf20 ((hok.ec (e2 := o) (by omega)).c hte) (by omega)) (is := [2, 3, 4, 5, 6, 12, 13, 14, 15, 16]) rfl (run_V X lkX11_235 2 rfl rfl (is := [2, 3, 4, 5, 6, 12, 13, 14, 15, 16]) (avs := [rv oT, iv le]) (rest := []) rfl rfl (nle rfl) ⟨nle rfl, nle rfl⟩ ⟨nle rfl, nle rfl⟩ dX11_echoes_53 (by decide) rfl) (fun z_29 u_27 hp_28 => ?_)
          rcases hp_28 with ⟨A2_30, T2_31, W2_32, S2_33, hz_34, hu_35, hq_36⟩ | ⟨A2_37, T2_38, W2_39, S2_40, hz_41, hu_42, hq_43, hA2_44, hT2_45, hS2_46⟩
          ·
            replace hz_34 := Eq.symm hz_34
            subst hz_34
            subst hu_35
            refine ⟨rfl, ?_⟩
            refine S_w (ws' := [(h0, ob 10 f), (oW, ob 7 fW), (oP, ob 4 (uF (uF (uF fP 6 (iv pl)) 7 (iv n)) 8 (iv mk))), (aA, ar 1206 A2_30), (aT, ar 180 T2_31), (aW, ar 6 W2_32), (aS, ar 30 S2_33), (oS, ob 5 fS), (aB, ar 6 B), (aF, ar 6 Fo), (aH, ar 6 Ho), (aL, ar 6 Lt), (oT, ob 5 (uF (uF (uF (uF fT 0 (iv pl)) 1 (iv n)) 2 (iv o)) 3 (iv mk))), (tB, ar 6 B2_15), (tF, ar 6 F2_16), (tH, ar 6 H2_17), (tL, ar 6 L2_18)]) rfl ?_
            have hcu : le ≤ WO pl n o mk Fo Ho B Lt := by have h9 := hq_36; rwa [← WO_c (hok.ec (e2 := o) (by omega)) hte] at h9
            have hwr := (hok.ec (e2 := o) (by omega)).worst (mk := mk)
            refine S_istore X dX11_echoes_56 (nle rfl) ?_
            refine S_iload X dX11_echoes_58 rfl ?_
            refine S_iload_n X dX11_echoes_60 rfl hL29_2 ?_
            refine S_icmp_ge (tgt := 70) X dX11_echoes_61 (by decide) (by omega) (by omega) (fun c_47 => ?_) (fun c_47 => by exfalso; omega)
            refine S_iinc X dX11_echoes_70 (nle rfl) hL29_4 ?_
            refine S_goto (tgt := 29) X dX11_echoes_73 (by decide) ?_
            exact ih29 (o + 1) be le o A2_30 T2_31 W2_32 S2_33 pl n mk _ (by omega) (by omega) (ec_keep (hok.ec (by omega)) heh (by omega)) hL29_0 hL29_1 hL29_2 hL29_3 rfl (by omega)
          ·
            subst hz_41
            subst hu_42
            refine ⟨rfl, ?_⟩
            refine S_w (ws' := [(h0, ob 10 f), (oW, ob 7 fW), (oP, ob 4 (uF (uF (uF fP 6 (iv pl)) 7 (iv n)) 8 (iv mk))), (aA, ar 1206 A2_37), (aT, ar 180 T2_38), (aW, ar 6 W2_39), (aS, ar 30 S2_40), (oS, ob 5 fS), (aB, ar 6 B), (aF, ar 6 Fo), (aH, ar 6 Ho), (aL, ar 6 Lt), (oT, ob 5 (uF (uF (uF (uF fT 0 (iv pl)) 1 (iv n)) 2 (iv o)) 3 (iv mk))), (tB, ar 6 B2_15), (tF, ar 6 F2_16), (tH, ar 6 H2_17), (tL, ar 6 L2_18)]) rfl ?_
            have hv1 : WO pl n o mk F2_16 H2_17 B2_15 L2_18 = WO pl n o mk Fo Ho B Lt := (WO_c (hok.ec (e2 := o) (by omega)) hte).symm
            rw [hv1]
            have hwr := (hok.ec (e2 := o) (by omega)).worst (mk := mk)
            refine S_istore X dX11_echoes_56 (nle rfl) ?_
            refine S_iload X dX11_echoes_58 rfl ?_
            refine S_iload_n X dX11_echoes_60 rfl hL29_2 ?_
            refine S_icmp_ge (tgt := 70) X dX11_echoes_61 (by decide) (by omega) (by omega) (fun c_48 => ?_) (fun c_48 => ?_)
            ·
              refine S_iinc X dX11_echoes_70 (nle rfl) hL29_4 ?_
              refine S_goto (tgt := 29) X dX11_echoes_73 (by decide) ?_
              exact ih29 (o + 1) be le o A2_37 T2_38 W2_39 S2_40 pl n mk _ (by omega) (by omega) (ec_keep (hok.ec (by omega)) heh (by omega)) hL29_0 hL29_1 hL29_2 hL29_3 rfl (by omega)
            ·
              refine S_iload X dX11_echoes_64 rfl ?_
              refine S_istore_n X dX11_echoes_66 rfl (nle rfl) ?_
              refine S_iload X dX11_echoes_67 hL29_4 ?_
              refine S_istore_n X dX11_echoes_69 rfl (nle rfl) ?_
              refine S_iinc X dX11_echoes_70 (nle rfl) hL29_4 ?_
              refine S_goto (tgt := 29) X dX11_echoes_73 (by decide) ?_
              exact ih29 (o + 1) o (WO pl n o mk Fo Ho B Lt) o A2_37 T2_38 W2_39 S2_40 pl n mk _ (by omega) (by omega) (ec_take (by omega) heh (by omega)) hL29_0 hL29_1 rfl rfl rfl (by omega)
    exact lp29_1 (Int.toNat (5 - 0) + 1) 0 0 1000000000 ec Ab Tm Wq Sp p0 n0 k0 _ (by omega) (by omega) (Or.inl ⟨rfl, rfl, rfl⟩) rfl rfl rfl rfl rfl (by omega)
set_option maxHeartbeats 4000000 in
set_option maxRecDepth 100000 in
theorem kX11_paid (l : Launch) (h0 : Nat) (f : Nat → AV) (oW : Nat) (fW : Nat → AV) (fP : Nat → AV) (fS : Nat → AV) (pl : Int) (n : Int) (ec : Int) (mk : Int) (oP : Nat) (oS : Nat) (aA : Nat) (aT : Nat) (aW : Nat) (aS : Nat) (aB : Nat) (aF : Nat) (aH : Nat) (aL : Nat) (Ab : Int → Int) (Tm : Int → Int) (Wq : Int → Int) (Sp : Int → Int) (B : Int → Int) (Fo : Int → Int) (Ho : Int → Int) (Lt : Int → Int) (p0 : Int) (n0 : Int) (k0 : Int) (q : Int) (oT : Nat) (tB : Nat) (tF : Nat) (tH : Nat) (tL : Nat) (fT : Nat → AV) (TB : Int → Int) (TF : Int → Int) (TH : Int → Int) (TL : Int → Int) (t0 : Int) (t1 : Int) (t2 : Int) (t3 : Int) (hf0 : f 3 = rv oW) (hf1 : f 7 = rv oS) (hf2 : f 9 = rv oP) (hf3 : f 8 = rv oT) (hf4 : fW 0 = iv pl) (hf5 : fP 0 = rv aA) (hf6 : fP 1 = rv aT) (hf7 : fP 2 = rv aW) (hf8 : fP 3 = rv aS) (hf9 : fS 0 = iv pl) (hf10 : fS 1 = iv n) (hf11 : fS 2 = iv ec) (hf12 : fS 3 = iv mk) (hf13 : fS 4 = rv aB) (hf14 : fS 5 = rv aF) (hf15 : fS 6 = rv aH) (hf16 : fS 7 = rv aL) (hf17 : fT 4 = rv tB) (hf18 : fT 5 = rv tF) (hf19 : fT 6 = rv tH) (hf20 : fT 7 = rv tL) (hz : okZ pl n ec Fo Ho B Lt) (hx_q : inR q) : AMi l yX11_paid cX11_paid 4 .int 4 0 0 [rv h0, iv q] [(h0, ob 10 f), (oW, ob 7 fW), (oP, ob 4 (uF (uF (uF fP 6 (iv p0)) 7 (iv n0)) 8 (iv k0))), (aA, ar 1206 Ab), (aT, ar 180 Tm), (aW, ar 6 Wq), (aS, ar 30 Sp), (oS, ob 5 fS), (aB, ar 6 B), (aF, ar 6 Fo), (aH, ar 6 Ho), (aL, ar 6 Lt), (oT, ob 5 (uF (uF (uF (uF fT 0 (iv t0)) 1 (iv t1)) 2 (iv t2)) 3 (iv t3))), (tB, ar 6 TB), (tF, ar 6 TF), (tH, ar 6 TH), (tL, ar 6 TL)] (fun z u => ∃ z9 : Int, ∃ p9 : Int, ∃ n9 : Int, ∃ k9 : Int, ∃ A2 : Int → Int, ∃ T2 : Int → Int, ∃ W2 : Int → Int, ∃ S2 : Int → Int, ∃ t4 : Int, ∃ t5 : Int, ∃ t6 : Int, ∃ t7 : Int, ∃ B3 : Int → Int, ∃ F3 : Int → Int, ∃ H3 : Int → Int, ∃ L3 : Int → Int, z = z9 ∧ u = [(h0, ob 10 f), (oW, ob 7 fW), (oP, ob 4 (uF (uF (uF fP 6 (iv p9)) 7 (iv n9)) 8 (iv k9))), (aA, ar 1206 A2), (aT, ar 180 T2), (aW, ar 6 W2), (aS, ar 30 S2), (oS, ob 5 fS), (aB, ar 6 B), (aF, ar 6 Fo), (aH, ar 6 Ho), (aL, ar 6 Lt), (oT, ob 5 (uF (uF (uF (uF fT 0 (iv t4)) 1 (iv t5)) 2 (iv t6)) 3 (iv t7))), (tB, ar 6 B3), (tF, ar 6 F3), (tH, ar 6 H3), (tL, ar 6 L3)] ∧ rPaid pl n ec mk Fo Ho B Lt q z9) := by
  refine AMi.of2 rfl (nle rfl) ?_
  intro D G A p e s m args below meth c Po hPo X
  have hz6 := hz.2.1
  have hz0 := hz.1
  have hzn := hz.2.2.1
  have hzm := hz.2.2.2.1
  have hze := hz.2.2.2.2
  refine S_aload_n X dX11_paid_0 rfl rfl ?_
  refine S_iload_n X dX11_paid_1 rfl rfl ?_
  refine S_calli X (kX11_isPlayer l h0 f oW fW pl q hf0 hf4 (by omega) (by omega)) (is := [0, 1]) rfl (run_V X lkX11_147 0 rfl rfl (is := [0, 1]) (avs := [iv q]) (rest := []) rfl rfl (nle rfl) ⟨nle rfl, nle rfl⟩ ⟨nle rfl, nle rfl⟩ dX11_paid_2 (by decide) rfl) (fun z_3 u_1 hp_2 => ?_)
  rcases hp_2 with ⟨hz_4, hu_5, hp_6⟩ | ⟨hz_7, hu_8, hp_9⟩
  ·
    subst hz_4
    subst hu_5
    refine ⟨rfl, ?_⟩
    refine S_w (ws' := [(h0, ob 10 f), (oW, ob 7 fW), (oP, ob 4 (uF (uF (uF fP 6 (iv p0)) 7 (iv n0)) 8 (iv k0))), (aA, ar 1206 Ab), (aT, ar 180 Tm), (aW, ar 6 Wq), (aS, ar 30 Sp), (oS, ob 5 fS), (aB, ar 6 B), (aF, ar 6 Fo), (aH, ar 6 Ho), (aL, ar 6 Lt), (oT, ob 5 (uF (uF (uF (uF fT 0 (iv t0)) 1 (iv t1)) 2 (iv t2)) 3 (iv t3))), (tB, ar 6 TB), (tF, ar 6 TF), (tH, ar 6 TH), (tL, ar 6 TL)]) rfl ?_
    refine S_if_ne (tgt := 10) X dX11_paid_5 (by decide) (by decide) (fun h9 => absurd h9 (by decide)) (fun _ => ?_)
    refine S_iconst X dX11_paid_8 ?_
    exact S_iret X (nle rfl) (nle rfl) dX11_paid_9 (hPo _ _ (⟨_, _, _, _, _, _, _, _, _, _, _, _, _, _, _, _, rfl, rfl, Or.inl ⟨by omega, rfl⟩⟩))
  ·
    subst hz_7
    subst hu_8
    refine ⟨rfl, ?_⟩
    refine S_w (ws' := [(h0, ob 10 f), (oW, ob 7 fW), (oP, ob 4 (uF (uF (uF fP 6 (iv p0)) 7 (iv n0)) 8 (iv k0))), (aA, ar 1206 Ab), (aT, ar 180 Tm), (aW, ar 6 Wq), (aS, ar 30 Sp), (oS, ob 5 fS), (aB, ar 6 B), (aF, ar 6 Fo), (aH, ar 6 Ho), (aL, ar 6 Lt), (oT, ob 5 (uF (uF (uF (uF fT 0 (iv t0)) 1 (iv t1)) 2 (iv t2)) 3 (iv t3))), (tB, ar 6 TB), (tF, ar 6 TF), (tH, ar 6 TH), (tL, ar 6 TL)]) rfl ?_
    refine S_if_ne (tgt := 10) X dX11_paid_5 (by decide) (by decide) (fun _ => ?_) (fun h9 => absurd h9 (by decide))
    have hok := hz.s (by omega)
    have hpl := hok.2.1
    have hpl1 := hok.1
    have hn1 := hok.2.2.1
    have hn2 := hok.2.2.2.1
    have hec := hok.2.2.2.2
    refine S_aload_n X dX11_paid_10 rfl rfl ?_
    refine S_get X fgX11_63_10 0 rfl hf3 dX11_paid_11 ?_
    refine S_aload_n X dX11_paid_14 rfl rfl ?_
    refine S_get X fgX11_59_10 0 rfl hf1 dX11_paid_15 ?_
    refine S_callv X (kX6_copyFrom l fS pl n ec mk oS aB aF aH aL B Fo Ho Lt oT tB tF tH tL fT TB TF TH TL t0 t1 t2 t3 hf9 hf10 hf11 hf12 hf13 hf14 hf15 hf16 hf17 hf18 hf19 hf20) (is := [12, 13, 14, 15, 16, 7, 8, 9, 10, 11]) rfl (run_V X lkX11_289 12 rfl rfl (is := [12, 13, 14, 15, 16, 7, 8, 9, 10, 11]) (avs := [rv oS]) (rest := []) rfl rfl (nle rfl) ⟨nle rfl, nle rfl⟩ ⟨nle rfl, nle rfl⟩ dX11_paid_18 (by decide) rfl) (fun u_12 hp_13 => ?_)
    obtain ⟨B2_15, F2_16, H2_17, L2_18, hu_20, hB2_21, hF2_22, hH2_23, hL2_24⟩ := hp_13
    subst hu_20
    refine ⟨rfl, ?_⟩
    refine S_w (ws' := [(h0, ob 10 f), (oW, ob 7 fW), (oP, ob 4 (uF (uF (uF fP 6 (iv p0)) 7 (iv n0)) 8 (iv k0))), (aA, ar 1206 Ab), (aT, ar 180 Tm), (aW, ar 6 Wq), (aS, ar 30 Sp), (oS, ob 5 fS), (aB, ar 6 B), (aF, ar 6 Fo), (aH, ar 6 Ho), (aL, ar 6 Lt), (oT, ob 5 (uF (uF (uF (uF fT 0 (iv pl)) 1 (iv n)) 2 (iv ec)) 3 (iv mk))), (tB, ar 6 B2_15), (tF, ar 6 F2_16), (tH, ar 6 H2_17), (tL, ar 6 L2_18)]) rfl ?_
    have hB9 := hB2_21
    have hF9 := hF2_22
    have hH9 := hH2_23
    have hL9 := hL2_24
    have hte := te_0 (pl := pl) (by omega) hB9 hF9 hH9 hL9
    refine S_aload_n X dX11_paid_21 rfl rfl ?_
    refine S_get X fgX11_63_10 0 rfl hf3 dX11_paid_22 ?_
    refine S_get (v := iv n) X fgX11_182_5 12 rfl rfl dX11_paid_25 ?_
    refine S_iconst X dX11_paid_28 ?_
    refine S_isub X dX11_paid_29 ?_
    refine S_istore_n X dX11_paid_30 rfl (nle rfl) ?_
    refine S_iconst X dX11_paid_31 ?_
    refine S_istore_n X dX11_paid_32 rfl (nle rfl) ?_
    have lp33_1 : ∀ (N : Nat) (la : Int) (Lv : Int → Int) (Aw : Int → Int) (Tw : Int → Int) (Ww : Int → Int) (Sw : Int → Int) (pw : Int) (nw : Int) (kw : Int) (L : Nat → Option AV), 0 ≤ la ∧ la ≤ 51 → (∀ x, uZ Lv q x = uZ L2_18 q x) → (∀ x, 0 ≤ x → x < la → ¬ alL pl n ec mk Fo Ho B Lt q x) → L 0 = some (rv h0) → L 1 = some (iv q) → L 2 = some (iv (n - 1)) → L 3 = some (iv la) → 52 - la < (N : Int) → S_ p l e (rmD 4 0 0) s m args below meth c (MQ below (QcI D G A Po) args s 0 0 A) D G A 4 0 0 33 L [] [(h0, ob 10 f), (oW, ob 7 fW), (oP, ob 4 (uF (uF (uF fP 6 (iv pw)) 7 (iv nw)) 8 (iv kw))), (aA, ar 1206 Aw), (aT, ar 180 Tw), (aW, ar 6 Ww), (aS, ar 30 Sw), (oS, ob 5 fS), (aB, ar 6 B), (aF, ar 6 Fo), (aH, ar 6 Ho), (aL, ar 6 Lt), (oT, ob 5 (uF (uF (uF (uF fT 0 (iv pl)) 1 (iv n)) 2 (iv ec)) 3 (iv mk))), (tB, ar 6 B2_15), (tF, ar 6 F2_16), (tH, ar 6 H2_17), (tL, ar 6 Lv)] := by
      intro N
      induction N with
      | zero =>
        intro la Lv Aw Tw Ww Sw pw nw kw L33 hla hLv hno hL33_0 hL33_1 hL33_2 hL33_3 hN33
        exfalso; omega
      | succ N ih33 =>
        intro la Lv Aw Tw Ww Sw pw nw kw L33 hla hLv hno hL33_0 hL33_1 hL33_2 hL33_3 hN33
        refine S_iload_n X dX11_paid_33 rfl hL33_3 ?_
        refine S_bipush X dX11_paid_34 rfl ?_
        refine S_icmp_gt (tgt := 83) X dX11_paid_36 (by decide) (by omega) (by decide) (fun c_25 => ?_) (fun c_25 => ?_)
        ·
          refine S_iconst X dX11_paid_83 ?_
          exact S_iret X (nle rfl) (nle rfl) dX11_paid_84 (hPo _ _ (⟨_, _, _, _, _, _, _, _, _, _, _, _, _, _, _, _, rfl, rfl, Or.inr ⟨by omega, Or.inl ⟨rfl, fun x h0 h1 => hno x h0 (by omega)⟩⟩⟩))
        ·
          refine S_aload_n X dX11_paid_39 rfl hL33_0 ?_
          refine S_get X fgX11_63_10 0 rfl hf3 dX11_paid_40 ?_
          refine S_get X fgX11_174_5 12 rfl hf20 dX11_paid_43 ?_
          refine S_iload_n X dX11_paid_46 rfl hL33_1 ?_
          refine S_iload_n X dX11_paid_47 rfl hL33_3 ?_
          refine S_iast X 16 rfl (by omega) (by omega) (nle rfl) dX11_paid_48 ?_
          refine S_w (ws' := [(h0, ob 10 f), (oW, ob 7 fW), (oP, ob 4 (uF (uF (uF fP 6 (iv pw)) 7 (iv nw)) 8 (iv kw))), (aA, ar 1206 Aw), (aT, ar 180 Tw), (aW, ar 6 Ww), (aS, ar 30 Sw), (oS, ob 5 fS), (aB, ar 6 B), (aF, ar 6 Fo), (aH, ar 6 Ho), (aL, ar 6 Lt), (oT, ob 5 (uF (uF (uF (uF fT 0 (iv pl)) 1 (iv n)) 2 (iv ec)) 3 (iv mk))), (tB, ar 6 B2_15), (tF, ar 6 F2_16), (tH, ar 6 H2_17), (tL, ar 6 (uZ Lv q la))]) rfl ?_
          refine S_aload_n X dX11_paid_49 rfl hL33_0 ?_
          refine S_get X fgX11_69_10 0 rfl hf2 dX11_paid_50 ?_
          refine S_aload_n X dX11_paid_53 rfl hL33_0 ?_
          refine S_get X fgX11_63_10 0 rfl hf3 dX11_paid_54 ?_
          refine S_ldc (n := 1000000000) X m813 dX11_paid_57 ?_
          refine S_calli X (kX4_performE l fP (uF (uF (uF (uF fT 0 (iv pl)) 1 (iv n)) 2 (iv ec)) 3 (iv mk)) pl n ec mk oP oT aA aT aW aS tB tF tH tL Aw Tw Ww Sw B2_15 F2_16 H2_17 (uZ Lv q la) pw nw kw hf5 hf6 hf7 hf8 rfl rfl rfl rfl hf17 hf18 hf19 hf20 (by rw [hLv]; exact (hok.la (p := q) (v := la) (by omega)).c (te_L hte))) (is := [2, 3, 4, 5, 6, 12, 13, 14, 15, 16]) rfl (run_V X lkX11_235 2 rfl rfl (is := [2, 3, 4, 5, 6, 12, 13, 14, 15, 16]) (avs := [rv oT, iv 1000000000]) (rest := []) rfl rfl (nle rfl) ⟨nle rfl, nle rfl⟩ ⟨nle rfl, nle rfl⟩ dX11_paid_59 (by decide) rfl) (fun z_28 u_26 hp_27 => ?_)
          obtain ⟨A2_29, T2_30, W2_31, S2_32, hz_33, hu_34, hq_35, hA2_36, hT2_37, hS2_38⟩ := hp_27
          subst hz_33
          subst hu_34
          refine ⟨rfl, ?_⟩
          refine S_w (ws' := [(h0, ob 10 f), (oW, ob 7 fW), (oP, ob 4 (uF (uF (uF fP 6 (iv pl)) 7 (iv n)) 8 (iv mk))), (aA, ar 1206 A2_29), (aT, ar 180 T2_30), (aW, ar 6 W2_31), (aS, ar 30 S2_32), (oS, ob 5 fS), (aB, ar 6 B), (aF, ar 6 Fo), (aH, ar 6 Ho), (aL, ar 6 Lt), (oT, ob 5 (uF (uF (uF (uF fT 0 (iv pl)) 1 (iv n)) 2 (iv ec)) 3 (iv mk))), (tB, ar 6 B2_15), (tF, ar 6 F2_16), (tH, ar 6 H2_17), (tL, ar 6 (uZ Lv q la))]) rfl ?_
          have hTL := hT2_37
          refine S_pop X dX11_paid_62 ?_
          refine S_aload_n X dX11_paid_63 rfl hL33_0 ?_
          refine S_get X fgX11_69_10 0 rfl hf2 dX11_paid_64 ?_
          refine S_iload_n X dX11_paid_67 rfl hL33_1 ?_
          refine S_iload_n X dX11_paid_68 rfl hL33_2 ?_
          refine S_calli X (kX4_isAloneLast l (uF (uF (uF fP 6 (iv pl)) 7 (iv n)) 8 (iv mk)) pl n ec mk oP aT T2_30 B2_15 F2_16 H2_17 (uZ Lv q la) q (n - 1) hf6 rfl (by rw [hLv]; exact (hok.la (p := q) (v := la) (by omega)).c (te_L hte)) hTL (by omega) (by omega)) (is := [2, 4]) rfl (run_V X lkX11_296 2 rfl rfl (is := [2, 4]) (avs := [iv q, iv (n - 1)]) (rest := []) rfl rfl (nle rfl) ⟨nle rfl, nle rfl⟩ ⟨nle rfl, nle rfl⟩ dX11_paid_69 (by decide) rfl) (fun z_41 u_39 hp_40 => ?_)
          rcases hp_40 with ⟨hz_42, hu_43, hal_44⟩ | ⟨hz_45, hu_46, hal_47⟩
          ·
            subst hz_42
            subst hu_43
            refine ⟨rfl, ?_⟩
            refine S_w (ws' := [(h0, ob 10 f), (oW, ob 7 fW), (oP, ob 4 (uF (uF (uF fP 6 (iv pl)) 7 (iv n)) 8 (iv mk))), (aA, ar 1206 A2_29), (aT, ar 180 T2_30), (aW, ar 6 W2_31), (aS, ar 30 S2_32), (oS, ob 5 fS), (aB, ar 6 B), (aF, ar 6 Fo), (aH, ar 6 Ho), (aL, ar 6 Lt), (oT, ob 5 (uF (uF (uF (uF fT 0 (iv pl)) 1 (iv n)) 2 (iv ec)) 3 (iv mk))), (tB, ar 6 B2_15), (tF, ar 6 F2_16), (tH, ar 6 H2_17), (tL, ar 6 (uZ Lv q la))]) rfl ?_
            have hal9 := hal_44
            rw [hLv] at hal9
            rw [alL_c (hok.la (p := q) (v := la) (by omega)) (te_L hte) (by omega)] at hal9
            refine S_if_eq (tgt := 77) X dX11_paid_72 (by decide) (by decide) (fun _ => ?_) (fun h9 => absurd h9 (by decide))
            refine S_iinc X dX11_paid_77 (nle rfl) hL33_3 ?_
            refine S_goto (tgt := 33) X dX11_paid_80 (by decide) ?_
            exact ih33 (la + 1) (uZ Lv q la) A2_29 T2_30 W2_31 S2_32 pl n mk _ (by omega) (fun x => by first | (rw [uZ_twice]; exact hLv x) | exact hLv x) (fun x h0 h1 => (by omega : x < la ∨ x = la).elim (fun q9 => hno x h0 q9) (fun q9 => by rw [q9]; exact hal9)) hL33_0 hL33_1 hL33_2 rfl (by omega)
          ·
            subst hz_45
            subst hu_46
            refine ⟨rfl, ?_⟩
            refine S_w (ws' := [(h0, ob 10 f), (oW, ob 7 fW), (oP, ob 4 (uF (uF (uF fP 6 (iv pl)) 7 (iv n)) 8 (iv mk))), (aA, ar 1206 A2_29), (aT, ar 180 T2_30), (aW, ar 6 W2_31), (aS, ar 30 S2_32), (oS, ob 5 fS), (aB, ar 6 B), (aF, ar 6 Fo), (aH, ar 6 Ho), (aL, ar 6 Lt), (oT, ob 5 (uF (uF (uF (uF fT 0 (iv pl)) 1 (iv n)) 2 (iv ec)) 3 (iv mk))), (tB, ar 6 B2_15), (tF, ar 6 F2_16), (tH, ar 6 H2_17), (tL, ar 6 (uZ Lv q la))]) rfl ?_
            have hal9 := hal_47
            rw [hLv] at hal9
            rw [alL_c (hok.la (p := q) (v := la) (by omega)) (te_L hte) (by omega)] at hal9
            refine S_if_eq (tgt := 77) X dX11_paid_72 (by decide) (by decide) (fun h9 => absurd h9 (by decide)) (fun _ => ?_)
            refine S_iload_n X dX11_paid_75 rfl hL33_3 ?_
            exact S_iret X (nle rfl) (nle rfl) dX11_paid_76 (hPo _ _ (⟨_, _, _, _, _, _, _, _, _, _, _, _, _, _, _, _, rfl, rfl, Or.inr ⟨by omega, Or.inr ⟨by omega, by omega, hal9, hno⟩⟩⟩))
    exact lp33_1 (Int.toNat (52 - 0) + 1) 0 L2_18 Ab Tm Wq Sp p0 n0 k0 _ (by omega) (fun x => rfl) (fun x h0 h1 => by omega) rfl rfl rfl rfl (by omega)
set_option maxHeartbeats 4000000 in
set_option maxRecDepth 100000 in
theorem kX11_tune (l : Launch) (h0 : Nat) (f : Nat → AV) (oW : Nat) (fW : Nat → AV) (fP : Nat → AV) (fS : Nat → AV) (pl : Int) (n : Int) (ec : Int) (mk : Int) (oP : Nat) (oS : Nat) (aA : Nat) (aT : Nat) (aW : Nat) (aS : Nat) (aB : Nat) (aF : Nat) (aH : Nat) (aL : Nat) (Ab : Int → Int) (Tm : Int → Int) (Wq : Int → Int) (Sp : Int → Int) (B : Int → Int) (Fo : Int → Int) (Ho : Int → Int) (Lt : Int → Int) (p0 : Int) (n0 : Int) (k0 : Int) (q : Int) (v : Int) (oT : Nat) (tB : Nat) (tF : Nat) (tH : Nat) (tL : Nat) (fT : Nat → AV) (TB : Int → Int) (TF : Int → Int) (TH : Int → Int) (TL : Int → Int) (t0 : Int) (t1 : Int) (t2 : Int) (t3 : Int) (lim : Int) (hf0 : f 3 = rv oW) (hf1 : f 7 = rv oS) (hf2 : f 9 = rv oP) (hf3 : f 8 = rv oT) (hf4 : fW 0 = iv pl) (hf5 : fP 0 = rv aA) (hf6 : fP 1 = rv aT) (hf7 : fP 2 = rv aW) (hf8 : fP 3 = rv aS) (hf9 : fS 0 = iv pl) (hf10 : fS 1 = iv n) (hf11 : fS 2 = iv ec) (hf12 : fS 3 = iv mk) (hf13 : fS 4 = rv aB) (hf14 : fS 5 = rv aF) (hf15 : fS 6 = rv aH) (hf16 : fS 7 = rv aL) (hf17 : fT 4 = rv tB) (hf18 : fT 5 = rv tF) (hf19 : fT 6 = rv tH) (hf20 : fT 7 = rv tL) (hf21 : f 12 = iv lim) (hz : okZ pl n ec Fo Ho B Lt) (hx_q : inR q) (hx_v : inR v) (hlim : 0 ≤ lim ∧ lim ≤ 999) : AMi l yX11_tune cX11_tune 7 .int 4 0 0 [rv h0, iv q, iv v] [(h0, ob 10 f), (oW, ob 7 fW), (oP, ob 4 (uF (uF (uF fP 6 (iv p0)) 7 (iv n0)) 8 (iv k0))), (aA, ar 1206 Ab), (aT, ar 180 Tm), (aW, ar 6 Wq), (aS, ar 30 Sp), (oS, ob 5 fS), (aB, ar 6 B), (aF, ar 6 Fo), (aH, ar 6 Ho), (aL, ar 6 Lt), (oT, ob 5 (uF (uF (uF (uF fT 0 (iv t0)) 1 (iv t1)) 2 (iv t2)) 3 (iv t3))), (tB, ar 6 TB), (tF, ar 6 TF), (tH, ar 6 TH), (tL, ar 6 TL)] (fun z u => ∃ z9 : Int, ∃ p9 : Int, ∃ n9 : Int, ∃ k9 : Int, ∃ A2 : Int → Int, ∃ T2 : Int → Int, ∃ W2 : Int → Int, ∃ S2 : Int → Int, ∃ t4 : Int, ∃ t5 : Int, ∃ t6 : Int, ∃ t7 : Int, ∃ B3 : Int → Int, ∃ F3 : Int → Int, ∃ H3 : Int → Int, ∃ L3 : Int → Int, z = z9 ∧ u = [(h0, ob 10 f), (oW, ob 7 fW), (oP, ob 4 (uF (uF (uF fP 6 (iv p9)) 7 (iv n9)) 8 (iv k9))), (aA, ar 1206 A2), (aT, ar 180 T2), (aW, ar 6 W2), (aS, ar 30 S2), (oS, ob 5 fS), (aB, ar 6 B), (aF, ar 6 Fo), (aH, ar 6 Ho), (aL, ar 6 Lt), (oT, ob 5 (uF (uF (uF (uF fT 0 (iv t4)) 1 (iv t5)) 2 (iv t6)) 3 (iv t7))), (tB, ar 6 B3), (tF, ar 6 F3), (tH, ar 6 H3), (tL, ar 6 L3)] ∧ rTune pl n ec mk Fo Ho B Lt lim q v z9) := by
  refine AMi.of2 rfl (nle rfl) ?_
  intro D G A p e s m args below meth c Po hPo X
  have hz6 := hz.2.1
  have hz0 := hz.1
  have hzn := hz.2.2.1
  have hzm := hz.2.2.2.1
  have hze := hz.2.2.2.2
  refine S_aload_n X dX11_tune_0 rfl rfl ?_
  refine S_iload_n X dX11_tune_1 rfl rfl ?_
  refine S_calli X (kX11_isPlayer l h0 f oW fW pl q hf0 hf4 (by omega) (by omega)) (is := [0, 1]) rfl (run_V X lkX11_147 0 rfl rfl (is := [0, 1]) (avs := [iv q]) (rest := []) rfl rfl (nle rfl) ⟨nle rfl, nle rfl⟩ ⟨nle rfl, nle rfl⟩ dX11_tune_2 (by decide) rfl) (fun z_3 u_1 hp_2 => ?_)
  rcases hp_2 with ⟨hz_4, hu_5, hp_6⟩ | ⟨hz_7, hu_8, hp_9⟩
  ·
    subst hz_4
    subst hu_5
    refine ⟨rfl, ?_⟩
    refine S_w (ws' := [(h0, ob 10 f), (oW, ob 7 fW), (oP, ob 4 (uF (uF (uF fP 6 (iv p0)) 7 (iv n0)) 8 (iv k0))), (aA, ar 1206 Ab), (aT, ar 180 Tm), (aW, ar 6 Wq), (aS, ar 30 Sp), (oS, ob 5 fS), (aB, ar 6 B), (aF, ar 6 Fo), (aH, ar 6 Ho), (aL, ar 6 Lt), (oT, ob 5 (uF (uF (uF (uF fT 0 (iv t0)) 1 (iv t1)) 2 (iv t2)) 3 (iv t3))), (tB, ar 6 TB), (tF, ar 6 TF), (tH, ar 6 TH), (tL, ar 6 TL)]) rfl ?_
    refine S_if_eq (tgt := 17) X dX11_tune_5 (by decide) (by decide) (fun _ => ?_) (fun h9 => absurd h9 (by decide))
    refine S_iconst X dX11_tune_17 ?_
    exact S_iret X (nle rfl) (nle rfl) dX11_tune_18 (hPo _ _ (⟨_, _, _, _, _, _, _, _, _, _, _, _, _, _, _, _, rfl, rfl, Or.inl ⟨by omega, rfl⟩⟩))
  ·
    subst hz_7
    subst hu_8
    refine ⟨rfl, ?_⟩
    refine S_w (ws' := [(h0, ob 10 f), (oW, ob 7 fW), (oP, ob 4 (uF (uF (uF fP 6 (iv p0)) 7 (iv n0)) 8 (iv k0))), (aA, ar 1206 Ab), (aT, ar 180 Tm), (aW, ar 6 Wq), (aS, ar 30 Sp), (oS, ob 5 fS), (aB, ar 6 B), (aF, ar 6 Fo), (aH, ar 6 Ho), (aL, ar 6 Lt), (oT, ob 5 (uF (uF (uF (uF fT 0 (iv t0)) 1 (iv t1)) 2 (iv t2)) 3 (iv t3))), (tB, ar 6 TB), (tF, ar 6 TF), (tH, ar 6 TH), (tL, ar 6 TL)]) rfl ?_
    refine S_if_eq (tgt := 17) X dX11_tune_5 (by decide) (by decide) (fun h9 => absurd h9 (by decide)) (fun _ => ?_)
    refine S_iload_n X dX11_tune_8 rfl rfl ?_
    refine S_if_lt (tgt := 17) X dX11_tune_9 (by decide) (by omega) (fun c_12 => ?_) (fun c_12 => ?_)
    ·
      refine S_iconst X dX11_tune_17 ?_
      exact S_iret X (nle rfl) (nle rfl) dX11_tune_18 (hPo _ _ (⟨_, _, _, _, _, _, _, _, _, _, _, _, _, _, _, _, rfl, rfl, Or.inl ⟨by omega, rfl⟩⟩))
    ·
      refine S_iload_n X dX11_tune_12 rfl rfl ?_
      refine S_iconst X dX11_tune_13 ?_
      refine S_icmp_le (tgt := 19) X dX11_tune_14 (by decide) (by omega) (by decide) (fun c_13 => ?_) (fun c_13 => ?_)
      ·
        have hok := hz.s (by omega)
        have hpl := hok.2.1
        have hpl1 := hok.1
        have hn1 := hok.2.2.1
        have hn2 := hok.2.2.2.1
        have hec := hok.2.2.2.2
        refine S_aload_n X dX11_tune_19 rfl rfl ?_
        refine S_get X fgX11_63_10 0 rfl hf3 dX11_tune_20 ?_
        refine S_aload_n X dX11_tune_23 rfl rfl ?_
        refine S_get X fgX11_59_10 0 rfl hf1 dX11_tune_24 ?_
        refine S_callv X (kX6_copyFrom l fS pl n ec mk oS aB aF aH aL B Fo Ho Lt oT tB tF tH tL fT TB TF TH TL t0 t1 t2 t3 hf9 hf10 hf11 hf12 hf13 hf14 hf15 hf16 hf17 hf18 hf19 hf20) (is := [12, 13, 14, 15, 16, 7, 8, 9, 10, 11]) rfl (run_V X lkX11_289 12 rfl rfl (is := [12, 13, 14, 15, 16, 7, 8, 9, 10, 11]) (avs := [rv oS]) (rest := []) rfl rfl (nle rfl) ⟨nle rfl, nle rfl⟩ ⟨nle rfl, nle rfl⟩ dX11_tune_27 (by decide) rfl) (fun u_14 hp_15 => ?_)
        obtain ⟨B2_17, F2_18, H2_19, L2_20, hu_22, hB2_23, hF2_24, hH2_25, hL2_26⟩ := hp_15
        subst hu_22
        refine ⟨rfl, ?_⟩
        refine S_w (ws' := [(h0, ob 10 f), (oW, ob 7 fW), (oP, ob 4 (uF (uF (uF fP 6 (iv p0)) 7 (iv n0)) 8 (iv k0))), (aA, ar 1206 Ab), (aT, ar 180 Tm), (aW, ar 6 Wq), (aS, ar 30 Sp), (oS, ob 5 fS), (aB, ar 6 B), (aF, ar 6 Fo), (aH, ar 6 Ho), (aL, ar 6 Lt), (oT, ob 5 (uF (uF (uF (uF fT 0 (iv pl)) 1 (iv n)) 2 (iv ec)) 3 (iv mk))), (tB, ar 6 B2_17), (tF, ar 6 F2_18), (tH, ar 6 H2_19), (tL, ar 6 L2_20)]) rfl ?_
        have hB9 := hB2_23
        have hF9 := hF2_24
        have hH9 := hH2_25
        have hL9 := hL2_26
        have hte := te_0 (pl := pl) (by omega) hB9 hF9 hH9 hL9
        refine S_aload_n X dX11_tune_30 rfl rfl ?_
        refine S_get X fgX11_59_10 0 rfl hf1 dX11_tune_31 ?_
        refine S_get X fgX11_171_5 7 rfl hf15 dX11_tune_34 ?_
        refine S_iload_n X dX11_tune_37 rfl rfl ?_
        refine S_iald X 10 rfl (by omega) (by omega) (nle rfl) dX11_tune_38 ?_
        refine S_istore_n X dX11_tune_39 rfl (nle rfl) ?_
        have hq4 := (hok.2.2.2.2.2.2 q (by omega) (by omega)).2.1
        obtain ⟨own, hown⟩ : ∃ z9, z9 = Ho q := ⟨_, rfl⟩
        rw [← hown]
        refine S_iconst X dX11_tune_40 ?_
        refine S_istore X dX11_tune_41 (nle rfl) ?_
        have lp43_3 : ∀ (N : Nat) (sp : Int) (Hv : Int → Int) (Aw : Int → Int) (Tw : Int → Int) (Ww : Int → Int) (Sw : Int → Int) (pw : Int) (nw : Int) (kw : Int) (L : Nat → Option AV), 0 ≤ sp ∧ sp ≤ 21 → (∀ x, uZ Hv q x = uZ H2_19 q x) → (∀ k, 0 ≤ k → k ≤ 10 → stepOf own k < sp → lim < WO pl n ec mk Fo (uZ Ho q k) B Lt) → L 0 = some (rv h0) → L 1 = some (iv q) → L 2 = some (iv v) → L 3 = some (iv own) → L 4 = some (iv sp) → 22 - sp < (N : Int) → S_ p l e (rmD 4 0 0) s m args below meth c (MQ below (QcI D G A Po) args s 0 0 A) D G A 7 0 0 43 L [] [(h0, ob 10 f), (oW, ob 7 fW), (oP, ob 4 (uF (uF (uF fP 6 (iv pw)) 7 (iv nw)) 8 (iv kw))), (aA, ar 1206 Aw), (aT, ar 180 Tw), (aW, ar 6 Ww), (aS, ar 30 Sw), (oS, ob 5 fS), (aB, ar 6 B), (aF, ar 6 Fo), (aH, ar 6 Ho), (aL, ar 6 Lt), (oT, ob 5 (uF (uF (uF (uF fT 0 (iv pl)) 1 (iv n)) 2 (iv ec)) 3 (iv mk))), (tB, ar 6 B2_17), (tF, ar 6 F2_18), (tH, ar 6 Hv), (tL, ar 6 L2_20)] := by
          intro N
          induction N with
          | zero =>
            intro sp Hv Aw Tw Ww Sw pw nw kw L43 hsp hHv hno hL43_0 hL43_1 hL43_2 hL43_3 hL43_4 hN43
            exfalso; omega
          | succ N ih43 =>
            intro sp Hv Aw Tw Ww Sw pw nw kw L43 hsp hHv hno hL43_0 hL43_1 hL43_2 hL43_3 hL43_4 hN43
            refine S_iload X dX11_tune_43 hL43_4 ?_
            refine S_bipush X dX11_tune_45 rfl ?_
            refine S_icmp_gt (tgt := 145) X dX11_tune_47 (by decide) (by omega) (by decide) (fun c_27 => ?_) (fun c_27 => ?_)
            ·
              refine S_iconst X dX11_tune_145 ?_
              exact S_iret X (nle rfl) (nle rfl) dX11_tune_146 (hPo _ _ (⟨_, _, _, _, _, _, _, _, _, _, _, _, _, _, _, _, rfl, rfl, Or.inr ⟨by omega, by omega, Or.inl ⟨fun h h0 h1 => hno h h0 h1 (by have := stepOf_e own h; omega), rfl⟩⟩⟩))
            ·
              refine S_iload X dX11_tune_50 hL43_4 ?_
              refine S_iconst X dX11_tune_52 ?_
              refine S_irem X (by omega) (by decide) (by decide) dX11_tune_53 ?_
              have htm := Int.tmod_eq_emod_of_nonneg (a := sp) (b := 2) (by omega)
              refine S_if_ne (tgt := 66) X dX11_tune_54 (by decide) (by omega) (fun c_28 => ?_) (fun c_28 => ?_)
              ·
                refine S_iload_n X dX11_tune_66 rfl hL43_3 ?_
                refine S_iload X dX11_tune_67 hL43_4 ?_
                refine S_iconst X dX11_tune_69 ?_
                refine S_iadd X dX11_tune_70 ?_
                refine S_iconst X dX11_tune_71 ?_
                refine S_idiv X (by omega) (by decide) (by decide) dX11_tune_72 ?_
                refine S_isub X dX11_tune_73 ?_
                refine S_istore X dX11_tune_74 (nle rfl) ?_
                have htd := Int.tdiv_eq_ediv_of_nonneg (a := sp) (b := 2) (by omega)
                have htd1 := Int.tdiv_eq_ediv_of_nonneg (a := sp + 1) (b := 2) (by omega)
                obtain ⟨hw, hhw⟩ : ∃ z9, z9 = own - ((sp + 1).tdiv 2) := ⟨_, rfl⟩
                rw [← hhw]
                have hhs : stepOf own hw = sp := by have := stepOf_e own hw; omega
                refine S_iload X dX11_tune_76 rfl ?_
                refine S_if_lt (tgt := 139) X dX11_tune_78 (by decide) (by omega) (fun c_29 => ?_) (fun c_29 => ?_)
                ·
                  refine S_iinc X dX11_tune_139 (nle rfl) hL43_4 ?_
                  refine S_goto (tgt := 43) X dX11_tune_142 (by decide) ?_
                  exact ih43 (sp + 1) Hv Aw Tw Ww Sw pw nw kw _ (by omega) (fun x => by first | (rw [uZ_twice]; exact hHv x) | exact hHv x) (tu_out (P := fun k => WO pl n ec mk Fo (uZ Ho q k) B Lt) hno hhs (by omega)) hL43_0 hL43_1 hL43_2 hL43_3 rfl (by omega)
                ·
                  refine S_iload X dX11_tune_81 rfl ?_
                  refine S_bipush X dX11_tune_83 rfl ?_
                  refine S_icmp_gt (tgt := 139) X dX11_tune_85 (by decide) (by omega) (by decide) (fun c_30 => ?_) (fun c_30 => ?_)
                  ·
                    refine S_iinc X dX11_tune_139 (nle rfl) hL43_4 ?_
                    refine S_goto (tgt := 43) X dX11_tune_142 (by decide) ?_
                    exact ih43 (sp + 1) Hv Aw Tw Ww Sw pw nw kw _ (by omega) (fun x => by first | (rw [uZ_twice]; exact hHv x) | exact hHv x) (tu_out (P := fun k => WO pl n ec mk Fo (uZ Ho q k) B Lt) hno hhs (by omega)) hL43_0 hL43_1 hL43_2 hL43_3 rfl (by omega)
                  ·
                    refine S_aload_n X dX11_tune_88 rfl hL43_0 ?_
                    refine S_get X fgX11_63_10 0 rfl hf3 dX11_tune_89 ?_
                    refine S_get X fgX11_171_5 12 rfl hf19 dX11_tune_92 ?_
                    refine S_iload_n X dX11_tune_95 rfl hL43_1 ?_
                    refine S_iload X dX11_tune_96 rfl ?_
                    refine S_iast X 15 rfl (by omega) (by omega) (nle rfl) dX11_tune_98 ?_
                    refine S_w (ws' := [(h0, ob 10 f), (oW, ob 7 fW), (oP, ob 4 (uF (uF (uF fP 6 (iv pw)) 7 (iv nw)) 8 (iv kw))), (aA, ar 1206 Aw), (aT, ar 180 Tw), (aW, ar 6 Ww), (aS, ar 30 Sw), (oS, ob 5 fS), (aB, ar 6 B), (aF, ar 6 Fo), (aH, ar 6 Ho), (aL, ar 6 Lt), (oT, ob 5 (uF (uF (uF (uF fT 0 (iv pl)) 1 (iv n)) 2 (iv ec)) 3 (iv mk))), (tB, ar 6 B2_17), (tF, ar 6 F2_18), (tH, ar 6 (uZ Hv q hw)), (tL, ar 6 L2_20)]) rfl ?_
                    refine S_aload_n X dX11_tune_99 rfl hL43_0 ?_
                    refine S_get X fgX11_69_10 0 rfl hf2 dX11_tune_100 ?_
                    refine S_aload_n X dX11_tune_103 rfl hL43_0 ?_
                    refine S_get X fgX11_63_10 0 rfl hf3 dX11_tune_104 ?_
                    refine S_aload_n X dX11_tune_107 rfl hL43_0 ?_
                    refine S_get X fgX11_89_10 0 rfl hf21 dX11_tune_108 ?_
                    refine S_iconst X dX11_tune_111 ?_
                    refine S_iadd X dX11_tune_112 ?_
                    refine S_calli X (kX4_perform l fP (uF (uF (uF (uF fT 0 (iv pl)) 1 (iv n)) 2 (iv ec)) 3 (iv mk)) pl n ec mk oP oT aA aT aW aS tB tF tH tL Aw Tw Ww Sw B2_17 F2_18 (uZ Hv q hw) L2_20 pw nw kw (lim + 1) hf5 hf6 hf7 hf8 rfl rfl rfl rfl hf17 hf18 hf19 hf20 (by rw [hHv]; exact (hok.ho (p := q) (v := hw) (by omega)).c (te_H hte)) (by omega)) (is := [2, 3, 4, 5, 6, 12, 13, 14, 15, 16]) rfl (run_V X lkX11_235 2 rfl rfl (is := [2, 3, 4, 5, 6, 12, 13, 14, 15, 16]) (avs := [rv oT, iv (lim + 1)]) (rest := []) rfl rfl (nle rfl) ⟨nle rfl, nle rfl⟩ ⟨nle rfl, nle rfl⟩ dX11_tune_113 (by decide) rfl) (fun z_33 u_31 hp_32 => ?_)
                    rcases hp_32 with ⟨A2_34, T2_35, W2_36, S2_37, hz_38, hu_39, hq_40⟩ | ⟨A2_41, T2_42, W2_43, S2_44, hz_45, hu_46, hq_47, hA2_48, hT2_49, hS2_50⟩
                    ·
                      subst hz_38
                      subst hu_39
                      refine ⟨rfl, ?_⟩
                      refine S_w (ws' := [(h0, ob 10 f), (oW, ob 7 fW), (oP, ob 4 (uF (uF (uF fP 6 (iv pl)) 7 (iv n)) 8 (iv mk))), (aA, ar 1206 A2_34), (aT, ar 180 T2_35), (aW, ar 6 W2_36), (aS, ar 30 S2_37), (oS, ob 5 fS), (aB, ar 6 B), (aF, ar 6 Fo), (aH, ar 6 Ho), (aL, ar 6 Lt), (oT, ob 5 (uF (uF (uF (uF fT 0 (iv pl)) 1 (iv n)) 2 (iv ec)) 3 (iv mk))), (tB, ar 6 B2_17), (tF, ar 6 F2_18), (tH, ar 6 (uZ Hv q hw)), (tL, ar 6 L2_20)]) rfl ?_
                      have hcu : lim + 1 ≤ WO pl n ec mk Fo (uZ Ho q hw) B Lt := by have h9 := hq_40; rw [hHv] at h9; rwa [← WO_c (hok.ho (p := q) (v := hw) (by omega)) (te_H hte)] at h9
                      refine S_istore X dX11_tune_116 (nle rfl) ?_
                      refine S_iload X dX11_tune_118 rfl ?_
                      refine S_aload_n X dX11_tune_120 rfl hL43_0 ?_
                      refine S_get X fgX11_89_10 0 rfl hf21 dX11_tune_121 ?_
                      refine S_icmp_gt (tgt := 139) X dX11_tune_124 (by decide) (by omega) (by omega) (fun c_51 => ?_) (fun c_51 => by exfalso; omega)
                      refine S_iinc X dX11_tune_139 (nle rfl) hL43_4 ?_
                      refine S_goto (tgt := 43) X dX11_tune_142 (by decide) ?_
                      exact ih43 (sp + 1) (uZ Hv q hw) A2_34 T2_35 W2_36 S2_37 pl n mk _ (by omega) (fun x => by first | (rw [uZ_twice]; exact hHv x) | exact hHv x) (tu_no (P := fun k => WO pl n ec mk Fo (uZ Ho q k) B Lt) hno hhs (by omega)) hL43_0 hL43_1 hL43_2 hL43_3 rfl (by omega)
                    ·
                      subst hz_45
                      subst hu_46
                      refine ⟨rfl, ?_⟩
                      refine S_w (ws' := [(h0, ob 10 f), (oW, ob 7 fW), (oP, ob 4 (uF (uF (uF fP 6 (iv pl)) 7 (iv n)) 8 (iv mk))), (aA, ar 1206 A2_41), (aT, ar 180 T2_42), (aW, ar 6 W2_43), (aS, ar 30 S2_44), (oS, ob 5 fS), (aB, ar 6 B), (aF, ar 6 Fo), (aH, ar 6 Ho), (aL, ar 6 Lt), (oT, ob 5 (uF (uF (uF (uF fT 0 (iv pl)) 1 (iv n)) 2 (iv ec)) 3 (iv mk))), (tB, ar 6 B2_17), (tF, ar 6 F2_18), (tH, ar 6 (uZ Hv q hw)), (tL, ar 6 L2_20)]) rfl ?_
                      have hv1 : WO pl n ec mk F2_18 (uZ Hv q hw) B2_17 L2_20 = WO pl n ec mk Fo (uZ Ho q hw) B Lt := by rw [hHv]; exact (WO_c (hok.ho (p := q) (v := hw) (by omega)) (te_H hte)).symm
                      rw [hv1]
                      have hlo : WO pl n ec mk Fo (uZ Ho q hw) B Lt ≤ lim := by have h9 := hq_47; rw [hHv] at h9; rw [← WO_c (hok.ho (p := q) (v := hw) (by omega)) (te_H hte)] at h9; omega
                      have hwr := (hok.ho (p := q) (v := hw) (by omega)).worst (mk := mk)
                      refine S_istore X dX11_tune_116 (nle rfl) ?_
                      refine S_iload X dX11_tune_118 rfl ?_
                      refine S_aload_n X dX11_tune_120 rfl hL43_0 ?_
                      refine S_get X fgX11_89_10 0 rfl hf21 dX11_tune_121 ?_
                      refine S_icmp_gt (tgt := 139) X dX11_tune_124 (by decide) (by omega) (by omega) (fun c_52 => by exfalso; omega) (fun c_52 => ?_)
                      refine S_iload_n X dX11_tune_127 rfl hL43_2 ?_
                      refine S_if_ne (tgt := 136) X dX11_tune_128 (by decide) (by omega) (fun c_53 => ?_) (fun c_53 => ?_)
                      ·
                        refine S_iload X dX11_tune_136 rfl ?_
                        exact S_iret X (nle rfl) (nle rfl) dX11_tune_138 (hPo _ _ (⟨_, _, _, _, _, _, _, _, _, _, _, _, _, _, _, _, rfl, rfl, Or.inr ⟨by omega, by omega, Or.inr ⟨hw, by omega, by omega, hlo, by rw [← hown]; exact tu_best (P := fun k => WO pl n ec mk Fo (uZ Ho q k) B Lt) hno hhs, by rw [if_neg (by omega)]⟩⟩⟩))
                      ·
                        refine S_iload X dX11_tune_131 rfl ?_
                        refine S_goto (tgt := 138) X dX11_tune_133 (by decide) ?_
                        exact S_iret X (nle rfl) (nle rfl) dX11_tune_138 (hPo _ _ (⟨_, _, _, _, _, _, _, _, _, _, _, _, _, _, _, _, rfl, rfl, Or.inr ⟨by omega, by omega, Or.inr ⟨hw, by omega, by omega, hlo, by rw [← hown]; exact tu_best (P := fun k => WO pl n ec mk Fo (uZ Ho q k) B Lt) hno hhs, by rw [if_pos (by omega)]⟩⟩⟩))
              ·
                refine S_iload_n X dX11_tune_57 rfl hL43_3 ?_
                refine S_iload X dX11_tune_58 hL43_4 ?_
                refine S_iconst X dX11_tune_60 ?_
                refine S_idiv X (by omega) (by decide) (by decide) dX11_tune_61 ?_
                refine S_iadd X dX11_tune_62 ?_
                refine S_goto (tgt := 74) X dX11_tune_63 (by decide) ?_
                refine S_istore X dX11_tune_74 (nle rfl) ?_
                have htd := Int.tdiv_eq_ediv_of_nonneg (a := sp) (b := 2) (by omega)
                have htd1 := Int.tdiv_eq_ediv_of_nonneg (a := sp + 1) (b := 2) (by omega)
                obtain ⟨hw, hhw⟩ : ∃ z9, z9 = own + (sp.tdiv 2) := ⟨_, rfl⟩
                rw [← hhw]
                have hhs : stepOf own hw = sp := by have := stepOf_e own hw; omega
                refine S_iload X dX11_tune_76 rfl ?_
                refine S_if_lt (tgt := 139) X dX11_tune_78 (by decide) (by omega) (fun c_54 => ?_) (fun c_54 => ?_)
                ·
                  refine S_iinc X dX11_tune_139 (nle rfl) hL43_4 ?_
                  refine S_goto (tgt := 43) X dX11_tune_142 (by decide) ?_
                  exact ih43 (sp + 1) Hv Aw Tw Ww Sw pw nw kw _ (by omega) (fun x => by first | (rw [uZ_twice]; exact hHv x) | exact hHv x) (tu_out (P := fun k => WO pl n ec mk Fo (uZ Ho q k) B Lt) hno hhs (by omega)) hL43_0 hL43_1 hL43_2 hL43_3 rfl (by omega)
                ·
                  refine S_iload X dX11_tune_81 rfl ?_
                  refine S_bipush X dX11_tune_83 rfl ?_
                  refine S_icmp_gt (tgt := 139) X dX11_tune_85 (by decide) (by omega) (by decide) (fun c_55 => ?_) (fun c_55 => ?_)
                  ·
                    refine S_iinc X dX11_tune_139 (nle rfl) hL43_4 ?_
                    refine S_goto (tgt := 43) X dX11_tune_142 (by decide) ?_
                    exact ih43 (sp + 1) Hv Aw Tw Ww Sw pw nw kw _ (by omega) (fun x => by first | (rw [uZ_twice]; exact hHv x) | exact hHv x) (tu_out (P := fun k => WO pl n ec mk Fo (uZ Ho q k) B Lt) hno hhs (by omega)) hL43_0 hL43_1 hL43_2 hL43_3 rfl (by omega)
                  ·
                    refine S_aload_n X dX11_tune_88 rfl hL43_0 ?_
                    refine S_get X fgX11_63_10 0 rfl hf3 dX11_tune_89 ?_
                    refine S_get X fgX11_171_5 12 rfl hf19 dX11_tune_92 ?_
                    refine S_iload_n X dX11_tune_95 rfl hL43_1 ?_
                    refine S_iload X dX11_tune_96 rfl ?_
                    refine S_iast X 15 rfl (by omega) (by omega) (nle rfl) dX11_tune_98 ?_
                    refine S_w (ws' := [(h0, ob 10 f), (oW, ob 7 fW), (oP, ob 4 (uF (uF (uF fP 6 (iv pw)) 7 (iv nw)) 8 (iv kw))), (aA, ar 1206 Aw), (aT, ar 180 Tw), (aW, ar 6 Ww), (aS, ar 30 Sw), (oS, ob 5 fS), (aB, ar 6 B), (aF, ar 6 Fo), (aH, ar 6 Ho), (aL, ar 6 Lt), (oT, ob 5 (uF (uF (uF (uF fT 0 (iv pl)) 1 (iv n)) 2 (iv ec)) 3 (iv mk))), (tB, ar 6 B2_17), (tF, ar 6 F2_18), (tH, ar 6 (uZ Hv q hw)), (tL, ar 6 L2_20)]) rfl ?_
                    refine S_aload_n X dX11_tune_99 rfl hL43_0 ?_
                    refine S_get X fgX11_69_10 0 rfl hf2 dX11_tune_100 ?_
                    refine S_aload_n X dX11_tune_103 rfl hL43_0 ?_
                    refine S_get X fgX11_63_10 0 rfl hf3 dX11_tune_104 ?_
                    refine S_aload_n X dX11_tune_107 rfl hL43_0 ?_
                    refine S_get X fgX11_89_10 0 rfl hf21 dX11_tune_108 ?_
                    refine S_iconst X dX11_tune_111 ?_
                    refine S_iadd X dX11_tune_112 ?_
                    refine S_calli X (kX4_perform l fP (uF (uF (uF (uF fT 0 (iv pl)) 1 (iv n)) 2 (iv ec)) 3 (iv mk)) pl n ec mk oP oT aA aT aW aS tB tF tH tL Aw Tw Ww Sw B2_17 F2_18 (uZ Hv q hw) L2_20 pw nw kw (lim + 1) hf5 hf6 hf7 hf8 rfl rfl rfl rfl hf17 hf18 hf19 hf20 (by rw [hHv]; exact (hok.ho (p := q) (v := hw) (by omega)).c (te_H hte)) (by omega)) (is := [2, 3, 4, 5, 6, 12, 13, 14, 15, 16]) rfl (run_V X lkX11_235 2 rfl rfl (is := [2, 3, 4, 5, 6, 12, 13, 14, 15, 16]) (avs := [rv oT, iv (lim + 1)]) (rest := []) rfl rfl (nle rfl) ⟨nle rfl, nle rfl⟩ ⟨nle rfl, nle rfl⟩ dX11_tune_113 (by decide) rfl) (fun z_58 u_56 hp_57 => ?_)
                    rcases hp_57 with ⟨A2_59, T2_60, W2_61, S2_62, hz_63, hu_64, hq_65⟩ | ⟨A2_66, T2_67, W2_68, S2_69, hz_70, hu_71, hq_72, hA2_73, hT2_74, hS2_75⟩
                    ·
                      subst hz_63
                      subst hu_64
                      refine ⟨rfl, ?_⟩
                      refine S_w (ws' := [(h0, ob 10 f), (oW, ob 7 fW), (oP, ob 4 (uF (uF (uF fP 6 (iv pl)) 7 (iv n)) 8 (iv mk))), (aA, ar 1206 A2_59), (aT, ar 180 T2_60), (aW, ar 6 W2_61), (aS, ar 30 S2_62), (oS, ob 5 fS), (aB, ar 6 B), (aF, ar 6 Fo), (aH, ar 6 Ho), (aL, ar 6 Lt), (oT, ob 5 (uF (uF (uF (uF fT 0 (iv pl)) 1 (iv n)) 2 (iv ec)) 3 (iv mk))), (tB, ar 6 B2_17), (tF, ar 6 F2_18), (tH, ar 6 (uZ Hv q hw)), (tL, ar 6 L2_20)]) rfl ?_
                      have hcu : lim + 1 ≤ WO pl n ec mk Fo (uZ Ho q hw) B Lt := by have h9 := hq_65; rw [hHv] at h9; rwa [← WO_c (hok.ho (p := q) (v := hw) (by omega)) (te_H hte)] at h9
                      refine S_istore X dX11_tune_116 (nle rfl) ?_
                      refine S_iload X dX11_tune_118 rfl ?_
                      refine S_aload_n X dX11_tune_120 rfl hL43_0 ?_
                      refine S_get X fgX11_89_10 0 rfl hf21 dX11_tune_121 ?_
                      refine S_icmp_gt (tgt := 139) X dX11_tune_124 (by decide) (by omega) (by omega) (fun c_76 => ?_) (fun c_76 => by exfalso; omega)
                      refine S_iinc X dX11_tune_139 (nle rfl) hL43_4 ?_
                      refine S_goto (tgt := 43) X dX11_tune_142 (by decide) ?_
                      exact ih43 (sp + 1) (uZ Hv q hw) A2_59 T2_60 W2_61 S2_62 pl n mk _ (by omega) (fun x => by first | (rw [uZ_twice]; exact hHv x) | exact hHv x) (tu_no (P := fun k => WO pl n ec mk Fo (uZ Ho q k) B Lt) hno hhs (by omega)) hL43_0 hL43_1 hL43_2 hL43_3 rfl (by omega)
                    ·
                      subst hz_70
                      subst hu_71
                      refine ⟨rfl, ?_⟩
                      refine S_w (ws' := [(h0, ob 10 f), (oW, ob 7 fW), (oP, ob 4 (uF (uF (uF fP 6 (iv pl)) 7 (iv n)) 8 (iv mk))), (aA, ar 1206 A2_66), (aT, ar 180 T2_67), (aW, ar 6 W2_68), (aS, ar 30 S2_69), (oS, ob 5 fS), (aB, ar 6 B), (aF, ar 6 Fo), (aH, ar 6 Ho), (aL, ar 6 Lt), (oT, ob 5 (uF (uF (uF (uF fT 0 (iv pl)) 1 (iv n)) 2 (iv ec)) 3 (iv mk))), (tB, ar 6 B2_17), (tF, ar 6 F2_18), (tH, ar 6 (uZ Hv q hw)), (tL, ar 6 L2_20)]) rfl ?_
                      have hv1 : WO pl n ec mk F2_18 (uZ Hv q hw) B2_17 L2_20 = WO pl n ec mk Fo (uZ Ho q hw) B Lt := by rw [hHv]; exact (WO_c (hok.ho (p := q) (v := hw) (by omega)) (te_H hte)).symm
                      rw [hv1]
                      have hlo : WO pl n ec mk Fo (uZ Ho q hw) B Lt ≤ lim := by have h9 := hq_72; rw [hHv] at h9; rw [← WO_c (hok.ho (p := q) (v := hw) (by omega)) (te_H hte)] at h9; omega
                      have hwr := (hok.ho (p := q) (v := hw) (by omega)).worst (mk := mk)
                      refine S_istore X dX11_tune_116 (nle rfl) ?_
                      refine S_iload X dX11_tune_118 rfl ?_
                      refine S_aload_n X dX11_tune_120 rfl hL43_0 ?_
                      refine S_get X fgX11_89_10 0 rfl hf21 dX11_tune_121 ?_
                      refine S_icmp_gt (tgt := 139) X dX11_tune_124 (by decide) (by omega) (by omega) (fun c_77 => by exfalso; omega) (fun c_77 => ?_)
                      refine S_iload_n X dX11_tune_127 rfl hL43_2 ?_
                      refine S_if_ne (tgt := 136) X dX11_tune_128 (by decide) (by omega) (fun c_78 => ?_) (fun c_78 => ?_)
                      ·
                        refine S_iload X dX11_tune_136 rfl ?_
                        exact S_iret X (nle rfl) (nle rfl) dX11_tune_138 (hPo _ _ (⟨_, _, _, _, _, _, _, _, _, _, _, _, _, _, _, _, rfl, rfl, Or.inr ⟨by omega, by omega, Or.inr ⟨hw, by omega, by omega, hlo, by rw [← hown]; exact tu_best (P := fun k => WO pl n ec mk Fo (uZ Ho q k) B Lt) hno hhs, by rw [if_neg (by omega)]⟩⟩⟩))
                      ·
                        refine S_iload X dX11_tune_131 rfl ?_
                        refine S_goto (tgt := 138) X dX11_tune_133 (by decide) ?_
                        exact S_iret X (nle rfl) (nle rfl) dX11_tune_138 (hPo _ _ (⟨_, _, _, _, _, _, _, _, _, _, _, _, _, _, _, _, rfl, rfl, Or.inr ⟨by omega, by omega, Or.inr ⟨hw, by omega, by omega, hlo, by rw [← hown]; exact tu_best (P := fun k => WO pl n ec mk Fo (uZ Ho q k) B Lt) hno hhs, by rw [if_pos (by omega)]⟩⟩⟩))
        exact lp43_3 (Int.toNat (22 - 0) + 1) 0 H2_19 Ab Tm Wq Sp p0 n0 k0 _ (by omega) (fun x => rfl) (fun k h0 h1 h2 => by exfalso; have := stepOf_e own k; omega) rfl rfl rfl rfl rfl (by omega)
      ·
        refine S_iconst X dX11_tune_17 ?_
        exact S_iret X (nle rfl) (nle rfl) dX11_tune_18 (hPo _ _ (⟨_, _, _, _, _, _, _, _, _, _, _, _, _, _, _, _, rfl, rfl, Or.inl ⟨by omega, rfl⟩⟩))
