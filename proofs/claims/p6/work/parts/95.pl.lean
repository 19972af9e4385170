def QX11_isPlayer (a : Nat → Nat) (v : Nat → Int) (g : Nat → Int → Int) (R : Int → Int → Int) (ds : List LwS) (ys : Nat → LwY) (y1 : Int) (z : Int) (u : EW) : Prop := (z = 0 ∧ u = CW a v g R ds ys ∧ (y1 < 0 ∨ (v 13) ≤ y1)) ∨ (z = 1 ∧ u = CW a v g R ds ys ∧ (0 ≤ y1 ∧ y1 < (v 13)))
set_option maxRecDepth 100000 in
set_option maxHeartbeats 4000000 in
theorem qX11_isPlayer (l : Launch) (a : Nat → Nat) (v : Nat → Int) (g : Nat → Int → Int) (R : Int → Int → Int) (ds : List LwS) (ys : Nat → LwY) (y1 : Int) (hpl : 0 ≤ (v 13) ∧ (v 13) ≤ 6) (hq : inR y1) : AMi l yX11_isPlayer cX11_isPlayer 2 .boolean 0 0 0 [rv (a 19), iv y1] (CW a v g R ds ys) (QX11_isPlayer a v g R ds ys y1) := by
  have hk := (kX11_isPlayer l (a 19) (o10 a v) (a 31) (o7w a v) (v 13) y1 rfl rfl hpl hq)
  refine AMi.gL (wl := CF a v g R ds) (is := [19, 31]) [0, 1, 2, 3, 4, 5, 6, 7, 8, 9, 10, 11, 12, 13, 14, 15, 16, 17, 18, 20, 21, 22, 23, 24, 25, 26, 27, 28, 29, 30, 32, 33, 34, 35, 36, 37, 38, 39, 40, 41, 42, 43, 44] 45 hk rfl rfl (by decide +kernel) (by decide +kernel) (fun z u hq => ?_)
  rcases hq with ⟨hz, hu, hp⟩ | ⟨hz, hu, hp⟩
  · subst hu
    exact ⟨rfl, CF a v g R ds, rfl, rfl, CF_rest (by decide) rfl, Or.inl ⟨hz, rfl, hp⟩⟩
  · subst hu
    exact ⟨rfl, CF a v g R ds, rfl, rfl, CF_rest (by decide) rfl, Or.inr (⟨hz, rfl, hp⟩)⟩
/-- what player answers -/
def pl11 (v : Nat → Int) (g : Nat → Int → Int) (p k : Int) : Int := if k = 0 then g 38 p else if k = 1 then g 32 p else if k = 2 then g 33 p else if k = 3 then g 34 p else if k = 4 then g 39 p else if k = 5 then g 40 p else g 41 p
def plOk (v : Nat → Int) (p k : Int) : Prop := (0 ≤ p ∧ p < v 13) ∧ 0 ≤ k ∧ k ≤ 6
set_option maxRecDepth 100000 in
set_option maxHeartbeats 4000000 in
theorem kX11_player (l : Launch) (hl : l.stackTraces = false) (a : Nat → Nat) (v : Nat → Int) (g : Nat → Int → Int) (R : Int → Int → Int) (ds : List LwS) (ys : Nat → LwY) (y1 y2 : Int) (hpl : 0 ≤ v 13 ∧ v 13 ≤ 6) (r1 : inR y1) (r2 : inR y2) : vxM l yX11_player cX11_player 3 .int 6 1 6 [rv (a 19), iv y1, iv y2] (CW a v g R ds ys) (fun z u => u = CW a v g R ds ys ∧ plOk v y1 y2 ∧ z = pl11 v g y1 y2) (¬ plOk v y1 y2) := by
  refine vxM.of rfl (nle rfl) ?_
  intro D G A p e s m args below meth c hex hU X
  refine S_aload_n X dX11_player_0 rfl rfl ?_
  refine S_iload_n X dX11_player_1 rfl rfl ?_
  refine S_w (ws' := CW a v g R ds ys ++ []) (List.append_nil _).symm ?_
  refine S_callL X (qX11_isPlayer l a v g R ds ys y1 hpl r1) (run_V X lkX11_147 19 rfl rfl (is := List.range (CW a v g R ds ys).length) (avs := [iv y1]) (rest := []) rfl rfl (nle rfl) ⟨nle rfl, nle rfl⟩ ⟨nle rfl, nle rfl⟩ dX11_player_2 (rg_nd _) rg_L) (fun z u hq => ?_)
  rcases hq with ⟨hz, hu, hq⟩ | ⟨hz, hu, hq⟩
  · subst hz
    subst hu
    refine S_w (ws' := CW a v g R ds ys) (List.append_nil _) ?_
    refine S_if_ne (tgt := 18) X dX11_player_5 (by decide) (by decide) (fun h9 => absurd rfl h9) (fun _ => ?_)
    obtain ⟨⟨s1, h1⟩, ⟨s2, h2⟩, -⟩ := id hU
    exact S_throw X hex hU hl h1 dX11_player_8 dX11_player_11 dX11_player_12 dX11_player_14 dX11_player_17 (nle rfl) (nle rfl) (nle rfl) (nle rfl) (nle rfl) (nle rfl) (fun h9 => by unfold plOk at h9; omega)
  · subst hz
    subst hu
    refine S_w (ws' := CW a v g R ds ys) (List.append_nil _) ?_
    refine S_if_ne (tgt := 18) X dX11_player_5 (by decide) (by decide) (fun _ => ?_) (fun h9 => absurd h9 (by decide))
    refine S_iload_n X dX11_player_18 rfl rfl ?_
    by_cases hs0 : y2 = 0
    · refine S_tswIn (j := 0) (tgt := 60) X dX11_player_19 hs0 rfl (by decide) (by decide) ?_
      refine S_aload_n X dX11_player_60 rfl rfl ?_
      refine S_get (v := rv (a 37)) X fgX11_59_10 19 rfl rfl dX11_player_61 ?_
      refine S_get (v := rv (a 38)) X fgX11_158_5 37 rfl rfl dX11_player_64 ?_
      refine S_iload_n X dX11_player_67 rfl rfl ?_
      refine S_iald X 38 rfl (by omega) (by omega) (nle rfl) dX11_player_68 ?_
      refine S_vx (S_iret X (nle rfl) (nle rfl) dX11_player_69 ⟨rfl, ⟨by omega, by omega⟩, ?_⟩)
      subst hs0
      rfl
    by_cases hs1 : y2 = 1
    · refine S_tswIn (j := 1) (tgt := 70) X dX11_player_19 hs1 rfl (by decide) (by decide) ?_
      refine S_aload_n X dX11_player_70 rfl rfl ?_
      refine S_get (v := rv (a 31)) X fgX11_35_10 19 rfl rfl dX11_player_71 ?_
      refine S_get (v := rv (a 32)) X fgX11_161_7 31 rfl rfl dX11_player_74 ?_
      refine S_iload_n X dX11_player_77 rfl rfl ?_
      refine S_iald X 32 rfl (by omega) (by omega) (nle rfl) dX11_player_78 ?_
      refine S_vx (S_iret X (nle rfl) (nle rfl) dX11_player_79 ⟨rfl, ⟨by omega, by omega⟩, ?_⟩)
      subst hs1
      rfl
    by_cases hs2 : y2 = 2
    · refine S_tswIn (j := 2) (tgt := 80) X dX11_player_19 hs2 rfl (by decide) (by decide) ?_
      refine S_aload_n X dX11_player_80 rfl rfl ?_
      refine S_get (v := rv (a 31)) X fgX11_35_10 19 rfl rfl dX11_player_81 ?_
      refine S_get (v := rv (a 33)) X fgX11_162_7 31 rfl rfl dX11_player_84 ?_
      refine S_iload_n X dX11_player_87 rfl rfl ?_
      refine S_iald X 33 rfl (by omega) (by omega) (nle rfl) dX11_player_88 ?_
      refine S_vx (S_iret X (nle rfl) (nle rfl) dX11_player_89 ⟨rfl, ⟨by omega, by omega⟩, ?_⟩)
      subst hs2
      rfl
    by_cases hs3 : y2 = 3
    · refine S_tswIn (j := 3) (tgt := 90) X dX11_player_19 hs3 rfl (by decide) (by decide) ?_
      refine S_aload_n X dX11_player_90 rfl rfl ?_
      refine S_get (v := rv (a 31)) X fgX11_35_10 19 rfl rfl dX11_player_91 ?_
      refine S_get (v := rv (a 34)) X fgX11_165_7 31 rfl rfl dX11_player_94 ?_
      refine S_iload_n X dX11_player_97 rfl rfl ?_
      refine S_iald X 34 rfl (by omega) (by omega) (nle rfl) dX11_player_98 ?_
      refine S_vx (S_iret X (nle rfl) (nle rfl) dX11_player_99 ⟨rfl, ⟨by omega, by omega⟩, ?_⟩)
      subst hs3
      rfl
    by_cases hs4 : y2 = 4
    · refine S_tswIn (j := 4) (tgt := 100) X dX11_player_19 hs4 rfl (by decide) (by decide) ?_
      refine S_aload_n X dX11_player_100 rfl rfl ?_
      refine S_get (v := rv (a 37)) X fgX11_59_10 19 rfl rfl dX11_player_101 ?_
      refine S_get (v := rv (a 39)) X fgX11_168_5 37 rfl rfl dX11_player_104 ?_
      refine S_iload_n X dX11_player_107 rfl rfl ?_
      refine S_iald X 39 rfl (by omega) (by omega) (nle rfl) dX11_player_108 ?_
      refine S_vx (S_iret X (nle rfl) (nle rfl) dX11_player_109 ⟨rfl, ⟨by omega, by omega⟩, ?_⟩)
      subst hs4
      rfl
    by_cases hs5 : y2 = 5
    · refine S_tswIn (j := 5) (tgt := 110) X dX11_player_19 hs5 rfl (by decide) (by decide) ?_
      refine S_aload_n X dX11_player_110 rfl rfl ?_
      refine S_get (v := rv (a 37)) X fgX11_59_10 19 rfl rfl dX11_player_111 ?_
      refine S_get (v := rv (a 40)) X fgX11_171_5 37 rfl rfl dX11_player_114 ?_
      refine S_iload_n X dX11_player_117 rfl rfl ?_
      refine S_iald X 40 rfl (by omega) (by omega) (nle rfl) dX11_player_118 ?_
      refine S_vx (S_iret X (nle rfl) (nle rfl) dX11_player_119 ⟨rfl, ⟨by omega, by omega⟩, ?_⟩)
      subst hs5
      rfl
    by_cases hs6 : y2 = 6
    · refine S_tswIn (j := 6) (tgt := 120) X dX11_player_19 hs6 rfl (by decide) (by decide) ?_
      refine S_aload_n X dX11_player_120 rfl rfl ?_
      refine S_get (v := rv (a 37)) X fgX11_59_10 19 rfl rfl dX11_player_121 ?_
      refine S_get (v := rv (a 41)) X fgX11_174_5 37 rfl rfl dX11_player_124 ?_
      refine S_iload_n X dX11_player_127 rfl rfl ?_
      refine S_iald X 41 rfl (by omega) (by omega) (nle rfl) dX11_player_128 ?_
      refine S_vx (S_iret X (nle rfl) (nle rfl) dX11_player_129 ⟨rfl, ⟨by omega, by omega⟩, ?_⟩)
      subst hs6
      rfl
    refine S_tswOut (tgt := 130) X dX11_player_19 r2 (by omega) (by decide) ?_
    obtain ⟨⟨s1, h1⟩, ⟨s2, h2⟩, -⟩ := id hU
    exact S_throw X hex hU hl h2 dX11_player_130 dX11_player_133 dX11_player_134 dX11_player_136 dX11_player_139 (nle rfl) (nle rfl) (nle rfl) (nle rfl) (nle rfl) (nle rfl) (fun h9 => by unfold plOk at h9; omega)
theorem lkL_pl : (Cond.methodLink RL 38 yL_player ∈ uw ∧ Cond.static yL_player ∈ uw ∧ Cond.initialized yL_player.cls ∈ uw ∧ Cond.codeWith yL_player cL_player 5 (some .int) [(0, 10, 13, 13)] ∈ uw) ∧ okD yL_player 4 := ⟨⟨List.mem_filter.mpr ⟨List.mem_append_left _ (mT5 (List.mem_of_getElem? (i := 31) rfl)), by decide +kernel⟩, List.mem_filter.mpr ⟨List.mem_append_left _ (mT5 (List.mem_of_getElem? (i := 32) rfl)), by decide +kernel⟩, List.mem_filter.mpr ⟨List.mem_append_left _ (mT1 (List.mem_of_getElem? (i := 0) rfl)), by decide +kernel⟩, List.mem_filter.mpr ⟨List.mem_append_left _ (mT5 (List.mem_of_getElem? (i := 33) rfl)), by decide +kernel⟩⟩, by decide +kernel, by decide +kernel, by decide +kernel⟩
set_option maxRecDepth 100000 in
set_option maxHeartbeats 4000000 in
theorem kL_player (l : Launch) (hl : l.stackTraces = false) (a : Nat → Nat) (v : Nat → Int) (g : Nat → Int → Int) (R : Int → Int → Int) (ds : List LwS) (ys : Nat → LwY) (o : Nat) (q : Nat → Int64) (y1 y2 : Int) (hpl : 0 ≤ v 13 ∧ v 13 ≤ 6) (r1 : inR y1) (r2 : inR y2) : AMx l yL_player cL_player 5 .int [(0, 10, 13, 13)] 7 1 6 [rv (a 19), iv y1, iv y2, rv o] (CW a v g R ds ys ++ [(o, al 1 q)]) (fun z u => (z = 1 ∧ ¬ plOk v y1 y2 ∧ u = (CW a v g R ds ys ++ [(o, al 1 q)])) ∨ (z = 0 ∧ plOk v y1 y2 ∧ u = (CW a v g R ds ys ++ [(o, al 1 (va_up q (i32 0).toNatClampNeg (i32 (pl11 v g y1 y2)).toInt64))]))) := by
  refine AMx.of rfl (nle rfl) ?_
  intro D G A p e s m args below meth c hex hU X
  refine S_aload_n X dL_player_0 rfl rfl ?_
  refine S_iconst X dL_player_1 ?_
  refine S_aload_n X dL_player_2 rfl rfl ?_
  refine S_iload_n X dL_player_3 rfl rfl ?_
  refine S_iload_n X dL_player_4 rfl rfl ?_
  refine S_callX X hU (kX11_player l hl a v g R ds ys y1 y2 hpl r1 r2) lkL_7 19 rfl rfl (avs := [iv y1, iv y2]) (rest := [iv 0, rv o]) rfl rfl (nle rfl) ⟨nle rfl, nle rfl⟩ ⟨nle rfl, nle rfl⟩ dL_player_5 ⟨0, 10, 13, 13⟩ hex (by decide) (by decide) nse_cl (fun hn q9 => ?_) (fun z u hq => ?_)
  · show S_ p l e (rmD 7 1 6) s m args below meth c _ D G A 5 _ _ 13 _ _ _
    refine S_astore X dL_player_13 (nle rfl) ?_
    refine S_iconst X dL_player_15 ?_
    refine S_perm (ws2 := CW a v g R ds ys ++ [(o, al 1 q)]) List.perm_append_comm ?_
    exact S_iret X (nle rfl) (nle rfl) dL_player_16 (Or.inl ⟨rfl, hn, rfl⟩)
  · obtain ⟨hu, hok, hz⟩ := hq
    subst hz
    subst hu
    refine S_perm (ws2 := [(o, al 1 q)] ++ CW a v g R ds ys) List.perm_append_comm ?_
    refine S_wlast X 0 rfl (by decide) (by decide) (nle rfl) dL_player_8 dL_player_9 ?_
    refine S_w (ws' := [(o, al 1 (va_up q (i32 0).toNatClampNeg (i32 (pl11 v g y1 y2)).toInt64))] ++ CW a v g R ds ys) rfl ?_
    refine S_goto (tgt := 17) X dL_player_10 (by decide) ?_
    refine S_iconst X dL_player_17 ?_
    refine S_perm (ws2 := CW a v g R ds ys ++ [(o, al 1 (va_up q (i32 0).toNatClampNeg (i32 (pl11 v g y1 y2)).toInt64))]) List.perm_append_comm ?_
    exact S_iret X (nle rfl) (nle rfl) dL_player_18 (Or.inr ⟨rfl, hok, rfl⟩)
