/-- a law's clauses laid out in the tables, from clause c on, from sign o on -/
def lwA (C V Tf Sf Ef : Int → Int) (x : Int) : Int → Int → List (List Int × List Int) → Prop
  | _, _, [] => True
  | c, o, p :: r => Tf c = o ∧ Sf c = o + (p.1.length : Int) ∧ Ef c = o + (p.1.length : Int) + (p.2.length : Int) ∧ tkA C V (x + o) p.1 ∧ tkA C V (x + (o + (p.1.length : Int))) p.2 ∧ lwA C V Tf Sf Ef x (c + 1) (o + (p.1.length : Int) + (p.2.length : Int)) r
def lawAt (C V Lk Tf Sf Ef : Int → Int) (i : Int) (cs : List (List Int × List Int)) : Prop := Lk i = (cs.length : Int) ∧ ((codesOf cs).length : Int) ≤ 160 ∧ 2 * (cs.length : Int) ≤ 160 ∧ lwA C V Tf Sf Ef (340 * i) (90 * i) 0 cs ∧ okLaw cs
theorem pP_run {e : Int → Int} {ts : List Int} (h : pP e 80 ts) (hl : (ts.length : Int) ≤ 160) : ∃ v, inB v ∧ okRn e 80 ts [] ∧ evL e ts [] = [v] := by
  obtain ⟨h1, h2, v, h3, h4⟩ := h
  have := h4 [] (by rw [List.length_nil]; omega) (fun x hx => by cases hx)
  exact ⟨v, h3, this.1, this.2⟩
theorem qP_run {e : Int → Int} {ts : List Int} (h : qP e 80 ts) (hl : (ts.length : Int) ≤ 160) : ∃ v, inB v ∧ okRn e 80 ts [] ∧ evL e ts [] = [v] := by
  obtain ⟨h1, h2, v, h3, h4⟩ := h
  have := h4 [] (by rw [List.length_nil]; omega) (fun x hx => by cases hx)
  exact ⟨v, in01 h3, this.1, this.2⟩
theorem wth_one {e : Int → Int} {p : List Int × List Int} {r : List (List Int × List Int)} {v : Int} (h : p.1 = [] ∨ ∃ u, evL e p.1 [] = [u] ∧ ¬ u = 0) (hv : evL e p.2 [] = [v]) : wth e (p :: r) = v := by
  rw [wth, hv]
  rw [if_pos]
  · rfl
  · rcases h with h | ⟨u, h, h0⟩
    · exact Or.inl h
    · exact Or.inr (by rw [h]; exact h0)
theorem wth_go {e : Int → Int} {p : List Int × List Int} {r : List (List Int × List Int)} {u : Int} (h0 : ¬ p.1 = []) (h : evL e p.1 [] = [u]) (hu : u = 0) : wth e (p :: r) = wth e r := by
  rw [wth, if_neg]
  intro q
  rcases q with q | q
  · exact h0 q
  · apply q; rw [h]; exact hu
theorem nil_len {α : Type} {l : List α} (h : (l.length : Int) = 0) : l = [] := List.length_eq_zero_iff.mp (by omega)
def aDy (ho : Int) (cs : List (List Int × List Int)) (mt pl d : Int) : Int := if ho = -1 then 0 else dyI cs mt pl d
def aDamp (ho : Int) (cs : List (List Int × List Int)) (mt pl d : Int) : Int := if 1 ≤ pl ∧ 0 ≤ d ∧ d ≤ 999 then aDy ho cs mt pl d else -1
theorem aDy_in {ho : Int} {cs : List (List Int × List Int)} {mt pl d : Int} (h : 0 ≤ d) : 0 ≤ aDy ho cs mt pl d ∧ aDy ho cs mt pl d ≤ 9 := by
  unfold aDy
  split
  · omega
  · exact dyI_in d h
theorem let_env {Le : Int → Int} {d mt pl v : Int} : ∀ j, 0 ≤ j → j ≤ 4 → uZ (uZ (uZ (uZ (uZ Le 0 d) 1 (d.tmod 7)) 2 mt) 3 pl) 4 v j = envI d mt pl v j := by
  intro j h0 h1
  unfold uZ envI
  (repeat' split) <;> first | rfl | omega
theorem inB_of {x : Int} (h : -1000000 ≤ x ∧ x ≤ 1000000) : inB x := h
theorem lenC {p : List Int × List Int} {r : List (List Int × List Int)} : (((p :: r).length : Nat) : Int) = (r.length : Int) + 1 := by rw [List.length_cons]; omega
theorem wth_in {e : Int → Int} (he : ∀ j, inB (e j)) : ∀ cs : List (List Int × List Int), (∀ p ∈ cs, gC (pP e 80) (qP e 80) p) → ((codesOf cs).length : Int) ≤ 160 → inB (wth e cs)
  | [], _, _ => by unfold wth inB; omega
  | p :: r, h, hl => by
    have h1 := codesOf_c (l := r) (p := p)
    obtain ⟨v, hv, -, hv2⟩ := pP_run (h p (by simp)).2 (by omega)
    rw [wth]
    split
    · rw [hv2]; exact hv
    · exact wth_in he r (fun q hq => h q (by simp [hq])) (by omega)
/-! a DAY -/
def drF (kd dr days sm b : Int) : Int := max 1 (min 199 (if kd.tmod 2 = 0 then b + dr * (if kd < 2 then days else sm) else b - dr * (if kd < 2 then days else sm)))
def paF (Kd Dr : Int → Int) (mt at9 wet pl : Int) (B : Int → Int) : Int → Int := fun p => if 0 ≤ p ∧ p < pl then (if p = at9 then mt else drF (Kd p) (Dr p) 1 wet (B p)) else B p
def okDy (pl mt : Int) (Kd Dr : Int → Int) : Prop := 1 ≤ mt ∧ mt ≤ 99 ∧ ∀ p, 0 ≤ p → p < pl → (0 ≤ Kd p ∧ Kd p ≤ 3) ∧ (0 ≤ Dr p ∧ Dr p ≤ 9)
theorem drF_in (kd dr days sm b : Int) : 1 ≤ drF kd dr days sm b ∧ drF kd dr days sm b ≤ 199 := by unfold drF; omega
theorem paF_in {Kd Dr B : Int → Int} {mt at9 wet pl p : Int} (hm : 1 ≤ mt ∧ mt ≤ 99) (h0 : 0 ≤ p) (h1 : p < pl) : 1 ≤ paF Kd Dr mt at9 wet pl B p ∧ paF Kd Dr mt at9 wet pl B p ≤ 199 := by
  unfold paF
  rw [if_pos ⟨h0, h1⟩]
  split
  · omega
  · exact drF_in _ _ _ _ _
theorem okS.pa {pl n ec mt at9 wet : Int} {Fo Ho B0 Lt Kd Dr : Int → Int} (h : okS pl n ec Fo Ho B0 Lt) (hm : okDy pl mt Kd Dr) : okS pl n ec Fo Ho (paF Kd Dr mt at9 wet pl B0) Lt := by
  refine ⟨h.1, h.2.1, h.2.2.1, h.2.2.2.1, h.2.2.2.2.1, h.2.2.2.2.2.1, fun x h0 h1 => ?_⟩
  obtain ⟨a, b, c, d⟩ := h.2.2.2.2.2.2 x h0 h1
  exact ⟨a, b, paF_in ⟨hm.1, hm.2.1⟩ h0 h1, d⟩
theorem mul9 {a b : Int} (ha : 0 ≤ a ∧ a ≤ 9) (hb : 0 ≤ b ∧ b ≤ 1000) : 0 ≤ a * b ∧ a * b ≤ 9000 := by
  have h1 : a * b ≤ a * 1000 := Int.mul_le_mul_of_nonneg_left hb.2 ha.1
  have h2 : 0 ≤ a * b := Int.mul_nonneg ha.1 hb.1
  omega
/-- the first least of a row, step by step -/
theorem am_step {W : Int → Int} {q be le be2 le2 v K : Int} (hq : 0 ≤ q) (h : q = 0 ∧ be = -1 ∧ le = 0 ∨ 1 ≤ q ∧ be = amI (fun a => -W a) q ∧ le = W be ∧ 0 ≤ le ∧ le ≤ K ∧ 0 ≤ be) (hc : v = W q) (hcr : 0 ≤ v ∧ v ≤ K)
    (h2 : be2 = q ∧ le2 = v ∧ (be = -1 ∨ v < le) ∨ be2 = be ∧ le2 = le ∧ ¬ (be = -1 ∨ v < le)) : q + 1 = 0 ∧ be2 = -1 ∧ le2 = 0 ∨ 1 ≤ q + 1 ∧ be2 = amI (fun a => -W a) (q + 1) ∧ le2 = W be2 ∧ 0 ≤ le2 ∧ le2 ≤ K ∧ 0 ≤ be2 := by
  refine Or.inr ⟨by omega, ?_⟩
  rcases h with ⟨a1, a2, a3⟩ | ⟨a1, a2, a3, a4, a5, a6⟩
  · rcases h2 with ⟨b1, b2, b3⟩ | ⟨b1, b2, b3⟩
    · refine ⟨?_, by rw [b2, b1, hc], by omega, by omega, by omega⟩
      rw [b1, a1]
      exact amI_1.symm
    · exact absurd (Or.inl a2) b3
  · rw [amI_S hq, ← a2, ← a3, ← hc]
    rcases h2 with ⟨b1, b2, b3⟩ | ⟨b1, b2, b3⟩
    · rw [if_pos (by omega), b2, b1]
      exact ⟨rfl, hc, by omega, by omega, by omega⟩
    · rw [if_neg (by omega), b1, b2]
      exact ⟨rfl, a3, by omega, by omega, by omega⟩
theorem dy_go {cs : List (List Int × List Int)} {mt pl d v ho : Int} (h : (d = 0 ∧ v = 0) ∨ (1 ≤ d ∧ ho ≠ -1 ∧ v = dyI cs mt pl (d - 1))) : max 0 (min 9 (wth (envI d mt pl v) cs)) = dyI cs mt pl d := by
  rcases h with ⟨a, b⟩ | ⟨a, -, b⟩
  · rw [a, b]; exact dyI_0.symm
  · have e := dyI_S (cs := cs) (mt := mt) (pl := pl) (d := d - 1) (by omega)
    rw [Int.sub_add_cancel, ← b] at e
    exact e.symm
set_option maxHeartbeats 4000000 in
set_option maxRecDepth 100000 in
theorem kX12_worthOf (l : Launch) (h0 : Nat) (f : Nat → AV) (hC : Nat) (hV : Nat) (hL : Nat) (hTf : Nat) (hSf : Nat) (hEf : Nat) (hle : Nat) (hst : Nat) (C : Int → Int) (V : Int → Int) (Lk : Int → Int) (Tf : Int → Int) (Sf : Int → Int) (Ef : Int → Int) (Le : Int → Int) (Sk : Int → Int) (n9 : Int) (cs : List (List Int × List Int)) (en : Int → Int) (hf0 : f 6 = rv hC) (hf1 : f 7 = rv hV) (hf2 : f 9 = rv hL) (hf3 : f 10 = rv hTf) (hf4 : f 11 = rv hSf) (hf5 : f 12 = rv hEf) (hf6 : f 15 = rv hle) (hf7 : f 16 = rv hst) (hn9 : 0 ≤ n9 ∧ n9 ≤ 4) (hlet : ∀ j, 0 ≤ j → j ≤ 4 → Le j = en j) (hen : ∀ j, inB (en j)) (hla : lawAt C V Lk Tf Sf Ef n9 cs) : AMi l yX12_worthOf cX12_worthOf 3 .int 4 0 0 [rv h0, iv n9] [(h0, ob 11 f), (hC, ar 1700 C), (hV, ar 1700 V), (hL, ar 5 Lk), (hTf, ar 450 Tf), (hSf, ar 450 Sf), (hEf, ar 450 Ef), (hle, ar 5 Le), (hst, ar 80 Sk)] (fun z u => ∃ S2 : Int → Int, z = wth en cs ∧ u = [(h0, ob 11 f), (hC, ar 1700 C), (hV, ar 1700 V), (hL, ar 5 Lk), (hTf, ar 450 Tf), (hSf, ar 450 Sf), (hEf, ar 450 Ef), (hle, ar 5 Le), (hst, ar 80 S2)]) := by
  refine AMi.of2 rfl (nle rfl) ?_
  intro D G A p e s m args below meth c Po hPo X
  obtain ⟨hl1, hl2, hl3, hlw0, hokl⟩ := hla
  have hg0 := hokl _ _ (clPQ (e := en) (M := 80) hen)
  refine S_bipush X dX12_worthOf_0 rfl ?_
  refine S_iload_n X dX12_worthOf_2 rfl rfl ?_
  refine S_imul X dX12_worthOf_3 ?_
  refine S_istore_n X dX12_worthOf_4 rfl (nle rfl) ?_
  have lp5_0 : ∀ (N : Nat) (c9 : Int) (o9 : Int) (cs2 : List (List Int × List Int)) (Sv : Int → Int) (L : Nat → Option AV), 90 * n9 ≤ c9 ∧ c9 + (cs2.length : Int) = 90 * n9 + Lk n9 → lwA C V Tf Sf Ef (340 * n9) c9 o9 cs2 → 0 ≤ o9 ∧ o9 + ((codesOf cs2).length : Int) ≤ 160 → (∀ p ∈ cs2, gC (pP en 80) (qP en 80) p) → wth en cs = wth en cs2 → L 0 = some (rv h0) → L 1 = some (iv n9) → L 2 = some (iv c9) → 90 * n9 + Lk n9 + 1 - c9 < (N : Int) → S_ p l e (rmD 4 0 0) s m args below meth c (MQ below (QcI D G A Po) args s 0 0 A) D G A 3 0 0 5 L [] [(h0, ob 11 f), (hC, ar 1700 C), (hV, ar 1700 V), (hL, ar 5 Lk), (hTf, ar 450 Tf), (hSf, ar 450 Sf), (hEf, ar 450 Ef), (hle, ar 5 Le), (hst, ar 80 Sv)] := by
    intro N
    induction N with
    | zero =>
      intro c9 o9 cs2 Sv L5 hc hlw ho hg hw hL5_0 hL5_1 hL5_2 hN5
      exfalso; omega
    | succ N ih5 =>
      intro c9 o9 cs2 Sv L5 hc hlw ho hg hw hL5_0 hL5_1 hL5_2 hN5
      refine S_iload_n X dX12_worthOf_5 rfl hL5_2 ?_
      refine S_bipush X dX12_worthOf_6 rfl ?_
      refine S_iload_n X dX12_worthOf_8 rfl hL5_1 ?_
      refine S_imul X dX12_worthOf_9 ?_
      refine S_aload_n X dX12_worthOf_10 rfl hL5_0 ?_
      refine S_get X fgX12_22_11 0 rfl hf2 dX12_worthOf_11 ?_
      refine S_iload_n X dX12_worthOf_14 rfl hL5_1 ?_
      refine S_iald X 3 rfl (by omega) (by omega) (nle rfl) dX12_worthOf_15 ?_
      refine S_iadd X dX12_worthOf_16 ?_
      refine S_icmp_ge (tgt := 79) X dX12_worthOf_17 (by decide) (by omega) (by omega) (fun c_1 => ?_) (fun c_1 => ?_)
      ·
        refine S_iconst X dX12_worthOf_79 ?_
        exact S_iret X (nle rfl) (nle rfl) dX12_worthOf_80 (hPo _ _ (⟨_, by rw [hw, nil_len (l := cs2) (by omega)]; rfl, rfl⟩))
      ·
        obtain ⟨pq, cs3, rfl⟩ : ∃ pq cs3, cs2 = pq :: cs3 := by
          cases cs2 with
          | nil => exfalso; simp only [List.length_nil] at hc; omega
          | cons pq cs3 => exact ⟨pq, cs3, rfl⟩
        obtain ⟨hT9, hS9, hE9, htk1, htk2, hrest⟩ := hlw
        have hln := lenC (p := pq) (r := cs3)
        have hcl := codesOf_c (l := cs3) (p := pq)
        have hgc := hg pq (by simp)
        obtain ⟨v2, hi2, hr2, he2⟩ := pP_run hgc.2 (by omega)
        refine S_aload_n X dX12_worthOf_20 rfl hL5_0 ?_
        refine S_get X fgX12_25_11 0 rfl hf3 dX12_worthOf_21 ?_
        refine S_iload_n X dX12_worthOf_24 rfl hL5_2 ?_
        refine S_iald X 4 rfl (by omega) (by omega) (nle rfl) dX12_worthOf_25 ?_
        refine S_aload_n X dX12_worthOf_26 rfl hL5_0 ?_
        refine S_get X fgX12_28_11 0 rfl hf4 dX12_worthOf_27 ?_
        refine S_iload_n X dX12_worthOf_30 rfl hL5_2 ?_
        refine S_iald X 5 rfl (by omega) (by omega) (nle rfl) dX12_worthOf_31 ?_
        refine S_icmp_eq (tgt := 55) X dX12_worthOf_32 (by decide) (by omega) (by omega) (fun c_2 => ?_) (fun c_2 => ?_)
        ·
          refine S_aload_n X dX12_worthOf_55 rfl hL5_0 ?_
          refine S_iload_n X dX12_worthOf_56 rfl hL5_1 ?_
          refine S_aload_n X dX12_worthOf_57 rfl hL5_0 ?_
          refine S_get X fgX12_28_11 0 rfl hf4 dX12_worthOf_58 ?_
          refine S_iload_n X dX12_worthOf_61 rfl hL5_2 ?_
          refine S_iald X 5 rfl (by omega) (by omega) (nle rfl) dX12_worthOf_62 ?_
          refine S_aload_n X dX12_worthOf_63 rfl hL5_0 ?_
          refine S_get X fgX12_31_11 0 rfl hf5 dX12_worthOf_64 ?_
          refine S_iload_n X dX12_worthOf_67 rfl hL5_2 ?_
          refine S_iald X 6 rfl (by omega) (by omega) (nle rfl) dX12_worthOf_68 ?_
          refine S_calli X (kX12_workOut l h0 f hC hV hle hst C V Le Sv n9 (Sf c9) (Ef c9) pq.2 en v2 hf0 hf1 hf6 hf7 (by omega) (by omega) hlet (by rw [hS9]; exact htk2) hr2 he2 hi2) (is := [0, 1, 2, 7, 8]) rfl (run_V X lkX12_212 0 rfl rfl (is := [0, 1, 2, 7, 8]) (avs := [iv n9, iv (Sf c9), iv (Ef c9)]) (rest := []) rfl rfl (nle rfl) ⟨nle rfl, nle rfl⟩ ⟨nle rfl, nle rfl⟩ dX12_worthOf_69 (by decide) rfl) (fun z_5 u_3 hp_4 => ?_)
          obtain ⟨S2_6, hz_7, hu_8⟩ := hp_4
          replace hz_7 := Eq.symm hz_7
          subst hz_7
          subst hu_8
          refine ⟨rfl, ?_⟩
          refine S_w (ws' := [(h0, ob 11 f), (hC, ar 1700 C), (hV, ar 1700 V), (hL, ar 5 Lk), (hTf, ar 450 Tf), (hSf, ar 450 Sf), (hEf, ar 450 Ef), (hle, ar 5 Le), (hst, ar 80 S2_6)]) rfl ?_
          exact S_iret X (nle rfl) (nle rfl) dX12_worthOf_72 (hPo _ _ (⟨_, by rw [hw]; exact (wth_one (Or.inl (nil_len (by omega))) he2).symm, rfl⟩))
        ·
          have hne : ¬ pq.1 = [] := fun h7 => by rw [h7, List.length_nil] at hS9; omega
          obtain ⟨v1, hi1, hr1, he1⟩ := qP_run (hgc.1.resolve_left hne) (by omega)
          have hi1r := hi1
          unfold inB at hi1r
          refine S_aload_n X dX12_worthOf_35 rfl hL5_0 ?_
          refine S_iload_n X dX12_worthOf_36 rfl hL5_1 ?_
          refine S_aload_n X dX12_worthOf_37 rfl hL5_0 ?_
          refine S_get X fgX12_25_11 0 rfl hf3 dX12_worthOf_38 ?_
          refine S_iload_n X dX12_worthOf_41 rfl hL5_2 ?_
          refine S_iald X 4 rfl (by omega) (by omega) (nle rfl) dX12_worthOf_42 ?_
          refine S_aload_n X dX12_worthOf_43 rfl hL5_0 ?_
          refine S_get X fgX12_28_11 0 rfl hf4 dX12_worthOf_44 ?_
          refine S_iload_n X dX12_worthOf_47 rfl hL5_2 ?_
          refine S_iald X 5 rfl (by omega) (by omega) (nle rfl) dX12_worthOf_48 ?_
          refine S_calli X (kX12_workOut l h0 f hC hV hle hst C V Le Sv n9 (Tf c9) (Sf c9) pq.1 en v1 hf0 hf1 hf6 hf7 (by omega) (by omega) hlet (by rw [hT9]; exact htk1) hr1 he1 hi1) (is := [0, 1, 2, 7, 8]) rfl (run_V X lkX12_212 0 rfl rfl (is := [0, 1, 2, 7, 8]) (avs := [iv n9, iv (Tf c9), iv (Sf c9)]) (rest := []) rfl rfl (nle rfl) ⟨nle rfl, nle rfl⟩ ⟨nle rfl, nle rfl⟩ dX12_worthOf_49 (by decide) rfl) (fun z_11 u_9 hp_10 => ?_)
          obtain ⟨S2_12, hz_13, hu_14⟩ := hp_10
          replace hz_13 := Eq.symm hz_13
          subst hz_13
          subst hu_14
          refine ⟨rfl, ?_⟩
          refine S_w (ws' := [(h0, ob 11 f), (hC, ar 1700 C), (hV, ar 1700 V), (hL, ar 5 Lk), (hTf, ar 450 Tf), (hSf, ar 450 Sf), (hEf, ar 450 Ef), (hle, ar 5 Le), (hst, ar 80 S2_12)]) rfl ?_
          refine S_if_eq (tgt := 73) X dX12_worthOf_52 (by decide) (by omega) (fun c_15 => ?_) (fun c_15 => ?_)
          ·
            refine S_iinc X dX12_worthOf_73 (nle rfl) hL5_2 ?_
            refine S_goto (tgt := 5) X dX12_worthOf_76 (by decide) ?_
            exact ih5 (c9 + 1) _ _ S2_12 _ (by omega) (hrest) (by omega) (fun p hp => hg p (by simp [hp])) (by rw [hw]; exact wth_go hne he1 (by assumption)) hL5_0 hL5_1 rfl (by omega)
          ·
            refine S_aload_n X dX12_worthOf_55 rfl hL5_0 ?_
            refine S_iload_n X dX12_worthOf_56 rfl hL5_1 ?_
            refine S_aload_n X dX12_worthOf_57 rfl hL5_0 ?_
            refine S_get X fgX12_28_11 0 rfl hf4 dX12_worthOf_58 ?_
            refine S_iload_n X dX12_worthOf_61 rfl hL5_2 ?_
            refine S_iald X 5 rfl (by omega) (by omega) (nle rfl) dX12_worthOf_62 ?_
            refine S_aload_n X dX12_worthOf_63 rfl hL5_0 ?_
            refine S_get X fgX12_31_11 0 rfl hf5 dX12_worthOf_64 ?_
            refine S_iload_n X dX12_worthOf_67 rfl hL5_2 ?_
            refine S_iald X 6 rfl (by omega) (by omega) (nle rfl) dX12_worthOf_68 ?_
            refine S_calli X (kX12_workOut l h0 f hC hV hle hst C V Le S2_12 n9 (Sf c9) (Ef c9) pq.2 en v2 hf0 hf1 hf6 hf7 (by omega) (by omega) hlet (by rw [hS9]; exact htk2) hr2 he2 hi2) (is := [0, 1, 2, 7, 8]) rfl (run_V X lkX12_212 0 rfl rfl (is := [0, 1, 2, 7, 8]) (avs := [iv n9, iv (Sf c9), iv (Ef c9)]) (rest := []) rfl rfl (nle rfl) ⟨nle rfl, nle rfl⟩ ⟨nle rfl, nle rfl⟩ dX12_worthOf_69 (by decide) rfl) (fun z_18 u_16 hp_17 => ?_)
            obtain ⟨S2_19, hz_20, hu_21⟩ := hp_17
            replace hz_20 := Eq.symm hz_20
            subst hz_20
            subst hu_21
            refine ⟨rfl, ?_⟩
            refine S_w (ws' := [(h0, ob 11 f), (hC, ar 1700 C), (hV, ar 1700 V), (hL, ar 5 Lk), (hTf, ar 450 Tf), (hSf, ar 450 Sf), (hEf, ar 450 Ef), (hle, ar 5 Le), (hst, ar 80 S2_19)]) rfl ?_
            exact S_iret X (nle rfl) (nle rfl) dX12_worthOf_72 (hPo _ _ (⟨_, by rw [hw]; exact (wth_one (Or.inr ⟨_, he1, by assumption⟩) he2).symm, rfl⟩))
  exact lp5_0 (Int.toNat (90 * n9 + Lk n9 + 1 - (90 * n9)) + 1) (90 * n9) _ _ Sk _ (by omega) (hlw0) (⟨Int.le_refl 0, by omega⟩) (hg0) (rfl) rfl rfl rfl (by omega)
set_option maxHeartbeats 4000000 in
set_option maxRecDepth 100000 in
theorem kX12_dampOf (l : Launch) (h0 : Nat) (f : Nat → AV) (pl : Int) (mt : Int) (ho : Int) (hC : Nat) (hV : Nat) (hL : Nat) (hTf : Nat) (hSf : Nat) (hEf : Nat) (hle : Nat) (hst : Nat) (C : Int → Int) (V : Int → Int) (Lk : Int → Int) (Tf : Int → Int) (Sf : Int → Int) (Ef : Int → Int) (Le : Int → Int) (Sk : Int → Int) (cs : List (List Int × List Int)) (dd : Int) (hf0 : f 6 = rv hC) (hf1 : f 7 = rv hV) (hf2 : f 9 = rv hL) (hf3 : f 10 = rv hTf) (hf4 : f 11 = rv hSf) (hf5 : f 12 = rv hEf) (hf6 : f 15 = rv hle) (hf7 : f 16 = rv hst) (hf8 : f 21 = iv pl) (hf9 : f 22 = iv mt) (hf10 : f 27 = iv ho) (hpm : (0 ≤ pl ∧ pl ≤ 6) ∧ 1 ≤ mt ∧ mt ≤ 99) (hho : ho = -1 ∨ (0 ≤ ho ∧ ho ≤ 3 ∧ lawAt C V Lk Tf Sf Ef ho cs)) (hdd : 0 ≤ dd ∧ dd ≤ 1100) : AMi l yX12_dampOf cX12_dampOf 4 .int 5 0 0 [rv h0, iv dd] [(h0, ob 11 f), (hC, ar 1700 C), (hV, ar 1700 V), (hL, ar 5 Lk), (hTf, ar 450 Tf), (hSf, ar 450 Sf), (hEf, ar 450 Ef), (hle, ar 5 Le), (hst, ar 80 Sk)] (fun z u => ∃ L2 : Int → Int, ∃ S2 : Int → Int, z = aDy ho cs mt pl dd ∧ u = [(h0, ob 11 f), (hC, ar 1700 C), (hV, ar 1700 V), (hL, ar 5 Lk), (hTf, ar 450 Tf), (hSf, ar 450 Sf), (hEf, ar 450 Ef), (hle, ar 5 L2), (hst, ar 80 S2)]) := by
  refine AMi.of2 rfl (nle rfl) ?_
  intro D G A p e s m args below meth c Po hPo X
  refine S_iconst X dX12_dampOf_0 ?_
  refine S_istore_n X dX12_dampOf_1 rfl (nle rfl) ?_
  refine S_iconst X dX12_dampOf_2 ?_
  refine S_istore_n X dX12_dampOf_3 rfl (nle rfl) ?_
  have lp4_0 : ∀ (N : Nat) (d9 : Int) (v : Int) (Lv : Int → Int) (Sv : Int → Int) (L : Nat → Option AV), 0 ≤ d9 ∧ d9 ≤ dd + 1 → 0 ≤ v ∧ v ≤ 9 → (d9 = 0 ∧ v = 0) ∨ (1 ≤ d9 ∧ ho ≠ -1 ∧ v = dyI cs mt pl (d9 - 1)) → L 0 = some (rv h0) → L 1 = some (iv dd) → L 2 = some (iv v) → L 3 = some (iv d9) → dd + 2 - d9 < (N : Int) → S_ p l e (rmD 5 0 0) s m args below meth c (MQ below (QcI D G A Po) args s 0 0 A) D G A 4 0 0 4 L [] [(h0, ob 11 f), (hC, ar 1700 C), (hV, ar 1700 V), (hL, ar 5 Lk), (hTf, ar 450 Tf), (hSf, ar 450 Sf), (hEf, ar 450 Ef), (hle, ar 5 Lv), (hst, ar 80 Sv)] := by
    intro N
    induction N with
    | zero =>
      intro d9 v Lv Sv L4 hd hvr hv hL4_0 hL4_1 hL4_2 hL4_3 hN4
      exfalso; omega
    | succ N ih4 =>
      intro d9 v Lv Sv L4 hd hvr hv hL4_0 hL4_1 hL4_2 hL4_3 hN4
      refine S_iload_n X dX12_dampOf_4 rfl hL4_3 ?_
      refine S_iload_n X dX12_dampOf_5 rfl hL4_1 ?_
      refine S_icmp_gt (tgt := 85) X dX12_dampOf_6 (by decide) (by omega) (by omega) (fun c_1 => ?_) (fun c_1 => ?_)
      ·
        refine S_iload_n X dX12_dampOf_85 rfl hL4_2 ?_
        exact S_iret X (nle rfl) (nle rfl) dX12_dampOf_86 (hPo _ _ (⟨_, _, by unfold aDy; first | (rw [if_pos (by omega)]; omega) | (rw [if_neg (by omega)]; rcases hv with h9 | h9; (exfalso; omega); rw [h9.2.2, show d9 - 1 = dd by omega]), rfl⟩))
      ·
        refine S_aload_n X dX12_dampOf_9 rfl hL4_0 ?_
        refine S_get X fgX12_52_11 0 rfl hf10 dX12_dampOf_10 ?_
        refine S_iconst X dX12_dampOf_13 ?_
        refine S_icmp_eq (tgt := 85) X dX12_dampOf_14 (by decide) (by omega) (by decide) (fun c_2 => ?_) (fun c_2 => ?_)
        ·
          refine S_iload_n X dX12_dampOf_85 rfl hL4_2 ?_
          exact S_iret X (nle rfl) (nle rfl) dX12_dampOf_86 (hPo _ _ (⟨_, _, by unfold aDy; first | (rw [if_pos (by omega)]; omega) | (rw [if_neg (by omega)]; rcases hv with h9 | h9; (exfalso; omega); rw [h9.2.2, show d9 - 1 = dd by omega]), rfl⟩))
        ·
          refine S_aload_n X dX12_dampOf_17 rfl hL4_0 ?_
          refine S_get X fgX12_34_11 0 rfl hf6 dX12_dampOf_18 ?_
          refine S_iconst X dX12_dampOf_21 ?_
          refine S_iload_n X dX12_dampOf_22 rfl hL4_3 ?_
          refine S_iast X 7 rfl (by omega) (by omega) (nle rfl) dX12_dampOf_23 ?_
          refine S_w (ws' := [(h0, ob 11 f), (hC, ar 1700 C), (hV, ar 1700 V), (hL, ar 5 Lk), (hTf, ar 450 Tf), (hSf, ar 450 Sf), (hEf, ar 450 Ef), (hle, ar 5 (uZ Lv 0 d9)), (hst, ar 80 Sv)]) rfl ?_
          refine S_aload_n X dX12_dampOf_24 rfl hL4_0 ?_
          refine S_get X fgX12_34_11 0 rfl hf6 dX12_dampOf_25 ?_
          refine S_iconst X dX12_dampOf_28 ?_
          refine S_iload_n X dX12_dampOf_29 rfl hL4_3 ?_
          refine S_bipush X dX12_dampOf_30 rfl ?_
          refine S_irem X (by omega) (by decide) (by decide) dX12_dampOf_32 ?_
          refine S_iast X 7 rfl (by omega) (by omega) (nle rfl) dX12_dampOf_33 ?_
          refine S_w (ws' := [(h0, ob 11 f), (hC, ar 1700 C), (hV, ar 1700 V), (hL, ar 5 Lk), (hTf, ar 450 Tf), (hSf, ar 450 Sf), (hEf, ar 450 Ef), (hle, ar 5 (uZ (uZ Lv 0 d9) 1 (d9.tmod 7))), (hst, ar 80 Sv)]) rfl ?_
          refine S_aload_n X dX12_dampOf_34 rfl hL4_0 ?_
          refine S_get X fgX12_34_11 0 rfl hf6 dX12_dampOf_35 ?_
          refine S_iconst X dX12_dampOf_38 ?_
          refine S_aload_n X dX12_dampOf_39 rfl hL4_0 ?_
          refine S_get X fgX12_256_11 0 rfl hf9 dX12_dampOf_40 ?_
          refine S_iast X 7 rfl (by omega) (by omega) (nle rfl) dX12_dampOf_43 ?_
          refine S_w (ws' := [(h0, ob 11 f), (hC, ar 1700 C), (hV, ar 1700 V), (hL, ar 5 Lk), (hTf, ar 450 Tf), (hSf, ar 450 Sf), (hEf, ar 450 Ef), (hle, ar 5 (uZ (uZ (uZ Lv 0 d9) 1 (d9.tmod 7)) 2 mt)), (hst, ar 80 Sv)]) rfl ?_
          refine S_aload_n X dX12_dampOf_44 rfl hL4_0 ?_
          refine S_get X fgX12_34_11 0 rfl hf6 dX12_dampOf_45 ?_
          refine S_iconst X dX12_dampOf_48 ?_
          refine S_aload_n X dX12_dampOf_49 rfl hL4_0 ?_
          refine S_get X fgX12_253_11 0 rfl hf8 dX12_dampOf_50 ?_
          refine S_iast X 7 rfl (by omega) (by omega) (nle rfl) dX12_dampOf_53 ?_
          refine S_w (ws' := [(h0, ob 11 f), (hC, ar 1700 C), (hV, ar 1700 V), (hL, ar 5 Lk), (hTf, ar 450 Tf), (hSf, ar 450 Sf), (hEf, ar 450 Ef), (hle, ar 5 (uZ (uZ (uZ (uZ Lv 0 d9) 1 (d9.tmod 7)) 2 mt) 3 pl)), (hst, ar 80 Sv)]) rfl ?_
          refine S_aload_n X dX12_dampOf_54 rfl hL4_0 ?_
          refine S_get X fgX12_34_11 0 rfl hf6 dX12_dampOf_55 ?_
          refine S_iconst X dX12_dampOf_58 ?_
          refine S_iload_n X dX12_dampOf_59 rfl hL4_2 ?_
          refine S_iast X 7 rfl (by omega) (by omega) (nle rfl) dX12_dampOf_60 ?_
          refine S_w (ws' := [(h0, ob 11 f), (hC, ar 1700 C), (hV, ar 1700 V), (hL, ar 5 Lk), (hTf, ar 450 Tf), (hSf, ar 450 Sf), (hEf, ar 450 Ef), (hle, ar 5 (uZ (uZ (uZ (uZ (uZ Lv 0 d9) 1 (d9.tmod 7)) 2 mt) 3 pl) 4 v)), (hst, ar 80 Sv)]) rfl ?_
          have hhl := hho.resolve_left (by omega)
          have hen9 := envI_in (d := d9) (mt := mt) (pl := pl) (o := v) (inB_of (by omega)) (inB_of (by omega)) (inB_of (by omega)) (inB_of (by omega))
          have hwi := wth_in hen9 cs (hhl.2.2.2.2.2.2 _ _ (clPQ hen9)) hhl.2.2.2.1
          unfold inB at hwi
          refine S_iconst X dX12_dampOf_61 ?_
          refine S_bipush X dX12_dampOf_62 rfl ?_
          refine S_aload_n X dX12_dampOf_64 rfl hL4_0 ?_
          refine S_aload_n X dX12_dampOf_65 rfl hL4_0 ?_
          refine S_get X fgX12_52_11 0 rfl hf10 dX12_dampOf_66 ?_
          refine S_calli X (kX12_worthOf l h0 f hC hV hL hTf hSf hEf hle hst C V Lk Tf Sf Ef (uZ (uZ (uZ (uZ (uZ Lv 0 d9) 1 (d9.tmod 7)) 2 mt) 3 pl) 4 v) Sv ho cs (envI d9 mt pl v) hf0 hf1 hf2 hf3 hf4 hf5 hf6 hf7 (by omega) let_env hen9 hhl.2.2) (is := [0, 1, 2, 3, 4, 5, 6, 7, 8]) rfl (run_V X lkX12_290 0 rfl rfl (is := [0, 1, 2, 3, 4, 5, 6, 7, 8]) (avs := [iv ho]) (rest := [iv 9, iv 0]) rfl rfl (nle rfl) ⟨nle rfl, nle rfl⟩ ⟨nle rfl, nle rfl⟩ dX12_dampOf_69 (by decide) rfl) (fun z_5 u_3 hp_4 => ?_)
          obtain ⟨S2_6, hz_7, hu_8⟩ := hp_4
          subst hz_7
          subst hu_8
          refine ⟨rfl, ?_⟩
          refine S_w (ws' := [(h0, ob 11 f), (hC, ar 1700 C), (hV, ar 1700 V), (hL, ar 5 Lk), (hTf, ar 450 Tf), (hSf, ar 450 Sf), (hEf, ar 450 Ef), (hle, ar 5 (uZ (uZ (uZ (uZ (uZ Lv 0 d9) 1 (d9.tmod 7)) 2 mt) 3 pl) 4 v)), (hst, ar 80 S2_6)]) rfl ?_
          refine S_mmin X lkX12_293 rfl rfl (by decide) (by omega) (nle rfl) (nle rfl) (nle rfl) (nle rfl) dX12_dampOf_72 ?_
          refine S_mmax X lkX12_295 rfl rfl (by decide) (by omega) (nle rfl) (nle rfl) (nle rfl) (nle rfl) dX12_dampOf_75 ?_
          refine S_istore_n X dX12_dampOf_78 rfl (nle rfl) ?_
          refine S_iinc X dX12_dampOf_79 (nle rfl) hL4_3 ?_
          refine S_goto (tgt := 4) X dX12_dampOf_82 (by decide) ?_
          exact ih4 (d9 + 1) (max 0 (min 9 (wth (envI d9 mt pl v) cs))) (uZ (uZ (uZ (uZ (uZ Lv 0 d9) 1 (d9.tmod 7)) 2 mt) 3 pl) 4 v) S2_6 _ (by omega) (by omega) (Or.inr ⟨by omega, by omega, by rw [Int.add_sub_cancel]; exact dy_go hv⟩) hL4_0 hL4_1 rfl rfl (by omega)
  exact lp4_0 (Int.toNat (dd + 2 - 0) + 1) 0 0 Le Sk _ (by omega) (by omega) (Or.inl ⟨rfl, rfl⟩) rfl rfl rfl rfl (by omega)
set_option maxHeartbeats 4000000 in
set_option maxRecDepth 100000 in
theorem kX12_damp (l : Launch) (h0 : Nat) (f : Nat → AV) (pl : Int) (mt : Int) (ho : Int) (hC : Nat) (hV : Nat) (hL : Nat) (hTf : Nat) (hSf : Nat) (hEf : Nat) (hle : Nat) (hst : Nat) (C : Int → Int) (V : Int → Int) (Lk : Int → Int) (Tf : Int → Int) (Sf : Int → Int) (Ef : Int → Int) (Le : Int → Int) (Sk : Int → Int) (cs : List (List Int × List Int)) (dd : Int) (hf0 : f 6 = rv hC) (hf1 : f 7 = rv hV) (hf2 : f 9 = rv hL) (hf3 : f 10 = rv hTf) (hf4 : f 11 = rv hSf) (hf5 : f 12 = rv hEf) (hf6 : f 15 = rv hle) (hf7 : f 16 = rv hst) (hf8 : f 21 = iv pl) (hf9 : f 22 = iv mt) (hf10 : f 27 = iv ho) (hpm : (0 ≤ pl ∧ pl ≤ 6) ∧ 1 ≤ mt ∧ mt ≤ 99) (hho : ho = -1 ∨ (0 ≤ ho ∧ ho ≤ 3 ∧ lawAt C V Lk Tf Sf Ef ho cs)) (hx_d : inR dd) : AMi l yX12_damp cX12_damp 2 .int 6 0 0 [rv h0, iv dd] [(h0, ob 11 f), (hC, ar 1700 C), (hV, ar 1700 V), (hL, ar 5 Lk), (hTf, ar 450 Tf), (hSf, ar 450 Sf), (hEf, ar 450 Ef), (hle, ar 5 Le), (hst, ar 80 Sk)] (fun z u => ∃ L2 : Int → Int, ∃ S2 : Int → Int, z = aDamp ho cs mt pl dd ∧ u = [(h0, ob 11 f), (hC, ar 1700 C), (hV, ar 1700 V), (hL, ar 5 Lk), (hTf, ar 450 Tf), (hSf, ar 450 Sf), (hEf, ar 450 Ef), (hle, ar 5 L2), (hst, ar 80 S2)]) := by
  refine AMi.of2 rfl (nle rfl) ?_
  intro D G A p e s m args below meth c Po hPo X
  refine S_aload_n X dX12_damp_0 rfl rfl ?_
  refine S_get X fgX12_253_11 0 rfl hf8 dX12_damp_1 ?_
  refine S_if_le (tgt := 26) X dX12_damp_4 (by decide) (by omega) (fun c_1 => ?_) (fun c_1 => ?_)
  ·
    refine S_iconst X dX12_damp_26 ?_
    exact S_iret X (nle rfl) (nle rfl) dX12_damp_27 (hPo _ _ (⟨_, _, by unfold aDamp; rw [if_neg (by omega)], rfl⟩))
  ·
    refine S_iload_n X dX12_damp_7 rfl rfl ?_
    refine S_iconst X dX12_damp_8 ?_
    refine S_sipush X dX12_damp_9 rfl ?_
    refine S_calli X (kX12_in l dd 0 999 (by omega) (by omega) (by omega)) (is := []) rfl (run_S X lkX12_216 (is := []) (avs := [iv dd, iv 0, iv 999]) (rest := []) rfl rfl (nle rfl) ⟨nle rfl, nle rfl⟩ ⟨nle rfl, nle rfl⟩ dX12_damp_12 (by decide) rfl) (fun z_4 u_2 hp_3 => ?_)
    rcases hp_3 with ⟨hz_5, hu_6, hq_7⟩ | ⟨hz_8, hu_9, hq_10⟩
    ·
      subst hz_5
      subst hu_6
      refine ⟨rfl, ?_⟩
      refine S_w (ws' := [(h0, ob 11 f), (hC, ar 1700 C), (hV, ar 1700 V), (hL, ar 5 Lk), (hTf, ar 450 Tf), (hSf, ar 450 Sf), (hEf, ar 450 Ef), (hle, ar 5 Le), (hst, ar 80 Sk)]) rfl ?_
      refine S_if_eq (tgt := 26) X dX12_damp_15 (by decide) (by decide) (fun _ => ?_) (fun h9 => absurd h9 (by decide))
      refine S_iconst X dX12_damp_26 ?_
      exact S_iret X (nle rfl) (nle rfl) dX12_damp_27 (hPo _ _ (⟨_, _, by unfold aDamp; rw [if_neg (by omega)], rfl⟩))
    ·
      subst hz_8
      subst hu_9
      refine ⟨rfl, ?_⟩
      refine S_w (ws' := [(h0, ob 11 f), (hC, ar 1700 C), (hV, ar 1700 V), (hL, ar 5 Lk), (hTf, ar 450 Tf), (hSf, ar 450 Sf), (hEf, ar 450 Ef), (hle, ar 5 Le), (hst, ar 80 Sk)]) rfl ?_
      refine S_if_eq (tgt := 26) X dX12_damp_15 (by decide) (by decide) (fun h9 => absurd h9 (by decide)) (fun _ => ?_)
      refine S_aload_n X dX12_damp_18 rfl rfl ?_
      refine S_iload_n X dX12_damp_19 rfl rfl ?_
      refine S_calli X (kX12_dampOf l h0 f pl mt ho hC hV hL hTf hSf hEf hle hst C V Lk Tf Sf Ef Le Sk cs dd hf0 hf1 hf2 hf3 hf4 hf5 hf6 hf7 hf8 hf9 hf10 (by omega) (by omega) (by omega)) (is := [0, 1, 2, 3, 4, 5, 6, 7, 8]) rfl (run_V X lkX12_297 0 rfl rfl (is := [0, 1, 2, 3, 4, 5, 6, 7, 8]) (avs := [iv dd]) (rest := []) rfl rfl (nle rfl) ⟨nle rfl, nle rfl⟩ ⟨nle rfl, nle rfl⟩ dX12_damp_20 (by decide) rfl) (fun z_15 u_13 hp_14 => ?_)
      obtain ⟨L2_16, S2_17, hz_18, hu_19⟩ := hp_14
      subst hz_18
      subst hu_19
      refine ⟨rfl, ?_⟩
      refine S_w (ws' := [(h0, ob 11 f), (hC, ar 1700 C), (hV, ar 1700 V), (hL, ar 5 Lk), (hTf, ar 450 Tf), (hSf, ar 450 Sf), (hEf, ar 450 Ef), (hle, ar 5 L2_16), (hst, ar 80 S2_17)]) rfl ?_
      refine S_goto (tgt := 27) X dX12_damp_23 (by decide) ?_
      exact S_iret X (nle rfl) (nle rfl) dX12_damp_27 (hPo _ _ (⟨_, _, by unfold aDamp; rw [if_pos (by omega)], rfl⟩))
set_option maxHeartbeats 4000000 in
set_option maxRecDepth 100000 in
theorem kX12_pass (l : Launch) (h0 : Nat) (f : Nat → AV) (pl : Int) (mt : Int) (hQ : Nat) (hB : Nat) (Q : Int → Int) (B : Int → Int) (at9 : Int) (wet : Int) (hf0 : f 21 = iv pl) (hf1 : f 20 = rv hQ) (hf2 : f 23 = rv hB) (hf3 : f 22 = iv mt) (hpl : 0 ≤ pl ∧ pl ≤ 6) (hod : okDy pl mt (c5 Q 2) (c5 Q 1)) (hB1 : ∀ p, 0 ≤ p → p < pl → 1 ≤ B p ∧ B p ≤ 199) (hwet : 0 ≤ wet ∧ wet ≤ 9) (hat : -1 ≤ at9 ∧ at9 < pl) : AMv l yX12_pass cX12_pass 7 1 0 0 [rv h0, iv at9, iv wet] [(h0, ob 11 f), (hQ, ar 30 Q), (hB, ar 6 B)] (fun u => ∃ B2 : Int → Int, u = [(h0, ob 11 f), (hQ, ar 30 Q), (hB, ar 6 B2)] ∧ B2 = (paF (c5 Q 2) (c5 Q 1) mt at9 wet pl B)) := by
  refine AMv.of2 rfl (nle rfl) ?_
  intro D G A p e s m args below meth c Po hPo hnm X
  refine S_iconst X dX12_pass_0 ?_
  refine S_istore_n X dX12_pass_1 rfl (nle rfl) ?_
  have lp2_0 : ∀ (N : Nat) (i : Int) (Bv : Int → Int) (L : Nat → Option AV), 0 ≤ i ∧ i ≤ pl → (∀ x, 0 ≤ x → x < i → Bv x = (paF (c5 Q 2) (c5 Q 1) mt at9 wet pl B) x) → (∀ x, x < 0 ∨ i ≤ x → Bv x = B x) → L 0 = some (rv h0) → L 1 = some (iv at9) → L 2 = some (iv wet) → L 3 = some (iv i) → pl + 1 - i < (N : Int) → S_ p l e (rmD 1 0 0) s m args below meth c (MQ below (QcV D G A Po) args s 0 0 A) D G A 7 0 0 2 L [] [(h0, ob 11 f), (hQ, ar 30 Q), (hB, ar 6 Bv)] := by
    intro N
    induction N with
    | zero =>
      intro i Bv L2 hi hk hk2 hL2_0 hL2_1 hL2_2 hL2_3 hN2
      exfalso; omega
    | succ N ih2 =>
      intro i Bv L2 hi hk hk2 hL2_0 hL2_1 hL2_2 hL2_3 hN2
      refine S_iload_n X dX12_pass_2 rfl hL2_3 ?_
      refine S_aload_n X dX12_pass_3 rfl hL2_0 ?_
      refine S_get X fgX12_253_11 0 rfl hf0 dX12_pass_4 ?_
      refine S_icmp_ge (tgt := 103) X dX12_pass_7 (by decide) (by omega) (by omega) (fun c_1 => ?_) (fun c_1 => ?_)
      ·
        exact S_vret X (nle rfl) (nle rfl) dX12_pass_103 (hPo _ (⟨_, rfl, by funext x; by_cases h9 : 0 ≤ x ∧ x < pl; exact hk x h9.1 (by omega); rw [hk2 x (by omega)]; unfold paF; rw [if_neg h9]⟩))
      ·
        have hod9 := hod.2.2 i (by omega) (by omega)
        unfold c5 at hod9
        have hmu := mul9 hod9.2 (b := wet) (by omega)
        have hbb := hB1 i (by omega) (by omega)
        have hbv := hk2 i (by omega)
        have hpv : (paF (c5 Q 2) (c5 Q 1) mt at9 wet pl B) i = if i = at9 then mt else drF (c5 Q 2 i) (c5 Q 1 i) 1 wet (B i) := if_pos ⟨by omega, by omega⟩
        refine S_aload_n X dX12_pass_10 rfl hL2_0 ?_
        refine S_iload_n X dX12_pass_11 rfl hL2_3 ?_
        refine S_iconst X dX12_pass_12 ?_
        refine S_calli X (kX12_of l h0 f hQ Q i 2 hf1 (by omega) (by omega)) (is := [0, 1]) rfl (run_V X lkX12_284 0 rfl rfl (is := [0, 1]) (avs := [iv i, iv 2]) (rest := []) rfl rfl (nle rfl) ⟨nle rfl, nle rfl⟩ ⟨nle rfl, nle rfl⟩ dX12_pass_13 (by decide) rfl) (fun z_4 u_2 hp_3 => ?_)
        obtain ⟨hz_5, hu_6⟩ := hp_3
        subst hz_5
        subst hu_6
        refine ⟨rfl, ?_⟩
        refine S_w (ws' := [(h0, ob 11 f), (hQ, ar 30 Q), (hB, ar 6 Bv)]) rfl ?_
        refine S_istore X dX12_pass_16 (nle rfl) ?_
        refine S_iload X dX12_pass_18 rfl ?_
        refine S_iconst X dX12_pass_20 ?_
        refine S_icmp_ge (tgt := 33) X dX12_pass_21 (by decide) (by omega) (by decide) (fun c_7 => ?_) (fun c_7 => ?_)
        ·
          refine S_aload_n X dX12_pass_33 rfl hL2_0 ?_
          refine S_iload_n X dX12_pass_34 rfl hL2_3 ?_
          refine S_iconst X dX12_pass_35 ?_
          refine S_calli X (kX12_of l h0 f hQ Q i 1 hf1 (by omega) (by omega)) (is := [0, 1]) rfl (run_V X lkX12_284 0 rfl rfl (is := [0, 1]) (avs := [iv i, iv 1]) (rest := []) rfl rfl (nle rfl) ⟨nle rfl, nle rfl⟩ ⟨nle rfl, nle rfl⟩ dX12_pass_36 (by decide) rfl) (fun z_10 u_8 hp_9 => ?_)
          obtain ⟨hz_11, hu_12⟩ := hp_9
          subst hz_11
          subst hu_12
          refine ⟨rfl, ?_⟩
          refine S_w (ws' := [(h0, ob 11 f), (hQ, ar 30 Q), (hB, ar 6 Bv)]) rfl ?_
          refine S_iload_n X dX12_pass_39 rfl hL2_2 ?_
          refine S_imul X dX12_pass_40 ?_
          refine S_istore X dX12_pass_41 (nle rfl) ?_
          refine S_aload_n X dX12_pass_43 rfl hL2_0 ?_
          refine S_get X fgX12_46_11 0 rfl hf2 dX12_pass_44 ?_
          refine S_iload_n X dX12_pass_47 rfl hL2_3 ?_
          refine S_iald X 2 rfl (by omega) (by omega) (nle rfl) dX12_pass_48 ?_
          refine S_iload X dX12_pass_49 rfl ?_
          refine S_iconst X dX12_pass_51 ?_
          have htm1 := Int.tmod_lt_of_pos (Q (5 * i + 2)) (b := 2) (by decide)
          have htm2 := Int.lt_tmod_of_pos (Q (5 * i + 2)) (b := 2) (by decide)
          refine S_irem X (by omega) (by decide) (by decide) dX12_pass_52 ?_
          refine S_if_ne (tgt := 61) X dX12_pass_53 (by decide) (by omega) (fun c_13 => ?_) (fun c_13 => ?_)
          ·
            refine S_iload X dX12_pass_61 rfl ?_
            refine S_ineg X dX12_pass_63 ?_
            refine S_iadd X dX12_pass_64 ?_
            refine S_istore X dX12_pass_65 (nle rfl) ?_
            refine S_aload_n X dX12_pass_67 rfl hL2_0 ?_
            refine S_get X fgX12_46_11 0 rfl hf2 dX12_pass_68 ?_
            refine S_iload_n X dX12_pass_71 rfl hL2_3 ?_
            refine S_iload_n X dX12_pass_72 rfl hL2_3 ?_
            refine S_iload_n X dX12_pass_73 rfl hL2_1 ?_
            refine S_icmp_ne (tgt := 84) X dX12_pass_74 (by decide) (by omega) (by omega) (fun c_14 => ?_) (fun c_14 => ?_)
            ·
              refine S_iconst X dX12_pass_84 ?_
              refine S_sipush X dX12_pass_85 rfl ?_
              refine S_iload X dX12_pass_88 rfl ?_
              refine S_mmin X lkX12_293 rfl rfl (by decide) (by omega) (nle rfl) (nle rfl) (nle rfl) (nle rfl) dX12_pass_90 ?_
              refine S_mmax X lkX12_295 rfl rfl (by decide) (by omega) (nle rfl) (nle rfl) (nle rfl) (nle rfl) dX12_pass_93 ?_
              refine S_iast X 2 rfl (by omega) (by omega) (nle rfl) dX12_pass_96 ?_
              refine S_w (ws' := [(h0, ob 11 f), (hQ, ar 30 Q), (hB, ar 6 (uZ Bv i (max 1 (min 199 ((Bv i) + (-((Q (5 * i + 1)) * wet)))))))]) rfl ?_
              refine S_iinc X dX12_pass_97 (nle rfl) hL2_3 ?_
              refine S_goto (tgt := 2) X dX12_pass_100 (by decide) ?_
              exact ih2 (i + 1) (uZ Bv i (max 1 (min 199 ((Bv i) + (-((Q (5 * i + 1)) * wet)))))) _ (by omega) (fun x h0 h1 => (by omega : x < i ∨ x = i).elim (fun q9 => by rw [uZ_ne (by omega)]; exact hk x h0 q9) (fun q9 => by rw [q9, uZ_at, hpv]; first | (rw [if_pos (by omega)]) | (rw [if_neg (by omega)]; unfold drF c5; (repeat' split) <;> first | omega | (exfalso; omega)))) (fun x h => by rw [uZ_ne (by omega)]; exact hk2 x (by omega)) hL2_0 hL2_1 hL2_2 rfl (by omega)
            ·
              refine S_aload_n X dX12_pass_77 rfl hL2_0 ?_
              refine S_get X fgX12_256_11 0 rfl hf3 dX12_pass_78 ?_
              refine S_goto (tgt := 96) X dX12_pass_81 (by decide) ?_
              refine S_iast X 2 rfl (by omega) (by omega) (nle rfl) dX12_pass_96 ?_
              refine S_w (ws' := [(h0, ob 11 f), (hQ, ar 30 Q), (hB, ar 6 (uZ Bv i mt))]) rfl ?_
              refine S_iinc X dX12_pass_97 (nle rfl) hL2_3 ?_
              refine S_goto (tgt := 2) X dX12_pass_100 (by decide) ?_
              exact ih2 (i + 1) (uZ Bv i mt) _ (by omega) (fun x h0 h1 => (by omega : x < i ∨ x = i).elim (fun q9 => by rw [uZ_ne (by omega)]; exact hk x h0 q9) (fun q9 => by rw [q9, uZ_at, hpv]; first | (rw [if_pos (by omega)]) | (rw [if_neg (by omega)]; unfold drF c5; (repeat' split) <;> first | omega | (exfalso; omega)))) (fun x h => by rw [uZ_ne (by omega)]; exact hk2 x (by omega)) hL2_0 hL2_1 hL2_2 rfl (by omega)
          ·
            refine S_iload X dX12_pass_56 rfl ?_
            refine S_goto (tgt := 64) X dX12_pass_58 (by decide) ?_
            refine S_iadd X dX12_pass_64 ?_
            refine S_istore X dX12_pass_65 (nle rfl) ?_
            refine S_aload_n X dX12_pass_67 rfl hL2_0 ?_
            refine S_get X fgX12_46_11 0 rfl hf2 dX12_pass_68 ?_
            refine S_iload_n X dX12_pass_71 rfl hL2_3 ?_
            refine S_iload_n X dX12_pass_72 rfl hL2_3 ?_
            refine S_iload_n X dX12_pass_73 rfl hL2_1 ?_
            refine S_icmp_ne (tgt := 84) X dX12_pass_74 (by decide) (by omega) (by omega) (fun c_15 => ?_) (fun c_15 => ?_)
            ·
              refine S_iconst X dX12_pass_84 ?_
              refine S_sipush X dX12_pass_85 rfl ?_
              refine S_iload X dX12_pass_88 rfl ?_
              refine S_mmin X lkX12_293 rfl rfl (by decide) (by omega) (nle rfl) (nle rfl) (nle rfl) (nle rfl) dX12_pass_90 ?_
              refine S_mmax X lkX12_295 rfl rfl (by decide) (by omega) (nle rfl) (nle rfl) (nle rfl) (nle rfl) dX12_pass_93 ?_
              refine S_iast X 2 rfl (by omega) (by omega) (nle rfl) dX12_pass_96 ?_
              refine S_w (ws' := [(h0, ob 11 f), (hQ, ar 30 Q), (hB, ar 6 (uZ Bv i (max 1 (min 199 ((Bv i) + ((Q (5 * i + 1)) * wet))))))]) rfl ?_
              refine S_iinc X dX12_pass_97 (nle rfl) hL2_3 ?_
              refine S_goto (tgt := 2) X dX12_pass_100 (by decide) ?_
              exact ih2 (i + 1) (uZ Bv i (max 1 (min 199 ((Bv i) + ((Q (5 * i + 1)) * wet))))) _ (by omega) (fun x h0 h1 => (by omega : x < i ∨ x = i).elim (fun q9 => by rw [uZ_ne (by omega)]; exact hk x h0 q9) (fun q9 => by rw [q9, uZ_at, hpv]; first | (rw [if_pos (by omega)]) | (rw [if_neg (by omega)]; unfold drF c5; (repeat' split) <;> first | omega | (exfalso; omega)))) (fun x h => by rw [uZ_ne (by omega)]; exact hk2 x (by omega)) hL2_0 hL2_1 hL2_2 rfl (by omega)
            ·
              refine S_aload_n X dX12_pass_77 rfl hL2_0 ?_
              refine S_get X fgX12_256_11 0 rfl hf3 dX12_pass_78 ?_
              refine S_goto (tgt := 96) X dX12_pass_81 (by decide) ?_
              refine S_iast X 2 rfl (by omega) (by omega) (nle rfl) dX12_pass_96 ?_
              refine S_w (ws' := [(h0, ob 11 f), (hQ, ar 30 Q), (hB, ar 6 (uZ Bv i mt))]) rfl ?_
              refine S_iinc X dX12_pass_97 (nle rfl) hL2_3 ?_
              refine S_goto (tgt := 2) X dX12_pass_100 (by decide) ?_
              exact ih2 (i + 1) (uZ Bv i mt) _ (by omega) (fun x h0 h1 => (by omega : x < i ∨ x = i).elim (fun q9 => by rw [uZ_ne (by omega)]; exact hk x h0 q9) (fun q9 => by rw [q9, uZ_at, hpv]; first | (rw [if_pos (by omega)]) | (rw [if_neg (by omega)]; unfold drF c5; (repeat' split) <;> first | omega | (exfalso; omega)))) (fun x h => by rw [uZ_ne (by omega)]; exact hk2 x (by omega)) hL2_0 hL2_1 hL2_2 rfl (by omega)
        ·
          refine S_aload_n X dX12_pass_24 rfl hL2_0 ?_
          refine S_iload_n X dX12_pass_25 rfl hL2_3 ?_
          refine S_iconst X dX12_pass_26 ?_
          refine S_calli X (kX12_of l h0 f hQ Q i 1 hf1 (by omega) (by omega)) (is := [0, 1]) rfl (run_V X lkX12_284 0 rfl rfl (is := [0, 1]) (avs := [iv i, iv 1]) (rest := []) rfl rfl (nle rfl) ⟨nle rfl, nle rfl⟩ ⟨nle rfl, nle rfl⟩ dX12_pass_27 (by decide) rfl) (fun z_18 u_16 hp_17 => ?_)
          obtain ⟨hz_19, hu_20⟩ := hp_17
          subst hz_19
          subst hu_20
          refine ⟨rfl, ?_⟩
          refine S_w (ws' := [(h0, ob 11 f), (hQ, ar 30 Q), (hB, ar 6 Bv)]) rfl ?_
          refine S_goto (tgt := 41) X dX12_pass_30 (by decide) ?_
          refine S_istore X dX12_pass_41 (nle rfl) ?_
          refine S_aload_n X dX12_pass_43 rfl hL2_0 ?_
          refine S_get X fgX12_46_11 0 rfl hf2 dX12_pass_44 ?_
          refine S_iload_n X dX12_pass_47 rfl hL2_3 ?_
          refine S_iald X 2 rfl (by omega) (by omega) (nle rfl) dX12_pass_48 ?_
          refine S_iload X dX12_pass_49 rfl ?_
          refine S_iconst X dX12_pass_51 ?_
          have htm1 := Int.tmod_lt_of_pos (Q (5 * i + 2)) (b := 2) (by decide)
          have htm2 := Int.lt_tmod_of_pos (Q (5 * i + 2)) (b := 2) (by decide)
          refine S_irem X (by omega) (by decide) (by decide) dX12_pass_52 ?_
          refine S_if_ne (tgt := 61) X dX12_pass_53 (by decide) (by omega) (fun c_21 => ?_) (fun c_21 => ?_)
          ·
            refine S_iload X dX12_pass_61 rfl ?_
            refine S_ineg X dX12_pass_63 ?_
            refine S_iadd X dX12_pass_64 ?_
            refine S_istore X dX12_pass_65 (nle rfl) ?_
            refine S_aload_n X dX12_pass_67 rfl hL2_0 ?_
            refine S_get X fgX12_46_11 0 rfl hf2 dX12_pass_68 ?_
            refine S_iload_n X dX12_pass_71 rfl hL2_3 ?_
            refine S_iload_n X dX12_pass_72 rfl hL2_3 ?_
            refine S_iload_n X dX12_pass_73 rfl hL2_1 ?_
            refine S_icmp_ne (tgt := 84) X dX12_pass_74 (by decide) (by omega) (by omega) (fun c_22 => ?_) (fun c_22 => ?_)
            ·
              refine S_iconst X dX12_pass_84 ?_
              refine S_sipush X dX12_pass_85 rfl ?_
              refine S_iload X dX12_pass_88 rfl ?_
              refine S_mmin X lkX12_293 rfl rfl (by decide) (by omega) (nle rfl) (nle rfl) (nle rfl) (nle rfl) dX12_pass_90 ?_
              refine S_mmax X lkX12_295 rfl rfl (by decide) (by omega) (nle rfl) (nle rfl) (nle rfl) (nle rfl) dX12_pass_93 ?_
              refine S_iast X 2 rfl (by omega) (by omega) (nle rfl) dX12_pass_96 ?_
              refine S_w (ws' := [(h0, ob 11 f), (hQ, ar 30 Q), (hB, ar 6 (uZ Bv i (max 1 (min 199 ((Bv i) + (-(Q (5 * i + 1))))))))]) rfl ?_
              refine S_iinc X dX12_pass_97 (nle rfl) hL2_3 ?_
              refine S_goto (tgt := 2) X dX12_pass_100 (by decide) ?_
              exact ih2 (i + 1) (uZ Bv i (max 1 (min 199 ((Bv i) + (-(Q (5 * i + 1))))))) _ (by omega) (fun x h0 h1 => (by omega : x < i ∨ x = i).elim (fun q9 => by rw [uZ_ne (by omega)]; exact hk x h0 q9) (fun q9 => by rw [q9, uZ_at, hpv]; first | (rw [if_pos (by omega)]) | (rw [if_neg (by omega)]; unfold drF c5; (repeat' split) <;> first | omega | (exfalso; omega)))) (fun x h => by rw [uZ_ne (by omega)]; exact hk2 x (by omega)) hL2_0 hL2_1 hL2_2 rfl (by omega)
            ·
              refine S_aload_n X dX12_pass_77 rfl hL2_0 ?_
              refine S_get X fgX12_256_11 0 rfl hf3 dX12_pass_78 ?_
              refine S_goto (tgt := 96) X dX12_pass_81 (by decide) ?_
              refine S_iast X 2 rfl (by omega) (by omega) (nle rfl) dX12_pass_96 ?_
              refine S_w (ws' := [(h0, ob 11 f), (hQ, ar 30 Q), (hB, ar 6 (uZ Bv i mt))]) rfl ?_
              refine S_iinc X dX12_pass_97 (nle rfl) hL2_3 ?_
              refine S_goto (tgt := 2) X dX12_pass_100 (by decide) ?_
              exact ih2 (i + 1) (uZ Bv i mt) _ (by omega) (fun x h0 h1 => (by omega : x < i ∨ x = i).elim (fun q9 => by rw [uZ_ne (by omega)]; exact hk x h0 q9) (fun q9 => by rw [q9, uZ_at, hpv]; first | (rw [if_pos (by omega)]) | (rw [if_neg (by omega)]; unfold drF c5; (repeat' split) <;> first | omega | (exfalso; omega)))) (fun x h => by rw [uZ_ne (by omega)]; exact hk2 x (by omega)) hL2_0 hL2_1 hL2_2 rfl (by omega)
          ·
            refine S_iload X dX12_pass_56 rfl ?_
            refine S_goto (tgt := 64) X dX12_pass_58 (by decide) ?_
            refine S_iadd X dX12_pass_64 ?_
            refine S_istore X dX12_pass_65 (nle rfl) ?_
            refine S_aload_n X dX12_pass_67 rfl hL2_0 ?_
            refine S_get X fgX12_46_11 0 rfl hf2 dX12_pass_68 ?_
            refine S_iload_n X dX12_pass_71 rfl hL2_3 ?_
            refine S_iload_n X dX12_pass_72 rfl hL2_3 ?_
            refine S_iload_n X dX12_pass_73 rfl hL2_1 ?_
            refine S_icmp_ne (tgt := 84) X dX12_pass_74 (by decide) (by omega) (by omega) (fun c_23 => ?_) (fun c_23 => ?_)
            ·
              refine S_iconst X dX12_pass_84 ?_
              refine S_sipush X dX12_pass_85 rfl ?_
              refine S_iload X dX12_pass_88 rfl ?_
              refine S_mmin X lkX12_293 rfl rfl (by decide) (by omega) (nle rfl) (nle rfl) (nle rfl) (nle rfl) dX12_pass_90 ?_
              refine S_mmax X lkX12_295 rfl rfl (by decide) (by omega) (nle rfl) (nle rfl) (nle rfl) (nle rfl) dX12_pass_93 ?_
              refine S_iast X 2 rfl (by omega) (by omega) (nle rfl) dX12_pass_96 ?_
              refine S_w (ws' := [(h0, ob 11 f), (hQ, ar 30 Q), (hB, ar 6 (uZ Bv i (max 1 (min 199 ((Bv i) + (Q (5 * i + 1)))))))]) rfl ?_
              refine S_iinc X dX12_pass_97 (nle rfl) hL2_3 ?_
              refine S_goto (tgt := 2) X dX12_pass_100 (by decide) ?_
              exact ih2 (i + 1) (uZ Bv i (max 1 (min 199 ((Bv i) + (Q (5 * i + 1)))))) _ (by omega) (fun x h0 h1 => (by omega : x < i ∨ x = i).elim (fun q9 => by rw [uZ_ne (by omega)]; exact hk x h0 q9) (fun q9 => by rw [q9, uZ_at, hpv]; first | (rw [if_pos (by omega)]) | (rw [if_neg (by omega)]; unfold drF c5; (repeat' split) <;> first | omega | (exfalso; omega)))) (fun x h => by rw [uZ_ne (by omega)]; exact hk2 x (by omega)) hL2_0 hL2_1 hL2_2 rfl (by omega)
            ·
              refine S_aload_n X dX12_pass_77 rfl hL2_0 ?_
              refine S_get X fgX12_256_11 0 rfl hf3 dX12_pass_78 ?_
              refine S_goto (tgt := 96) X dX12_pass_81 (by decide) ?_
              refine S_iast X 2 rfl (by omega) (by omega) (nle rfl) dX12_pass_96 ?_
              refine S_w (ws' := [(h0, ob 11 f), (hQ, ar 30 Q), (hB, ar 6 (uZ Bv i mt))]) rfl ?_
              refine S_iinc X dX12_pass_97 (nle rfl) hL2_3 ?_
              refine S_goto (tgt := 2) X dX12_pass_100 (by decide) ?_
              exact ih2 (i + 1) (uZ Bv i mt) _ (by omega) (fun x h0 h1 => (by omega : x < i ∨ x = i).elim (fun q9 => by rw [uZ_ne (by omega)]; exact hk x h0 q9) (fun q9 => by rw [q9, uZ_at, hpv]; first | (rw [if_pos (by omega)]) | (rw [if_neg (by omega)]; unfold drF c5; (repeat' split) <;> first | omega | (exfalso; omega)))) (fun x h => by rw [uZ_ne (by omega)]; exact hk2 x (by omega)) hL2_0 hL2_1 hL2_2 rfl (by omega)
  exact lp2_0 (Int.toNat (pl + 1 - 0) + 1) 0 B _ (by omega) (fun x h0 h1 => by omega) (fun x h => rfl) rfl rfl rfl rfl (by omega)
