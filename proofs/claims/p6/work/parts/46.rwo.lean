/-- signs laid out from a place on; numbers of a stack in a row, its top last -/
def tkA (C V : Int → Int) (x : Int) (ts : List Int) : Prop := ∀ (j : Nat) (t : Int), ts[j]? = some t → C (x + j) = kC t ∧ V (x + j) = kV t
def stk (S : Int → Int) : List Int → Prop
  | [] => True
  | x :: r => S (r.length : Int) = x ∧ stk S r
theorem tkA.hd {C V : Int → Int} {x t : Int} {ts : List Int} (h : tkA C V x (t :: ts)) : C x = kC t ∧ V x = kV t := by
  have := h 0 t rfl
  rwa [show x + ((0 : Nat) : Int) = x by omega] at this
theorem tkA.tl {C V : Int → Int} {x t : Int} {ts : List Int} (h : tkA C V x (t :: ts)) : tkA C V (x + 1) ts := by
  intro j u hu
  have := h (j + 1) u hu
  rwa [show x + ((j + 1 : Nat) : Int) = x + 1 + j by omega] at this
theorem stk_up {S : Int → Int} {v z : Int} : ∀ r : List Int, (r.length : Int) ≤ z → stk S r → stk (uZ S z v) r
  | [], _, _ => trivial
  | x :: r, hz, h => by
    rw [List.length_cons] at hz
    exact ⟨by rw [uZ_ne (by omega)]; exact h.1, stk_up r (by omega) h.2⟩
theorem stk_top {S : Int → Int} {v w z : Int} {r : List Int} (h : stk S r) (hz : z = (r.length : Int)) (hv : v = w) : stk (uZ S z v) (w :: r) :=
  ⟨by rw [← hz, uZ_at, hv], stk_up r (by omega) h⟩
theorem okAt_num {M t : Int} {st : List Int} (h : okAt M t st) (hk : kC t = 0) : 0 ≤ t ∧ t ≤ 9999 ∧ (st.length : Int) < M := by
  have h2 := h.2
  rw [if_pos hk] at h2
  exact h2
theorem okAt_let {M t : Int} {st : List Int} (h : okAt M t st) (hk : kC t = 1) : (0 ≤ kV t ∧ kV t ≤ 4) ∧ (st.length : Int) < M := by
  have h2 := h.2
  rw [if_neg (by omega), if_pos hk] at h2
  refine ⟨?_, h2.2⟩
  rcases h2.1 with rfl | rfl | rfl | rfl | rfl <;> decide
theorem okAt_not {M t : Int} {st : List Int} (h : okAt M t st) (hk : kC t = 9) : t = -33 ∧ ∃ a r, st = a :: r ∧ (a = 0 ∨ a = 1) := by
  have h2 := h.2
  rw [if_neg (by omega), if_neg (by omega), if_pos hk] at h2
  exact h2
theorem okAt_two {M t : Int} {st : List Int} (h : okAt M t st) (h0 : ¬ kC t = 0) (h1 : ¬ kC t = 1) (h9 : ¬ kC t = 9) : ∃ b a r, st = b :: a :: r ∧ (isArT t ∨ isCmT t ∨ (isLoT t ∧ (a = 0 ∨ a = 1) ∧ (b = 0 ∨ b = 1))) ∧ inB a ∧ inB b := by
  have h2 := h.2
  rw [if_neg h0, if_neg h1, if_neg h9] at h2
  obtain ⟨b, a, r, e, g⟩ := h2
  exact ⟨b, a, r, e, g, h.1 a (by rw [e]; simp), h.1 b (by rw [e]; simp)⟩
theorem kC_two {t : Int} {c : Prop} (h : isArT t ∨ isCmT t ∨ (isLoT t ∧ c)) : kC t = 2 ∨ kC t = 3 ∨ kC t = 4 ∨ kC t = 5 ∨ kC t = 6 ∨ kC t = 7 ∨ kC t = 8 ∨ kC t = 10 ∨ kC t = 11 := by
  unfold isArT isCmT isLoT at h
  rcases h with (h | h | h | h) | (h | h | h) | ⟨h | h, -⟩ <;> subst h <;> decide
theorem ev1_num {e : Int → Int} {t : Int} {st : List Int} (h : kC t = 0) : ev1 e t st = t :: st := by unfold ev1; rw [if_pos h]
theorem ev1_let {e : Int → Int} {t : Int} {st : List Int} (h : kC t = 1) : ev1 e t st = e (kV t) :: st := by unfold ev1; rw [if_neg (by omega), if_pos h]
theorem ev1_not {e : Int → Int} {t a : Int} {st : List Int} (h : kC t = 9) : ev1 e t (a :: st) = (1 - a) :: st := by unfold ev1; rw [if_neg (by omega), if_neg (by omega), if_pos h]
theorem ev1_two {e : Int → Int} {t a b : Int} {st : List Int} (h0 : ¬ kC t = 0) (h1 : ¬ kC t = 1) (h9 : ¬ kC t = 9) : ev1 e t (b :: a :: st) = wk2 (kC t) a b :: st := by unfold ev1; rw [if_neg h0, if_neg h1, if_neg h9]
theorem kV_num {t : Int} (h : 0 ≤ t) : kV t = t := by unfold kV; rw [if_pos h]
theorem kC_in (t : Int) : 0 ≤ kC t ∧ kC t ≤ 11 := by unfold kC; (repeat' split) <;> omega
theorem len_c {x : Int} {r : List Int} : (((x :: r).length : Nat) : Int) = (r.length : Int) + 1 := by rw [List.length_cons]; omega
set_option maxHeartbeats 4000000 in
set_option maxRecDepth 100000 in
theorem kX12_workOut (l : Launch) (h0 : Nat) (f : Nat → AV) (hC : Nat) (hV : Nat) (hle : Nat) (hst : Nat) (C : Int → Int) (V : Int → Int) (Le : Int → Int) (Sk : Int → Int) (n9 : Int) (fr : Int) (to : Int) (ts : List Int) (en : Int → Int) (v9 : Int) (hf0 : f 6 = rv hC) (hf1 : f 7 = rv hV) (hf2 : f 15 = rv hle) (hf3 : f 16 = rv hst) (hn9 : 0 ≤ n9 ∧ n9 ≤ 4) (hfr : 0 ≤ fr ∧ fr + (ts.length : Int) = to ∧ to ≤ 340) (hlet : ∀ j, 0 ≤ j → j ≤ 4 → Le j = en j) (htk0 : tkA C V (340 * n9 + fr) ts) (hok0 : okRn en 80 ts []) (hev0 : evL en ts [] = [v9]) (hiv : inB v9) : AMi l yX12_workOut cX12_workOut 6 .int 3 0 0 [rv h0, iv n9, iv fr, iv to] [(h0, ob 11 f), (hC, ar 1700 C), (hV, ar 1700 V), (hle, ar 5 Le), (hst, ar 80 Sk)] (fun z u => ∃ S2 : Int → Int, z = v9 ∧ u = [(h0, ob 11 f), (hC, ar 1700 C), (hV, ar 1700 V), (hle, ar 5 Le), (hst, ar 80 S2)]) := by
  refine AMi.of2 rfl (nle rfl) ?_
  intro D G A p e s m args below meth c Po hPo X
  refine S_iconst X dX12_workOut_0 ?_
  refine S_istore X dX12_workOut_1 (nle rfl) ?_
  refine S_sipush X dX12_workOut_3 rfl ?_
  refine S_iload_n X dX12_workOut_6 rfl rfl ?_
  refine S_imul X dX12_workOut_7 ?_
  refine S_iload_n X dX12_workOut_8 rfl rfl ?_
  refine S_iadd X dX12_workOut_9 ?_
  refine S_istore X dX12_workOut_10 (nle rfl) ?_
  have lp12_0 : ∀ (N : Nat) (k : Int) (tp : Int) (ts2 : List Int) (st : List Int) (Sv : Int → Int) (L : Nat → Option AV), 0 ≤ k ∧ k + (ts2.length : Int) = 340 * n9 + to → tkA C V k ts2 → okRn en 80 ts2 st → evL en ts2 st = [v9] → tp = (st.length : Int) → tp ≤ 80 → stk Sv st → L 0 = some (rv h0) → L 1 = some (iv n9) → L 2 = some (iv fr) → L 3 = some (iv to) → L 4 = some (iv tp) → L 5 = some (iv k) → 340 * n9 + to + 1 - k < (N : Int) → S_ p l e (rmD 3 0 0) s m args below meth c (MQ below (QcI D G A Po) args s 0 0 A) D G A 6 0 0 12 L [] [(h0, ob 11 f), (hC, ar 1700 C), (hV, ar 1700 V), (hle, ar 5 Le), (hst, ar 80 Sv)] := by
    intro N
    induction N with
    | zero =>
      intro k tp ts2 st Sv L12 hk htk hok hev htp htb hstk hL12_0 hL12_1 hL12_2 hL12_3 hL12_4 hL12_5 hN12
      exfalso; omega
    | succ N ih12 =>
      intro k tp ts2 st Sv L12 hk htk hok hev htp htb hstk hL12_0 hL12_1 hL12_2 hL12_3 hL12_4 hL12_5 hN12
      refine S_iload X dX12_workOut_12 hL12_5 ?_
      refine S_sipush X dX12_workOut_14 rfl ?_
      refine S_iload_n X dX12_workOut_17 rfl hL12_1 ?_
      refine S_imul X dX12_workOut_18 ?_
      refine S_iload_n X dX12_workOut_19 rfl hL12_3 ?_
      refine S_iadd X dX12_workOut_20 ?_
      refine S_icmp_ge (tgt := 171) X dX12_workOut_21 (by decide) (by omega) (by omega) (fun c_1 => ?_) (fun c_1 => ?_)
      ·
        refine S_aload_n X dX12_workOut_171 rfl hL12_0 ?_
        refine S_get X fgX12_37_11 0 rfl hf3 dX12_workOut_172 ?_
        refine S_iconst X dX12_workOut_175 ?_
        refine S_iald X 4 rfl (by omega) (by omega) (nle rfl) dX12_workOut_176 ?_
        exact S_iret X (nle rfl) (nle rfl) dX12_workOut_177 (hPo _ _ (⟨_, by
                have h9 : ts2 = [] := by
                  cases ts2 with
                  | nil => rfl
                  | cons a b => exfalso; have := len_c (x := a) (r := b); omega
                subst h9
                have h8 : st = [v9] := hev
                subst h8
                exact hstk.1, rfl⟩))
      ·
        obtain ⟨t, ts3, rfl⟩ : ∃ t ts3, ts2 = t :: ts3 := by
          cases ts2 with
          | nil => exfalso; simp only [List.length_nil] at hk; omega
          | cons t ts3 => exact ⟨t, ts3, rfl⟩
        have hcv := htk.hd
        have hln := len_c (x := t) (r := ts3)
        have hokt := hok.1
        have hcr := kC_in t
        refine S_aload_n X dX12_workOut_24 rfl hL12_0 ?_
        refine S_get X fgX12_13_11 0 rfl hf0 dX12_workOut_25 ?_
        refine S_iload X dX12_workOut_28 hL12_5 ?_
        refine S_iald X 1 rfl (by omega) (by omega) (nle rfl) dX12_workOut_30 ?_
        refine S_if_eq (tgt := 45) X dX12_workOut_31 (by decide) (by omega) (fun c_2 => ?_) (fun c_2 => ?_)
        ·
          have hn9 := okAt_num hokt (by omega)
          have hv9 := kV_num hn9.1
          refine S_aload_n X dX12_workOut_45 rfl hL12_0 ?_
          refine S_get X fgX12_37_11 0 rfl hf3 dX12_workOut_46 ?_
          refine S_iload X dX12_workOut_49 hL12_4 ?_
          refine S_aload_n X dX12_workOut_51 rfl hL12_0 ?_
          refine S_get X fgX12_13_11 0 rfl hf0 dX12_workOut_52 ?_
          refine S_iload X dX12_workOut_55 hL12_5 ?_
          refine S_iald X 1 rfl (by omega) (by omega) (nle rfl) dX12_workOut_57 ?_
          refine S_if_ne (tgt := 71) X dX12_workOut_58 (by decide) (by omega) (fun c_3 => by exfalso; omega) (fun c_3 => ?_)
          refine S_aload_n X dX12_workOut_61 rfl hL12_0 ?_
          refine S_get X fgX12_16_11 0 rfl hf1 dX12_workOut_62 ?_
          refine S_iload X dX12_workOut_65 hL12_5 ?_
          refine S_iald X 2 rfl (by omega) (by omega) (nle rfl) dX12_workOut_67 ?_
          refine S_goto (tgt := 83) X dX12_workOut_68 (by decide) ?_
          refine S_iast X 4 rfl (by omega) (by omega) (nle rfl) dX12_workOut_83 ?_
          refine S_w (ws' := [(h0, ob 11 f), (hC, ar 1700 C), (hV, ar 1700 V), (hle, ar 5 Le), (hst, ar 80 (uZ Sv tp (V k)))]) rfl ?_
          refine S_iinc X dX12_workOut_84 (nle rfl) hL12_4 ?_
          refine S_goto (tgt := 165) X dX12_workOut_87 (by decide) ?_
          refine S_iinc X dX12_workOut_165 (nle rfl) hL12_5 ?_
          refine S_goto (tgt := 12) X dX12_workOut_168 (by decide) ?_
          exact ih12 (k + 1) (tp + 1) _ _ (uZ Sv tp (V k)) _ (by omega) (htk.tl) (hok.2) (hev) (by rw [ev1_num (by omega), len_c]; omega) (by omega) (by rw [ev1_num (by omega)]; exact stk_top hstk htp (by omega)) hL12_0 hL12_1 hL12_2 hL12_3 rfl rfl (by omega)
        ·
          refine S_aload_n X dX12_workOut_34 rfl hL12_0 ?_
          refine S_get X fgX12_13_11 0 rfl hf0 dX12_workOut_35 ?_
          refine S_iload X dX12_workOut_38 hL12_5 ?_
          refine S_iald X 1 rfl (by omega) (by omega) (nle rfl) dX12_workOut_40 ?_
          refine S_iconst X dX12_workOut_41 ?_
          refine S_icmp_ne (tgt := 90) X dX12_workOut_42 (by decide) (by omega) (by decide) (fun c_4 => ?_) (fun c_4 => ?_)
          ·
            refine S_aload_n X dX12_workOut_90 rfl hL12_0 ?_
            refine S_get X fgX12_13_11 0 rfl hf0 dX12_workOut_91 ?_
            refine S_iload X dX12_workOut_94 hL12_5 ?_
            refine S_iald X 1 rfl (by omega) (by omega) (nle rfl) dX12_workOut_96 ?_
            refine S_bipush X dX12_workOut_97 rfl ?_
            refine S_icmp_ne (tgt := 125) X dX12_workOut_99 (by decide) (by omega) (by decide) (fun c_5 => ?_) (fun c_5 => ?_)
            ·
              obtain ⟨vb, va, r9, rfl, hty, hia, hib⟩ := okAt_two hokt (by omega) (by omega) (by omega)
              have hs0 := hstk.1
              have hs1 := hstk.2.1
              have hl9 := len_c (x := vb) (r := va :: r9)
              have hl8 := len_c (x := va) (r := r9)
              have hsb : Sv (tp + -1) = vb := by rw [show tp + -1 = ((va :: r9).length : Int) by omega]; exact hs0
              have hsa : Sv (tp + -1 - 1) = va := by rw [show tp + -1 - 1 = (r9.length : Int) by omega]; exact hs1
              have hkk := kC_two hty
              unfold inB at hia hib
              refine S_iinc X dX12_workOut_125 (nle rfl) hL12_4 ?_
              refine S_aload_n X dX12_workOut_128 rfl hL12_0 ?_
              refine S_get X fgX12_37_11 0 rfl hf3 dX12_workOut_129 ?_
              refine S_iload X dX12_workOut_132 rfl ?_
              refine S_iconst X dX12_workOut_134 ?_
              refine S_isub X dX12_workOut_135 ?_
              refine S_aload_n X dX12_workOut_136 rfl hL12_0 ?_
              refine S_get X fgX12_13_11 0 rfl hf0 dX12_workOut_137 ?_
              refine S_iload X dX12_workOut_140 hL12_5 ?_
              refine S_iald X 1 rfl (by omega) (by omega) (nle rfl) dX12_workOut_142 ?_
              refine S_aload_n X dX12_workOut_143 rfl hL12_0 ?_
              refine S_get X fgX12_37_11 0 rfl hf3 dX12_workOut_144 ?_
              refine S_iload X dX12_workOut_147 rfl ?_
              refine S_iconst X dX12_workOut_149 ?_
              refine S_isub X dX12_workOut_150 ?_
              refine S_iald X 4 rfl (by omega) (by omega) (nle rfl) dX12_workOut_151 ?_
              refine S_wk (a := (Sv ((tp + (-1)) - 1))) (k := (C k)) (tp := (tp + (-1))) X 0 4 hL12_0 rfl rfl hf3 rfl (by omega) (by omega) (by omega) (by omega) (nle rfl) ⟨nle rfl, nle rfl⟩ ⟨nle rfl, nle rfl⟩ ?_
              refine S_iast X 4 rfl (by omega) (by omega) (nle rfl) dX12_workOut_164 ?_
              refine S_w (ws' := [(h0, ob 11 f), (hC, ar 1700 C), (hV, ar 1700 V), (hle, ar 5 Le), (hst, ar 80 (uZ Sv ((tp + (-1)) - 1) (wk2 (C k) (Sv ((tp + (-1)) - 1)) (Sv (tp + (-1))))))]) rfl ?_
              refine S_iinc X dX12_workOut_165 (nle rfl) hL12_5 ?_
              refine S_goto (tgt := 12) X dX12_workOut_168 (by decide) ?_
              exact ih12 (k + 1) (tp + (-1)) _ _ (uZ Sv ((tp + (-1)) - 1) (wk2 (C k) (Sv ((tp + (-1)) - 1)) (Sv (tp + (-1))))) _ (by omega) (htk.tl) (hok.2) (hev) (by rw [ev1_two (by omega) (by omega) (by omega), len_c]; omega) (by omega) (by rw [ev1_two (by omega) (by omega) (by omega)]; exact stk_top hstk.2.2 (by omega) (by rw [hsa, hsb, hcv.1])) hL12_0 hL12_1 hL12_2 hL12_3 rfl rfl (by omega)
            ·
              obtain ⟨va, r9, rfl, h01⟩ := (okAt_not hokt (by omega)).2
              have hs0 := hstk.1
              have hl9 := len_c (x := va) (r := r9)
              have hsv : Sv (tp - 1) = va := by rw [show tp - 1 = (r9.length : Int) by omega]; exact hs0
              refine S_aload_n X dX12_workOut_102 rfl hL12_0 ?_
              refine S_get X fgX12_37_11 0 rfl hf3 dX12_workOut_103 ?_
              refine S_iload X dX12_workOut_106 hL12_4 ?_
              refine S_iconst X dX12_workOut_108 ?_
              refine S_isub X dX12_workOut_109 ?_
              refine S_iconst X dX12_workOut_110 ?_
              refine S_aload_n X dX12_workOut_111 rfl hL12_0 ?_
              refine S_get X fgX12_37_11 0 rfl hf3 dX12_workOut_112 ?_
              refine S_iload X dX12_workOut_115 hL12_4 ?_
              refine S_iconst X dX12_workOut_117 ?_
              refine S_isub X dX12_workOut_118 ?_
              refine S_iald X 4 rfl (by omega) (by omega) (nle rfl) dX12_workOut_119 ?_
              refine S_isub X dX12_workOut_120 ?_
              refine S_iast X 4 rfl (by omega) (by omega) (nle rfl) dX12_workOut_121 ?_
              refine S_w (ws' := [(h0, ob 11 f), (hC, ar 1700 C), (hV, ar 1700 V), (hle, ar 5 Le), (hst, ar 80 (uZ Sv (tp - 1) (1 - (Sv (tp - 1)))))]) rfl ?_
              refine S_goto (tgt := 165) X dX12_workOut_122 (by decide) ?_
              refine S_iinc X dX12_workOut_165 (nle rfl) hL12_5 ?_
              refine S_goto (tgt := 12) X dX12_workOut_168 (by decide) ?_
              exact ih12 (k + 1) tp _ _ (uZ Sv (tp - 1) (1 - (Sv (tp - 1)))) _ (by omega) (htk.tl) (hok.2) (hev) (by rw [ev1_not (by omega), len_c]; omega) (by omega) (by rw [ev1_not (by omega)]; exact stk_top hstk.2 (by omega) (by omega)) hL12_0 hL12_1 hL12_2 hL12_3 hL12_4 rfl (by omega)
          ·
            have hn9 := okAt_let hokt (by omega)
            have hle9 : Le (V k) = en (kV t) := by rw [hcv.2]; exact hlet (kV t) hn9.1.1 hn9.1.2
            refine S_aload_n X dX12_workOut_45 rfl hL12_0 ?_
            refine S_get X fgX12_37_11 0 rfl hf3 dX12_workOut_46 ?_
            refine S_iload X dX12_workOut_49 hL12_4 ?_
            refine S_aload_n X dX12_workOut_51 rfl hL12_0 ?_
            refine S_get X fgX12_13_11 0 rfl hf0 dX12_workOut_52 ?_
            refine S_iload X dX12_workOut_55 hL12_5 ?_
            refine S_iald X 1 rfl (by omega) (by omega) (nle rfl) dX12_workOut_57 ?_
            refine S_if_ne (tgt := 71) X dX12_workOut_58 (by decide) (by omega) (fun c_6 => ?_) (fun c_6 => by exfalso; omega)
            refine S_aload_n X dX12_workOut_71 rfl hL12_0 ?_
            refine S_get X fgX12_34_11 0 rfl hf2 dX12_workOut_72 ?_
            refine S_aload_n X dX12_workOut_75 rfl hL12_0 ?_
            refine S_get X fgX12_16_11 0 rfl hf1 dX12_workOut_76 ?_
            refine S_iload X dX12_workOut_79 hL12_5 ?_
            refine S_iald X 2 rfl (by omega) (by omega) (nle rfl) dX12_workOut_81 ?_
            refine S_iald X 3 rfl (by omega) (by omega) (nle rfl) dX12_workOut_82 ?_
            refine S_iast X 4 rfl (by omega) (by omega) (nle rfl) dX12_workOut_83 ?_
            refine S_w (ws' := [(h0, ob 11 f), (hC, ar 1700 C), (hV, ar 1700 V), (hle, ar 5 Le), (hst, ar 80 (uZ Sv tp (Le (V k))))]) rfl ?_
            refine S_iinc X dX12_workOut_84 (nle rfl) hL12_4 ?_
            refine S_goto (tgt := 165) X dX12_workOut_87 (by decide) ?_
            refine S_iinc X dX12_workOut_165 (nle rfl) hL12_5 ?_
            refine S_goto (tgt := 12) X dX12_workOut_168 (by decide) ?_
            exact ih12 (k + 1) (tp + 1) _ _ (uZ Sv tp (Le (V k))) _ (by omega) (htk.tl) (hok.2) (hev) (by rw [ev1_let (by omega), len_c]; omega) (by omega) (by rw [ev1_let (by omega)]; exact stk_top hstk htp hle9) hL12_0 hL12_1 hL12_2 hL12_3 rfl rfl (by omega)
  exact lp12_0 (Int.toNat (340 * n9 + to + 1 - ((340 * n9) + fr)) + 1) ((340 * n9) + fr) 0 _ _ Sk _ (by omega) (htk0) (hok0) (hev0) (rfl) (by omega) (trivial) rfl rfl rfl rfl rfl rfl (by omega)
