theorem tdiv_B {a b : Int} (ha : inB a) : bnd (a.tdiv b) = a.tdiv b := by
  unfold inB at ha
  have h1 : (a.tdiv b).natAbs ≤ a.natAbs := by rw [Int.natAbs_tdiv]; exact Nat.div_le_self _ _
  unfold bnd
  omega
theorem w2_43 {a b : Int} : wk2 (kC (-43)) a b = max (-1000000) (min 1000000 (a + b)) := rfl
theorem w2_45 {a b : Int} : wk2 (kC (-45)) a b = max (-1000000) (min 1000000 (a - b)) := rfl
theorem w2_42 {a b : Int} : wk2 (kC (-42)) a b = bnd (a * b) := rfl
theorem w2_47 {a b : Int} (ha : inB a) : wk2 (kC (-47)) a b = if b = 0 then 0 else a.tdiv b := by
  show (if b = 0 then 0 else bnd (a.tdiv b)) = _
  rw [tdiv_B ha]
theorem w2_61 {a b : Int} : wk2 (kC (-61)) a b = if a = b then 1 else 0 := rfl
theorem w2_60 {a b : Int} : wk2 (kC (-60)) a b = if a < b then 1 else 0 := rfl
theorem w2_62 {a b : Int} : wk2 (kC (-62)) a b = if b < a then 1 else 0 := rfl
theorem w2_38 {a b : Int} (ha : a = 0 ∨ a = 1) (hb : b = 0 ∨ b = 1) : zAnd a b = wk2 (kC (-38)) a b := by
  rcases ha with rfl | rfl <;> rcases hb with rfl | rfl <;> decide
theorem w2_124 {a b : Int} (ha : a = 0 ∨ a = 1) (hb : b = 0 ∨ b = 1) : zOr a b = wk2 (kC (-124)) a b := by
  rcases ha with rfl | rfl <;> rcases hb with rfl | rfl <;> decide
theorem lo_of {t a b : Int} {c : Prop} (h : isArT t ∨ isCmT t ∨ (isLoT t ∧ c)) (h2 : t = -38 ∨ t = -124) : c := by
  rcases h with h | h | h
  · unfold isArT at h; omega
  · unfold isCmT at h; omega
  · exact h.2
section JM
variable {p : Program} {l : Launch} {e : Env} {s : State} {m : MethodId} {args : Array Value} {below : List Frame} {meth : Method} {c : Code} {D : va_G} {G : GG} {A : Nat → Prop} {L : Nat → Option AV} {Post : Int → EW → Prop} {mc ms : Nat}
/-- a product, within its bounds, and the end -/
theorem S_jm (X : Cx p s m args meth c D G A cX1_joined 5 (some .int) RX1) {R : Room} {a b : Int} (ha : inR a) (hb : inR b) (hL1 : L 1 = some (iv a)) (hL2 : L 2 = some (iv b)) (hR : 1 ≤ R.frames ∧ 20 ≤ R.locals) (hcs : 0 ≤ R.cells ∧ 0 ≤ R.slots) (hp : Post (bnd (a * b)) []) : S_ p l e R s m args below meth c (MQ below (QcI D G A Post) args s mc ms A) D G A 5 0 0 138 L [] [] := by
  intro H locs ls hP hD hS hl
  have hml := mul_L ha hb
  refine lv_iload_n X.1 X.2.1 dX1_joined_138 rfl (hl.2.2 _ _ hL1) ?_
  refine lv_i2l (v := i64 a) X.1 X.2.1 dX1_joined_139 (i64_32 ha) ?_
  refine lv_iload_n X.1 X.2.1 dX1_joined_140 rfl (hl.2.2 _ _ hL2) ?_
  refine lv_i2l (v := i64 b) X.1 X.2.1 dX1_joined_141 (i64_32 hb) ?_
  refine lv_lmul X.1 X.2.1 dX1_joined_142 ?_
  rw [i64_mul]
  refine lv_lstore_n (lv := []) X.1 X.2.1 dX1_joined_143 rfl ⟨hl.1, hl.2.1, fun q hq => by cases hq⟩ (by decide) rfl (fun ls2 hl2 => ?_)
  refine lv_ldc2 (v := i64 (-1000000)) X.1 X.2.1 X.2.2.2.1 (X.2.2.2.2.1 _ (by rw [show i64 (-1000000) = (-1000000 : Int64) from by decide]; exact m754)) dX1_joined_144 ?_
  refine lv_ldc2 (v := i64 1000000) X.1 X.2.1 X.2.2.2.1 (X.2.2.2.2.1 _ (by rw [show i64 1000000 = (1000000 : Int64) from by decide]; exact m755)) dX1_joined_147 ?_
  refine lv_lload_n X.1 X.2.1 dX1_joined_150 rfl (lv_at hl2 0 rfl) ?_
  refine W_minL X lkX1_65 rfl rfl (by decide) (mul_L ha hb) hl2.1 hR.1 (by show 2 + 15 ≤ _; omega) hcs.1 hcs.2 dX1_joined_151 ?_
  refine W_maxL X lkX1_71 rfl rfl (by decide) ⟨by omega, by omega⟩ hl2.1 hR.1 (by show 0 + 15 ≤ _; omega) hcs.1 hcs.2 dX1_joined_154 ?_
  rw [bnd_mm]
  have hb9 := bnd_in (a * b)
  unfold inB at hb9
  refine lv_l2i (v := i32 (bnd (a * b))) X.1 X.2.1 dX1_joined_157 (i64_to32 ⟨by omega, by omega⟩) ?_
  exact S_iret (L := fun _ => none) (ws := []) X (Nat.zero_le _) (Nat.zero_le _) dX1_joined_158 hp H locs ls2 hP hD hS (LH.none hl2)
end JM
theorem okAt_lt {M t : Int} {st : List Int} (h : okAt M t st) (h1 : kC t = 1) : t = -100 ∨ t = -119 ∨ t = -109 ∨ t = -110 ∨ t = -111 := by
  have h2 := h.2
  rw [if_neg (by omega), if_pos h1] at h2
  exact h2.1
theorem okAt_bd {M t : Int} {st : List Int} (h : okAt M t st) : ∀ x ∈ st, inB x := h.1
theorem ev_len {M t : Int} {st : List Int} {e : Int → Int} (h : okAt M t st) (hl : (st.length : Int) ≤ M) : ((ev1 e t st).length : Int) ≤ M := by
  have h2 := h.2
  by_cases h0 : kC t = 0
  · rw [if_pos h0] at h2
    rw [ev1_num h0, len_c]
    omega
  · by_cases h1 : kC t = 1
    · rw [if_neg h0, if_pos h1] at h2
      rw [ev1_let h1, len_c]
      omega
    · by_cases h9 : kC t = 9
      · rw [if_neg h0, if_neg h1, if_pos h9] at h2
        obtain ⟨-, a, r, rfl, -⟩ := h2
        rw [ev1_not h9, len_c]
        rw [len_c] at hl
        omega
      · rw [if_neg h0, if_neg h1, if_neg h9] at h2
        obtain ⟨b, a, r, rfl, -⟩ := h2
        rw [ev1_two h0 h1 h9, len_c]
        rw [len_c, len_c] at hl
        omega
set_option maxHeartbeats 4000000 in
set_option maxRecDepth 100000 in
theorem kX1_push (l : Launch) (oL : Nat) (fL : Nat → AV) (lS : Nat) (nc : Nat) (SS9 : Int → Int) (tp : Int) (kn : Int) (v : Int) (hf0 : fL 1 = rv lS) (hnc : nc ≤ 100000) (htp : 0 ≤ tp ∧ tp < (nc : Int)) : AMv l yX1_push cX1_push 2 0 0 0 [rv oL, iv v] [(oL, ob 1 (uF (uF fL 3 (iv tp)) 4 (iv kn))), (lS, ar nc SS9)] (fun u => u = [(oL, ob 1 (uF (uF fL 3 (iv (tp + 1))) 4 (iv kn))), (lS, ar nc (uZ SS9 tp v))]) := by
  refine AMv.of2 rfl (nle rfl) ?_
  intro D G A p e s m args below meth c Po hPo hnm X
  refine S_aload_n X dX1_push_0 rfl rfl ?_
  refine S_get (v := iv tp) X fgX1_33_1 0 rfl rfl dX1_push_1 ?_
  refine S_if_lt (tgt := 39) X dX1_push_4 (by decide) (by omega) (fun c_1 => by exfalso; omega) (fun c_1 => ?_)
  refine S_aload_n X dX1_push_7 rfl rfl ?_
  refine S_get (v := iv tp) X fgX1_33_1 0 rfl rfl dX1_push_8 ?_
  refine S_aload_n X dX1_push_11 rfl rfl ?_
  refine S_get X fgX1_15_1 0 rfl hf0 dX1_push_12 ?_
  refine S_alen X 1 rfl dX1_push_15 ?_
  refine S_icmp_ge (tgt := 39) X dX1_push_16 (by decide) (by omega) (by omega) (fun c_2 => by exfalso; omega) (fun c_2 => ?_)
  refine S_aload_n X dX1_push_19 rfl rfl ?_
  refine S_get X fgX1_15_1 0 rfl hf0 dX1_push_20 ?_
  refine S_aload_n X dX1_push_23 rfl rfl ?_
  refine S_get (v := iv tp) X fgX1_33_1 0 rfl rfl dX1_push_24 ?_
  refine S_iload_n X dX1_push_27 rfl rfl ?_
  refine S_iast X 1 rfl (by omega) (by omega) (by omega) dX1_push_28 ?_
  refine S_w (ws' := [(oL, ob 1 (uF (uF fL 3 (iv tp)) 4 (iv kn))), (lS, ar nc (uZ SS9 tp v))]) rfl ?_
  refine S_aload_n X dX1_push_29 rfl rfl ?_
  refine S_dup X dX1_push_30 ?_
  refine S_get (v := iv tp) X fgX1_33_1 0 rfl rfl dX1_push_31 ?_
  refine S_iconst X dX1_push_34 ?_
  refine S_iadd X dX1_push_35 ?_
  refine S_put X fpX1_33_1 0 rfl FT_i dX1_push_36 ?_
  refine S_w (ws' := [(oL, ob 1 (uF (uF fL 3 (iv (tp + 1))) 4 (iv kn))), (lS, ar nc (uZ SS9 tp v))]) (by simp only [List.set]; rw [uF_mv (j := 4) (k := 3) (by decide), uF_same (k := 3)]) ?_
  exact S_vret X (nle rfl) (nle rfl) dX1_push_39 (hPo _ (rfl))
set_option maxHeartbeats 4000000 in
set_option maxRecDepth 100000 in
theorem kX1_pop (l : Launch) (oL : Nat) (fL : Nat → AV) (lS : Nat) (nc : Nat) (SS9 : Int → Int) (tp : Int) (kn : Int) (hf0 : fL 1 = rv lS) (hnc : nc ≤ 100000) (htp : 1 ≤ tp ∧ tp ≤ (nc : Int)) : AMi l yX1_pop cX1_pop 1 .int 0 0 0 [rv oL] [(oL, ob 1 (uF (uF fL 3 (iv tp)) 4 (iv kn))), (lS, ar nc SS9)] (fun z u => z = SS9 (tp - 1) ∧ u = [(oL, ob 1 (uF (uF fL 3 (iv (tp - 1))) 4 (iv kn))), (lS, ar nc SS9)]) := by
  refine AMi.of2 rfl (nle rfl) ?_
  intro D G A p e s m args below meth c Po hPo X
  refine S_aload_n X dX1_pop_0 rfl rfl ?_
  refine S_get (v := iv tp) X fgX1_33_1 0 rfl rfl dX1_pop_1 ?_
  refine S_if_le (tgt := 19) X dX1_pop_4 (by decide) (by omega) (fun c_1 => by exfalso; omega) (fun c_1 => ?_)
  refine S_aload_n X dX1_pop_7 rfl rfl ?_
  refine S_get (v := iv tp) X fgX1_33_1 0 rfl rfl dX1_pop_8 ?_
  refine S_aload_n X dX1_pop_11 rfl rfl ?_
  refine S_get X fgX1_15_1 0 rfl hf0 dX1_pop_12 ?_
  refine S_alen X 1 rfl dX1_pop_15 ?_
  refine S_icmp_le (tgt := 21) X dX1_pop_16 (by decide) (by omega) (by omega) (fun c_2 => ?_) (fun c_2 => by exfalso; omega)
  refine S_aload_n X dX1_pop_21 rfl rfl ?_
  refine S_dup X dX1_pop_22 ?_
  refine S_get (v := iv tp) X fgX1_33_1 0 rfl rfl dX1_pop_23 ?_
  refine S_iconst X dX1_pop_26 ?_
  refine S_isub X dX1_pop_27 ?_
  refine S_put X fpX1_33_1 0 rfl FT_i dX1_pop_28 ?_
  refine S_w (ws' := [(oL, ob 1 (uF (uF fL 3 (iv (tp - 1))) 4 (iv kn))), (lS, ar nc SS9)]) (by simp only [List.set]; rw [uF_mv (j := 4) (k := 3) (by decide), uF_same (k := 3)]) ?_
  refine S_aload_n X dX1_pop_31 rfl rfl ?_
  refine S_get X fgX1_15_1 0 rfl hf0 dX1_pop_32 ?_
  refine S_aload_n X dX1_pop_35 rfl rfl ?_
  refine S_get (v := iv (tp - 1)) X fgX1_33_1 0 rfl rfl dX1_pop_36 ?_
  refine S_iald X 1 rfl (by omega) (by omega) (by omega) dX1_pop_39 ?_
  exact S_iret X (nle rfl) (nle rfl) dX1_pop_40 (hPo _ _ (⟨by first | rfl | omega, rfl⟩))
set_option maxHeartbeats 4000000 in
set_option maxRecDepth 100000 in
theorem kX1_joined (l : Launch) (sg : Int) (a9 : Int) (b9 : Int) (hsg : 0 ≤ sg ∧ sg ≤ 200) (hty : isArT (-sg) ∨ isCmT (-sg) ∨ (isLoT (-sg) ∧ (a9 = 0 ∨ a9 = 1) ∧ (b9 = 0 ∨ b9 = 1))) (ha : inB a9) (hb : inB b9) : AMi l yX1_joined cX1_joined 5 .int 1 0 0 [iv sg, iv a9, iv b9] [] (fun z u => z = wk2 (kC (-sg)) a9 b9 ∧ u = []) := by
  refine AMi.of2 rfl (nle rfl) ?_
  intro D G A p e s m args below meth c Po hPo X
  have har := ha
  have hbr := hb
  unfold inB at har hbr
  refine S_iload_n X dX1_joined_0 rfl rfl ?_
  by_cases hs_1 : sg = 38
  · refine S_tswIn (j := 0) (tgt := 204) X dX1_joined_1 hs_1 rfl (by decide) (by decide) ?_
    refine S_iload_n X dX1_joined_204 rfl rfl ?_
    refine S_iload_n X dX1_joined_205 rfl rfl ?_
    refine S_iand X dX1_joined_206 ?_
    exact S_iret X (nle rfl) (nle rfl) dX1_joined_207 (hPo _ _ (⟨by subst hs_1; have h9 := lo_of (a := a9) (b := b9) hty (Or.inl rfl); exact w2_38 h9.1 h9.2, rfl⟩))
  by_cases hs_2 : sg = 42
  · refine S_tswIn (j := 4) (tgt := 138) X dX1_joined_1 hs_2 rfl (by decide) (by decide) ?_
    exact S_jm (a := a9) (b := b9) X (by omega) (by omega) rfl rfl ⟨nle rfl, nle rfl⟩ ⟨nle rfl, nle rfl⟩ (hPo _ _ ⟨by subst hs_2; exact w2_42.symm, rfl⟩)
  by_cases hs_3 : sg = 43
  · refine S_tswIn (j := 5) (tgt := 116) X dX1_joined_1 hs_3 rfl (by decide) (by decide) ?_
    refine S_iload_n X dX1_joined_116 rfl rfl ?_
    refine S_iload_n X dX1_joined_117 rfl rfl ?_
    refine S_iadd X dX1_joined_118 ?_
    refine S_ldc (n := -1000000) X (by rw [show i32 (-1000000) = (-1000000 : Int32) from by decide]; exact m749) dX1_joined_119 ?_
    refine S_ldc (n := 1000000) X m750 dX1_joined_121 ?_
    refine S_calli X (kX11_held l (a9 + b9) (-1000000) 1000000 (by omega) (by omega) (by omega) (by omega)) (is := []) rfl (run_SN X lkX1_29 (is := []) (avs := [iv (a9 + b9), iv (-1000000), iv 1000000]) (rest := []) rfl rfl (nle rfl) ⟨nle rfl, nle rfl⟩ ⟨nle rfl, nle rfl⟩ dX1_joined_123 (by decide) rfl) (fun z_6 u_4 hp_5 => ?_)
    obtain ⟨hz_7, hu_8⟩ := hp_5
    subst hz_7
    subst hu_8
    refine ⟨rfl, ?_⟩
    refine S_w (ws' := []) rfl ?_
    exact S_iret X (nle rfl) (nle rfl) dX1_joined_126 (hPo _ _ (⟨by subst hs_3; exact w2_43.symm, rfl⟩))
  by_cases hs_9 : sg = 45
  · refine S_tswIn (j := 7) (tgt := 127) X dX1_joined_1 hs_9 rfl (by decide) (by decide) ?_
    refine S_iload_n X dX1_joined_127 rfl rfl ?_
    refine S_iload_n X dX1_joined_128 rfl rfl ?_
    refine S_isub X dX1_joined_129 ?_
    refine S_ldc (n := -1000000) X (by rw [show i32 (-1000000) = (-1000000 : Int32) from by decide]; exact m749) dX1_joined_130 ?_
    refine S_ldc (n := 1000000) X m750 dX1_joined_132 ?_
    refine S_calli X (kX11_held l (a9 - b9) (-1000000) 1000000 (by omega) (by omega) (by omega) (by omega)) (is := []) rfl (run_SN X lkX1_29 (is := []) (avs := [iv (a9 - b9), iv (-1000000), iv 1000000]) (rest := []) rfl rfl (nle rfl) ⟨nle rfl, nle rfl⟩ ⟨nle rfl, nle rfl⟩ dX1_joined_134 (by decide) rfl) (fun z_12 u_10 hp_11 => ?_)
    obtain ⟨hz_13, hu_14⟩ := hp_11
    subst hz_13
    subst hu_14
    refine ⟨rfl, ?_⟩
    refine S_w (ws' := []) rfl ?_
    exact S_iret X (nle rfl) (nle rfl) dX1_joined_137 (hPo _ _ (⟨by subst hs_9; exact w2_45.symm, rfl⟩))
  by_cases hs_15 : sg = 47
  · refine S_tswIn (j := 9) (tgt := 159) X dX1_joined_1 hs_15 rfl (by decide) (by decide) ?_
    refine S_iload_n X dX1_joined_159 rfl rfl ?_
    refine S_if_ne (tgt := 167) X dX1_joined_160 (by decide) (by omega) (fun c_16 => ?_) (fun c_16 => ?_)
    ·
      refine S_iload_n X dX1_joined_167 rfl rfl ?_
      refine S_iload_n X dX1_joined_168 rfl rfl ?_
      refine S_idiv X (by omega) (by omega) (by omega) dX1_joined_169 ?_
      exact S_iret X (nle rfl) (nle rfl) dX1_joined_170 (hPo _ _ (⟨by subst hs_15; rw [w2_47 ha]; rw [if_neg (by omega)], rfl⟩))
    ·
      refine S_iconst X dX1_joined_163 ?_
      refine S_goto (tgt := 170) X dX1_joined_164 (by decide) ?_
      exact S_iret X (nle rfl) (nle rfl) dX1_joined_170 (hPo _ _ (⟨by subst hs_15; rw [w2_47 ha]; rw [if_pos (by omega)], rfl⟩))
  by_cases hs_17 : sg = 60
  · refine S_tswIn (j := 22) (tgt := 182) X dX1_joined_1 hs_17 rfl (by decide) (by decide) ?_
    refine S_iload_n X dX1_joined_182 rfl rfl ?_
    refine S_iload_n X dX1_joined_183 rfl rfl ?_
    refine S_icmp_ge (tgt := 191) X dX1_joined_184 (by decide) (by omega) (by omega) (fun c_18 => ?_) (fun c_18 => ?_)
    ·
      refine S_iconst X dX1_joined_191 ?_
      exact S_iret X (nle rfl) (nle rfl) dX1_joined_192 (hPo _ _ (⟨by subst hs_17; rw [w2_60, if_neg (by omega)], rfl⟩))
    ·
      refine S_iconst X dX1_joined_187 ?_
      refine S_goto (tgt := 192) X dX1_joined_188 (by decide) ?_
      exact S_iret X (nle rfl) (nle rfl) dX1_joined_192 (hPo _ _ (⟨by subst hs_17; rw [w2_60, if_pos (by omega)], rfl⟩))
  by_cases hs_19 : sg = 61
  · refine S_tswIn (j := 23) (tgt := 171) X dX1_joined_1 hs_19 rfl (by decide) (by decide) ?_
    refine S_iload_n X dX1_joined_171 rfl rfl ?_
    refine S_iload_n X dX1_joined_172 rfl rfl ?_
    refine S_icmp_ne (tgt := 180) X dX1_joined_173 (by decide) (by omega) (by omega) (fun c_20 => ?_) (fun c_20 => ?_)
    ·
      refine S_iconst X dX1_joined_180 ?_
      exact S_iret X (nle rfl) (nle rfl) dX1_joined_181 (hPo _ _ (⟨by subst hs_19; rw [w2_61, if_neg (by omega)], rfl⟩))
    ·
      refine S_iconst X dX1_joined_176 ?_
      refine S_goto (tgt := 181) X dX1_joined_177 (by decide) ?_
      exact S_iret X (nle rfl) (nle rfl) dX1_joined_181 (hPo _ _ (⟨by subst hs_19; rw [w2_61, if_pos (by omega)], rfl⟩))
  by_cases hs_21 : sg = 62
  · refine S_tswIn (j := 24) (tgt := 193) X dX1_joined_1 hs_21 rfl (by decide) (by decide) ?_
    refine S_iload_n X dX1_joined_193 rfl rfl ?_
    refine S_iload_n X dX1_joined_194 rfl rfl ?_
    refine S_icmp_le (tgt := 202) X dX1_joined_195 (by decide) (by omega) (by omega) (fun c_22 => ?_) (fun c_22 => ?_)
    ·
      refine S_iconst X dX1_joined_202 ?_
      exact S_iret X (nle rfl) (nle rfl) dX1_joined_203 (hPo _ _ (⟨by subst hs_21; rw [w2_62, if_neg (by omega)], rfl⟩))
    ·
      refine S_iconst X dX1_joined_198 ?_
      refine S_goto (tgt := 203) X dX1_joined_199 (by decide) ?_
      exact S_iret X (nle rfl) (nle rfl) dX1_joined_203 (hPo _ _ (⟨by subst hs_21; rw [w2_62, if_pos (by omega)], rfl⟩))
  by_cases hs_23 : sg = 39
  · refine S_tswIn (j := 1) (tgt := 208) X dX1_joined_1 hs_23 rfl (by decide) (by decide) ?_
    refine S_iload_n X dX1_joined_208 rfl rfl ?_
    refine S_iload_n X dX1_joined_209 rfl rfl ?_
    refine S_ior X dX1_joined_210 ?_
    exact S_iret X (nle rfl) (nle rfl) dX1_joined_211 (hPo _ _ ((by exfalso; unfold isArT isCmT isLoT at hty; omega)))
  by_cases hs_24 : sg = 40
  · refine S_tswIn (j := 2) (tgt := 208) X dX1_joined_1 hs_24 rfl (by decide) (by decide) ?_
    refine S_iload_n X dX1_joined_208 rfl rfl ?_
    refine S_iload_n X dX1_joined_209 rfl rfl ?_
    refine S_ior X dX1_joined_210 ?_
    exact S_iret X (nle rfl) (nle rfl) dX1_joined_211 (hPo _ _ ((by exfalso; unfold isArT isCmT isLoT at hty; omega)))
  by_cases hs_25 : sg = 41
  · refine S_tswIn (j := 3) (tgt := 208) X dX1_joined_1 hs_25 rfl (by decide) (by decide) ?_
    refine S_iload_n X dX1_joined_208 rfl rfl ?_
    refine S_iload_n X dX1_joined_209 rfl rfl ?_
    refine S_ior X dX1_joined_210 ?_
    exact S_iret X (nle rfl) (nle rfl) dX1_joined_211 (hPo _ _ ((by exfalso; unfold isArT isCmT isLoT at hty; omega)))
  by_cases hs_26 : sg = 44
  · refine S_tswIn (j := 6) (tgt := 208) X dX1_joined_1 hs_26 rfl (by decide) (by decide) ?_
    refine S_iload_n X dX1_joined_208 rfl rfl ?_
    refine S_iload_n X dX1_joined_209 rfl rfl ?_
    refine S_ior X dX1_joined_210 ?_
    exact S_iret X (nle rfl) (nle rfl) dX1_joined_211 (hPo _ _ ((by exfalso; unfold isArT isCmT isLoT at hty; omega)))
  by_cases hs_27 : sg = 46
  · refine S_tswIn (j := 8) (tgt := 208) X dX1_joined_1 hs_27 rfl (by decide) (by decide) ?_
    refine S_iload_n X dX1_joined_208 rfl rfl ?_
    refine S_iload_n X dX1_joined_209 rfl rfl ?_
    refine S_ior X dX1_joined_210 ?_
    exact S_iret X (nle rfl) (nle rfl) dX1_joined_211 (hPo _ _ ((by exfalso; unfold isArT isCmT isLoT at hty; omega)))
  by_cases hs_28 : sg = 48
  · refine S_tswIn (j := 10) (tgt := 208) X dX1_joined_1 hs_28 rfl (by decide) (by decide) ?_
    refine S_iload_n X dX1_joined_208 rfl rfl ?_
    refine S_iload_n X dX1_joined_209 rfl rfl ?_
    refine S_ior X dX1_joined_210 ?_
    exact S_iret X (nle rfl) (nle rfl) dX1_joined_211 (hPo _ _ ((by exfalso; unfold isArT isCmT isLoT at hty; omega)))
  by_cases hs_29 : sg = 49
  · refine S_tswIn (j := 11) (tgt := 208) X dX1_joined_1 hs_29 rfl (by decide) (by decide) ?_
    refine S_iload_n X dX1_joined_208 rfl rfl ?_
    refine S_iload_n X dX1_joined_209 rfl rfl ?_
    refine S_ior X dX1_joined_210 ?_
    exact S_iret X (nle rfl) (nle rfl) dX1_joined_211 (hPo _ _ ((by exfalso; unfold isArT isCmT isLoT at hty; omega)))
  by_cases hs_30 : sg = 50
  · refine S_tswIn (j := 12) (tgt := 208) X dX1_joined_1 hs_30 rfl (by decide) (by decide) ?_
    refine S_iload_n X dX1_joined_208 rfl rfl ?_
    refine S_iload_n X dX1_joined_209 rfl rfl ?_
    refine S_ior X dX1_joined_210 ?_
    exact S_iret X (nle rfl) (nle rfl) dX1_joined_211 (hPo _ _ ((by exfalso; unfold isArT isCmT isLoT at hty; omega)))
  by_cases hs_31 : sg = 51
  · refine S_tswIn (j := 13) (tgt := 208) X dX1_joined_1 hs_31 rfl (by decide) (by decide) ?_
    refine S_iload_n X dX1_joined_208 rfl rfl ?_
    refine S_iload_n X dX1_joined_209 rfl rfl ?_
    refine S_ior X dX1_joined_210 ?_
    exact S_iret X (nle rfl) (nle rfl) dX1_joined_211 (hPo _ _ ((by exfalso; unfold isArT isCmT isLoT at hty; omega)))
  by_cases hs_32 : sg = 52
  · refine S_tswIn (j := 14) (tgt := 208) X dX1_joined_1 hs_32 rfl (by decide) (by decide) ?_
    refine S_iload_n X dX1_joined_208 rfl rfl ?_
    refine S_iload_n X dX1_joined_209 rfl rfl ?_
    refine S_ior X dX1_joined_210 ?_
    exact S_iret X (nle rfl) (nle rfl) dX1_joined_211 (hPo _ _ ((by exfalso; unfold isArT isCmT isLoT at hty; omega)))
  by_cases hs_33 : sg = 53
  · refine S_tswIn (j := 15) (tgt := 208) X dX1_joined_1 hs_33 rfl (by decide) (by decide) ?_
    refine S_iload_n X dX1_joined_208 rfl rfl ?_
    refine S_iload_n X dX1_joined_209 rfl rfl ?_
    refine S_ior X dX1_joined_210 ?_
    exact S_iret X (nle rfl) (nle rfl) dX1_joined_211 (hPo _ _ ((by exfalso; unfold isArT isCmT isLoT at hty; omega)))
  by_cases hs_34 : sg = 54
  · refine S_tswIn (j := 16) (tgt := 208) X dX1_joined_1 hs_34 rfl (by decide) (by decide) ?_
    refine S_iload_n X dX1_joined_208 rfl rfl ?_
    refine S_iload_n X dX1_joined_209 rfl rfl ?_
    refine S_ior X dX1_joined_210 ?_
    exact S_iret X (nle rfl) (nle rfl) dX1_joined_211 (hPo _ _ ((by exfalso; unfold isArT isCmT isLoT at hty; omega)))
  by_cases hs_35 : sg = 55
  · refine S_tswIn (j := 17) (tgt := 208) X dX1_joined_1 hs_35 rfl (by decide) (by decide) ?_
    refine S_iload_n X dX1_joined_208 rfl rfl ?_
    refine S_iload_n X dX1_joined_209 rfl rfl ?_
    refine S_ior X dX1_joined_210 ?_
    exact S_iret X (nle rfl) (nle rfl) dX1_joined_211 (hPo _ _ ((by exfalso; unfold isArT isCmT isLoT at hty; omega)))
  by_cases hs_36 : sg = 56
  · refine S_tswIn (j := 18) (tgt := 208) X dX1_joined_1 hs_36 rfl (by decide) (by decide) ?_
    refine S_iload_n X dX1_joined_208 rfl rfl ?_
    refine S_iload_n X dX1_joined_209 rfl rfl ?_
    refine S_ior X dX1_joined_210 ?_
    exact S_iret X (nle rfl) (nle rfl) dX1_joined_211 (hPo _ _ ((by exfalso; unfold isArT isCmT isLoT at hty; omega)))
  by_cases hs_37 : sg = 57
  · refine S_tswIn (j := 19) (tgt := 208) X dX1_joined_1 hs_37 rfl (by decide) (by decide) ?_
    refine S_iload_n X dX1_joined_208 rfl rfl ?_
    refine S_iload_n X dX1_joined_209 rfl rfl ?_
    refine S_ior X dX1_joined_210 ?_
    exact S_iret X (nle rfl) (nle rfl) dX1_joined_211 (hPo _ _ ((by exfalso; unfold isArT isCmT isLoT at hty; omega)))
  by_cases hs_38 : sg = 58
  · refine S_tswIn (j := 20) (tgt := 208) X dX1_joined_1 hs_38 rfl (by decide) (by decide) ?_
    refine S_iload_n X dX1_joined_208 rfl rfl ?_
    refine S_iload_n X dX1_joined_209 rfl rfl ?_
    refine S_ior X dX1_joined_210 ?_
    exact S_iret X (nle rfl) (nle rfl) dX1_joined_211 (hPo _ _ ((by exfalso; unfold isArT isCmT isLoT at hty; omega)))
  by_cases hs_39 : sg = 59
  · refine S_tswIn (j := 21) (tgt := 208) X dX1_joined_1 hs_39 rfl (by decide) (by decide) ?_
    refine S_iload_n X dX1_joined_208 rfl rfl ?_
    refine S_iload_n X dX1_joined_209 rfl rfl ?_
    refine S_ior X dX1_joined_210 ?_
    exact S_iret X (nle rfl) (nle rfl) dX1_joined_211 (hPo _ _ ((by exfalso; unfold isArT isCmT isLoT at hty; omega)))
  refine S_tswOut (tgt := 208) X dX1_joined_1 (by omega) (by omega) (by decide) ?_
  refine S_iload_n X dX1_joined_208 rfl rfl ?_
  refine S_iload_n X dX1_joined_209 rfl rfl ?_
  refine S_ior X dX1_joined_210 ?_
  exact S_iret X (nle rfl) (nle rfl) dX1_joined_211 (hPo _ _ (⟨by have e9 : sg = 124 := (by unfold isArT isCmT isLoT at hty; omega); subst e9; have h9 := lo_of (a := a9) (b := b9) hty (Or.inr rfl); exact w2_124 h9.1 h9.2, rfl⟩))
set_option maxHeartbeats 4000000 in
set_option maxRecDepth 100000 in
theorem kX1_work (l : Launch) (oL : Nat) (fL : Nat → AV) (lS : Nat) (nc : Nat) (SS9 : Int → Int) (tp : Int) (kn : Int) (oW : Nat) (fW : Nat → AV) (pl : Int) (mt : Int) (sg : Int) (dd : Int) (o9 : Int) (st : List Int) (hf0 : fL 1 = rv lS) (hf1 : fW 0 = iv pl) (hf2 : fW 1 = iv mt) (hnc : nc ≤ 100000) (hsg : 1 ≤ sg ∧ sg ≤ 200) (hdd : 0 ≤ dd ∧ dd ≤ 2000) (hokt : okAt (nc : Int) (-sg) st) (htp : tp = (st.length : Int)) (htn : tp ≤ (nc : Int)) (hstk : stk SS9 st) : AMv l yX1_work cX1_work 6 2 0 0 [rv oL, iv sg, iv dd, iv o9, rv oW] [(oL, ob 1 (uF (uF fL 3 (iv tp)) 4 (iv kn))), (lS, ar nc SS9), (oW, ob 7 fW)] (fun u => ∃ S2 : Int → Int, ∃ t2 : Int, u = [(oL, ob 1 (uF (uF fL 3 (iv t2)) 4 (iv kn))), (lS, ar nc S2), (oW, ob 7 fW)] ∧ stk S2 (ev1 (envI dd mt pl o9) (-sg) st) ∧ t2 = ((ev1 (envI dd mt pl o9) (-sg) st).length : Int)) := by
  refine AMv.of2 rfl (nle rfl) ?_
  intro D G A p e s m args below meth c Po hPo hnm X
  refine S_iload_n X dX1_work_0 rfl rfl ?_
  by_cases hs_1 : sg = 33
  · refine S_lkp (v := 33) (tgt := 111) X dX1_work_1 hs_1 (by decide) rfl rfl (by decide) ?_
    obtain ⟨va, r9, rfl, h01⟩ := (okAt_not hokt (by rw [hs_1]; decide)).2
    have hs0 := hstk.1
    have hl9 := len_c (x := va) (r := r9)
    have hsv : SS9 (tp - 1) = va := by rw [show tp - 1 = (r9.length : Int) by omega]; exact hs0
    refine S_aload_n X dX1_work_111 rfl rfl ?_
    refine S_aload_n X dX1_work_112 rfl rfl ?_
    refine S_calli X (kX1_pop l oL fL lS nc SS9 tp kn hf0 (by omega) (by omega)) (is := [0, 1]) rfl (run_V X lkX1_40 0 rfl rfl (is := [0, 1]) (avs := []) (rest := [rv oL]) rfl rfl (nle rfl) ⟨nle rfl, nle rfl⟩ ⟨nle rfl, nle rfl⟩ dX1_work_113 (by decide) rfl) (fun z_4 u_2 hp_3 => ?_)
    obtain ⟨hz_5, hu_6⟩ := hp_3
    subst hz_5
    subst hu_6
    refine ⟨rfl, ?_⟩
    refine S_w (ws' := [(oL, ob 1 (uF (uF fL 3 (iv (tp - 1))) 4 (iv kn))), (lS, ar nc SS9), (oW, ob 7 fW)]) rfl ?_
    refine S_if_ne (tgt := 123) X dX1_work_116 (by decide) (by omega) (fun c_7 => ?_) (fun c_7 => ?_)
    ·
      refine S_iconst X dX1_work_123 ?_
      refine S_callv X (kX1_push l oL fL lS nc SS9 (tp - 1) kn 0 hf0 (by omega) (by omega)) (is := [0, 1]) rfl (run_V X lkX1_36 0 rfl rfl (is := [0, 1]) (avs := [iv 0]) (rest := []) rfl rfl (nle rfl) ⟨nle rfl, nle rfl⟩ ⟨nle rfl, nle rfl⟩ dX1_work_124 (by decide) rfl) (fun u_8 hp_9 => ?_)
      have hu_12 := hp_9
      subst hu_12
      refine ⟨rfl, ?_⟩
      refine S_w (ws' := [(oL, ob 1 (uF (uF fL 3 (iv ((tp - 1) + 1))) 4 (iv kn))), (lS, ar nc (uZ SS9 (tp - 1) 0)), (oW, ob 7 fW)]) rfl ?_
      refine S_goto (tgt := 150) X dX1_work_127 (by decide) ?_
      exact S_vret X (nle rfl) (nle rfl) dX1_work_150 (hPo _ (⟨_, _, rfl, by rw [hs_1, ev1_not (by decide)]; exact stk_top hstk.2 (by omega) (by omega), by rw [hs_1, ev1_not (by decide), len_c]; omega⟩))
    ·
      refine S_iconst X dX1_work_119 ?_
      refine S_goto (tgt := 124) X dX1_work_120 (by decide) ?_
      refine S_callv X (kX1_push l oL fL lS nc SS9 (tp - 1) kn 1 hf0 (by omega) (by omega)) (is := [0, 1]) rfl (run_V X lkX1_36 0 rfl rfl (is := [0, 1]) (avs := [iv 1]) (rest := []) rfl rfl (nle rfl) ⟨nle rfl, nle rfl⟩ ⟨nle rfl, nle rfl⟩ dX1_work_124 (by decide) rfl) (fun u_13 hp_14 => ?_)
      have hu_17 := hp_14
      subst hu_17
      refine ⟨rfl, ?_⟩
      refine S_w (ws' := [(oL, ob 1 (uF (uF fL 3 (iv ((tp - 1) + 1))) 4 (iv kn))), (lS, ar nc (uZ SS9 (tp - 1) 1)), (oW, ob 7 fW)]) rfl ?_
      refine S_goto (tgt := 150) X dX1_work_127 (by decide) ?_
      exact S_vret X (nle rfl) (nle rfl) dX1_work_150 (hPo _ (⟨_, _, rfl, by rw [hs_1, ev1_not (by decide)]; exact stk_top hstk.2 (by omega) (by omega), by rw [hs_1, ev1_not (by decide), len_c]; omega⟩))
  by_cases hs_18 : sg = 100
  · refine S_lkp (v := 100) (tgt := 60) X dX1_work_1 hs_18 (by decide) rfl rfl (by decide) ?_
    have hll := (okAt_let hokt (by rw [hs_18]; decide)).2
    refine S_aload_n X dX1_work_60 rfl rfl ?_
    refine S_iload_n X dX1_work_61 rfl rfl ?_
    refine S_callv X (kX1_push l oL fL lS nc SS9 tp kn dd hf0 (by omega) (by omega)) (is := [0, 1]) rfl (run_V X lkX1_36 0 rfl rfl (is := [0, 1]) (avs := [iv dd]) (rest := []) rfl rfl (nle rfl) ⟨nle rfl, nle rfl⟩ ⟨nle rfl, nle rfl⟩ dX1_work_62 (by decide) rfl) (fun u_19 hp_20 => ?_)
    have hu_23 := hp_20
    subst hu_23
    refine ⟨rfl, ?_⟩
    refine S_w (ws' := [(oL, ob 1 (uF (uF fL 3 (iv (tp + 1))) 4 (iv kn))), (lS, ar nc (uZ SS9 tp dd)), (oW, ob 7 fW)]) rfl ?_
    refine S_goto (tgt := 150) X dX1_work_65 (by decide) ?_
    exact S_vret X (nle rfl) (nle rfl) dX1_work_150 (hPo _ (⟨_, _, rfl, by rw [hs_18, ev1_let (by decide)]; exact stk_top hstk htp (by rw [env_d]), by rw [hs_18, ev1_let (by decide), len_c]; omega⟩))
  by_cases hs_24 : sg = 109
  · refine S_lkp (v := 109) (tgt := 79) X dX1_work_1 hs_24 (by decide) rfl rfl (by decide) ?_
    have hll := (okAt_let hokt (by rw [hs_24]; decide)).2
    refine S_aload_n X dX1_work_79 rfl rfl ?_
    refine S_aload X dX1_work_80 rfl ?_
    refine S_get X fgX1_48_7 2 rfl hf2 dX1_work_82 ?_
    refine S_callv X (kX1_push l oL fL lS nc SS9 tp kn mt hf0 (by omega) (by omega)) (is := [0, 1]) rfl (run_V X lkX1_36 0 rfl rfl (is := [0, 1]) (avs := [iv mt]) (rest := []) rfl rfl (nle rfl) ⟨nle rfl, nle rfl⟩ ⟨nle rfl, nle rfl⟩ dX1_work_85 (by decide) rfl) (fun u_25 hp_26 => ?_)
    have hu_29 := hp_26
    subst hu_29
    refine ⟨rfl, ?_⟩
    refine S_w (ws' := [(oL, ob 1 (uF (uF fL 3 (iv (tp + 1))) 4 (iv kn))), (lS, ar nc (uZ SS9 tp mt)), (oW, ob 7 fW)]) rfl ?_
    refine S_goto (tgt := 150) X dX1_work_88 (by decide) ?_
    exact S_vret X (nle rfl) (nle rfl) dX1_work_150 (hPo _ (⟨_, _, rfl, by rw [hs_24, ev1_let (by decide)]; exact stk_top hstk htp (by rw [env_m]), by rw [hs_24, ev1_let (by decide), len_c]; omega⟩))
  by_cases hs_30 : sg = 110
  · refine S_lkp (v := 110) (tgt := 91) X dX1_work_1 hs_30 (by decide) rfl rfl (by decide) ?_
    have hll := (okAt_let hokt (by rw [hs_30]; decide)).2
    refine S_aload_n X dX1_work_91 rfl rfl ?_
    refine S_aload X dX1_work_92 rfl ?_
    refine S_get X fgX1_53_7 2 rfl hf1 dX1_work_94 ?_
    refine S_callv X (kX1_push l oL fL lS nc SS9 tp kn pl hf0 (by omega) (by omega)) (is := [0, 1]) rfl (run_V X lkX1_36 0 rfl rfl (is := [0, 1]) (avs := [iv pl]) (rest := []) rfl rfl (nle rfl) ⟨nle rfl, nle rfl⟩ ⟨nle rfl, nle rfl⟩ dX1_work_97 (by decide) rfl) (fun u_31 hp_32 => ?_)
    have hu_35 := hp_32
    subst hu_35
    refine ⟨rfl, ?_⟩
    refine S_w (ws' := [(oL, ob 1 (uF (uF fL 3 (iv (tp + 1))) 4 (iv kn))), (lS, ar nc (uZ SS9 tp pl)), (oW, ob 7 fW)]) rfl ?_
    refine S_goto (tgt := 150) X dX1_work_100 (by decide) ?_
    exact S_vret X (nle rfl) (nle rfl) dX1_work_150 (hPo _ (⟨_, _, rfl, by rw [hs_30, ev1_let (by decide)]; exact stk_top hstk htp (by rw [env_n]), by rw [hs_30, ev1_let (by decide), len_c]; omega⟩))
  by_cases hs_36 : sg = 111
  · refine S_lkp (v := 111) (tgt := 103) X dX1_work_1 hs_36 (by decide) rfl rfl (by decide) ?_
    have hll := (okAt_let hokt (by rw [hs_36]; decide)).2
    refine S_aload_n X dX1_work_103 rfl rfl ?_
    refine S_iload_n X dX1_work_104 rfl rfl ?_
    refine S_callv X (kX1_push l oL fL lS nc SS9 tp kn o9 hf0 (by omega) (by omega)) (is := [0, 1]) rfl (run_V X lkX1_36 0 rfl rfl (is := [0, 1]) (avs := [iv o9]) (rest := []) rfl rfl (nle rfl) ⟨nle rfl, nle rfl⟩ ⟨nle rfl, nle rfl⟩ dX1_work_105 (by decide) rfl) (fun u_37 hp_38 => ?_)
    have hu_41 := hp_38
    subst hu_41
    refine ⟨rfl, ?_⟩
    refine S_w (ws' := [(oL, ob 1 (uF (uF fL 3 (iv (tp + 1))) 4 (iv kn))), (lS, ar nc (uZ SS9 tp o9)), (oW, ob 7 fW)]) rfl ?_
    refine S_goto (tgt := 150) X dX1_work_108 (by decide) ?_
    exact S_vret X (nle rfl) (nle rfl) dX1_work_150 (hPo _ (⟨_, _, rfl, by rw [hs_36, ev1_let (by decide)]; exact stk_top hstk htp (by rw [env_o]), by rw [hs_36, ev1_let (by decide), len_c]; omega⟩))
  by_cases hs_42 : sg = 119
  · refine S_lkp (v := 119) (tgt := 68) X dX1_work_1 hs_42 (by decide) rfl rfl (by decide) ?_
    have hll := (okAt_let hokt (by rw [hs_42]; decide)).2
    refine S_aload_n X dX1_work_68 rfl rfl ?_
    refine S_iload_n X dX1_work_69 rfl rfl ?_
    refine S_bipush X dX1_work_70 rfl ?_
    refine S_irem X (by omega) (by decide) (by decide) dX1_work_72 ?_
    refine S_callv X (kX1_push l oL fL lS nc SS9 tp kn (dd.tmod 7) hf0 (by omega) (by omega)) (is := [0, 1]) rfl (run_V X lkX1_36 0 rfl rfl (is := [0, 1]) (avs := [iv (dd.tmod 7)]) (rest := []) rfl rfl (nle rfl) ⟨nle rfl, nle rfl⟩ ⟨nle rfl, nle rfl⟩ dX1_work_73 (by decide) rfl) (fun u_43 hp_44 => ?_)
    have hu_47 := hp_44
    subst hu_47
    refine ⟨rfl, ?_⟩
    refine S_w (ws' := [(oL, ob 1 (uF (uF fL 3 (iv (tp + 1))) 4 (iv kn))), (lS, ar nc (uZ SS9 tp (dd.tmod 7))), (oW, ob 7 fW)]) rfl ?_
    refine S_goto (tgt := 150) X dX1_work_76 (by decide) ?_
    exact S_vret X (nle rfl) (nle rfl) dX1_work_150 (hPo _ (⟨_, _, rfl, by rw [hs_42, ev1_let (by decide)]; exact stk_top hstk htp (by rw [env_w]), by rw [hs_42, ev1_let (by decide), len_c]; omega⟩))
  refine S_lkpD (off := 129) (tgt := 130) X dX1_work_1 (by omega) rfl (by show (if (33 : Int) = sg then (110 : Int) else if (100 : Int) = sg then (59 : Int) else if (109 : Int) = sg then (78 : Int) else if (110 : Int) = sg then (90 : Int) else if (111 : Int) = sg then (102 : Int) else if (119 : Int) = sg then (67 : Int) else (129 : Int)) = 129; rw [if_neg (fun h9 => hs_1 h9.symm), if_neg (fun h9 => hs_18 h9.symm), if_neg (fun h9 => hs_24 h9.symm), if_neg (fun h9 => hs_30 h9.symm), if_neg (fun h9 => hs_36 h9.symm), if_neg (fun h9 => hs_42 h9.symm)]) (by decide) ?_
  have hk0 : ¬ kC (-sg) = 0 := fun h7 => by have := (okAt_num hokt h7).1; omega
  have hk1 : ¬ kC (-sg) = 1 := fun h7 => by have := okAt_lt hokt h7; omega
  have hk9 : ¬ kC (-sg) = 9 := fun h7 => by have := (okAt_not hokt h7).1; omega
  obtain ⟨vb, va, r9, rfl, hty, hia, hib⟩ := okAt_two hokt hk0 hk1 hk9
  have hs0 := hstk.1
  have hs1 := hstk.2.1
  have hl9 := len_c (x := vb) (r := va :: r9)
  have hl8 := len_c (x := va) (r := r9)
  have hsb : SS9 (tp - 1) = vb := by rw [show tp - 1 = ((va :: r9).length : Int) by omega]; exact hs0
  have hsa : SS9 (tp - 1 - 1) = va := by rw [show tp - 1 - 1 = (r9.length : Int) by omega]; exact hs1
  refine S_aload_n X dX1_work_130 rfl rfl ?_
  refine S_calli X (kX1_pop l oL fL lS nc SS9 tp kn hf0 (by omega) (by omega)) (is := [0, 1]) rfl (run_V X lkX1_40 0 rfl rfl (is := [0, 1]) (avs := []) (rest := []) rfl rfl (nle rfl) ⟨nle rfl, nle rfl⟩ ⟨nle rfl, nle rfl⟩ dX1_work_131 (by decide) rfl) (fun z_50 u_48 hp_49 => ?_)
  obtain ⟨hz_51, hu_52⟩ := hp_49
  subst hz_51
  subst hu_52
  refine ⟨rfl, ?_⟩
  refine S_w (ws' := [(oL, ob 1 (uF (uF fL 3 (iv (tp - 1))) 4 (iv kn))), (lS, ar nc SS9), (oW, ob 7 fW)]) rfl ?_
  refine S_istore X dX1_work_134 (nle rfl) ?_
  refine S_aload_n X dX1_work_136 rfl rfl ?_
  refine S_iload_n X dX1_work_137 rfl rfl ?_
  refine S_aload_n X dX1_work_138 rfl rfl ?_
  refine S_calli X (kX1_pop l oL fL lS nc SS9 (tp - 1) kn hf0 (by omega) (by omega)) (is := [0, 1]) rfl (run_V X lkX1_40 0 rfl rfl (is := [0, 1]) (avs := []) (rest := [iv sg, rv oL]) rfl rfl (nle rfl) ⟨nle rfl, nle rfl⟩ ⟨nle rfl, nle rfl⟩ dX1_work_139 (by decide) rfl) (fun z_55 u_53 hp_54 => ?_)
  obtain ⟨hz_56, hu_57⟩ := hp_54
  subst hz_56
  subst hu_57
  refine ⟨rfl, ?_⟩
  refine S_w (ws' := [(oL, ob 1 (uF (uF fL 3 (iv ((tp - 1) - 1))) 4 (iv kn))), (lS, ar nc SS9), (oW, ob 7 fW)]) rfl ?_
  refine S_iload X dX1_work_142 rfl ?_
  refine S_calli X (kX1_joined l sg (SS9 ((tp - 1) - 1)) (SS9 (tp - 1)) (by omega) (by rw [hsa, hsb]; exact hty) (by rw [hsa]; exact hia) (by rw [hsb]; exact hib)) (is := []) rfl (run_S X lkX1_56 (is := []) (avs := [iv sg, iv (SS9 ((tp - 1) - 1)), iv (SS9 (tp - 1))]) (rest := [rv oL]) rfl rfl (nle rfl) ⟨nle rfl, nle rfl⟩ ⟨nle rfl, nle rfl⟩ dX1_work_144 (by decide) rfl) (fun z_60 u_58 hp_59 => ?_)
  obtain ⟨hz_61, hu_62⟩ := hp_59
  subst hz_61
  subst hu_62
  refine ⟨rfl, ?_⟩
  refine S_w (ws' := [(oL, ob 1 (uF (uF fL 3 (iv ((tp - 1) - 1))) 4 (iv kn))), (lS, ar nc SS9), (oW, ob 7 fW)]) rfl ?_
  refine S_callv X (kX1_push l oL fL lS nc SS9 ((tp - 1) - 1) kn (wk2 (kC (-sg)) (SS9 ((tp - 1) - 1)) (SS9 (tp - 1))) hf0 (by omega) (by omega)) (is := [0, 1]) rfl (run_V X lkX1_36 0 rfl rfl (is := [0, 1]) (avs := [iv (wk2 (kC (-sg)) (SS9 ((tp - 1) - 1)) (SS9 (tp - 1)))]) (rest := []) rfl rfl (nle rfl) ⟨nle rfl, nle rfl⟩ ⟨nle rfl, nle rfl⟩ dX1_work_147 (by decide) rfl) (fun u_63 hp_64 => ?_)
  have hu_67 := hp_64
  subst hu_67
  refine ⟨rfl, ?_⟩
  refine S_w (ws' := [(oL, ob 1 (uF (uF fL 3 (iv (((tp - 1) - 1) + 1))) 4 (iv kn))), (lS, ar nc (uZ SS9 ((tp - 1) - 1) (wk2 (kC (-sg)) (SS9 ((tp - 1) - 1)) (SS9 (tp - 1))))), (oW, ob 7 fW)]) rfl ?_
  exact S_vret X (nle rfl) (nle rfl) dX1_work_150 (hPo _ (⟨_, _, rfl, by rw [ev1_two hk0 hk1 hk9]; exact stk_top hstk.2.2 (by omega) (by rw [hsa, hsb]), by rw [ev1_two hk0 hk1 hk9, len_c]; omega⟩))
set_option maxHeartbeats 4000000 in
set_option maxRecDepth 100000 in
theorem kX1_worth (l : Launch) (oL : Nat) (fL : Nat → AV) (lC : Nat) (lS : Nat) (lK : Nat) (nc : Nat) (nk : Nat) (CC : Int → Int) (SS9 : Int → Int) (KK : Int → Int) (tp : Int) (kn : Int) (oW : Nat) (fW : Nat → AV) (pl : Int) (mt : Int) (dd : Int) (o9 : Int) (cs : List (List Int × List Int)) (hf0 : fL 0 = rv lC) (hf1 : fL 1 = rv lS) (hf2 : fL 2 = rv lK) (hf3 : fW 0 = iv pl) (hf4 : fW 1 = iv mt) (hnc : nc ≤ 160 ∧ (nc : Int) = ((flatLaw cs).length : Int)) (hcc : ∀ (j : Nat) (u : Int), (flatLaw cs)[j]? = some u → CC (0 + j) = u) (hcb : ∀ j, 0 ≤ j → j < (nc : Int) → -200 ≤ CC j ∧ CC j ≤ 9999) (hdd : 0 ≤ dd ∧ dd ≤ 2000) (hol : okLaw cs) (hen : ∀ j, inB (envI dd mt pl o9 j)) : AMi l yX1_worth cX1_worth 7 .int 3 0 0 [rv oL, iv dd, iv o9, rv oW] [(oL, ob 1 (uF (uF fL 3 (iv tp)) 4 (iv kn))), (lC, ar nc CC), (lS, ar nc SS9), (lK, ar nk KK), (oW, ob 7 fW)] (fun z u => ∃ S2 : Int → Int, ∃ t2 : Int, z = wth (envI dd mt pl o9) cs ∧ u = [(oL, ob 1 (uF (uF fL 3 (iv t2)) 4 (iv kn))), (lC, ar nc CC), (lS, ar nc S2), (lK, ar nk KK), (oW, ob 7 fW)]) := by
  refine AMi.of2 rfl (nle rfl) ?_
  intro D G A p e s m args below meth c Po hPo X
  have hcl := cls_ok hen hol
  rw [← hnc.2] at hcl
  refine S_aload_n X dX1_worth_0 rfl rfl ?_
  refine S_iconst X dX1_worth_1 ?_
  refine S_put X fpX1_33_1 0 rfl FT_i dX1_worth_2 ?_
  refine S_w (ws' := [(oL, ob 1 (uF (uF fL 3 (iv 0)) 4 (iv kn))), (lC, ar nc CC), (lS, ar nc SS9), (lK, ar nk KK), (oW, ob 7 fW)]) (by simp only [List.set]; rw [uF_mv (j := 4) (k := 3) (by decide), uF_same (k := 3)]) ?_
  refine S_iconst X dX1_worth_5 ?_
  refine S_istore X dX1_worth_6 (nle rfl) ?_
  refine S_iconst X dX1_worth_8 ?_
  refine S_istore X dX1_worth_9 (nle rfl) ?_
  have lp11_0 : ∀ (N : Nat) (i : Int) (sk : Int) (b9 : Bool) (rs : List Int) (st : List Int) (t1 : Int) (Sv : Int → Int) (L : Nat → Option AV), 0 ≤ i ∧ i + (rs.length : Int) = (nc : Int) → (sk = 0 ∧ b9 = false) ∨ (sk = 1 ∧ b9 = true) → (∀ (j : Nat) (u : Int), rs[j]? = some u → CC (i + j) = u) → clsR (envI dd mt pl o9) rs st b9 = wth (envI dd mt pl o9) cs → clsO (envI dd mt pl o9) (nc : Int) rs st b9 → t1 = (st.length : Int) → t1 ≤ (nc : Int) → stk Sv st → L 0 = some (rv oL) → L 1 = some (iv dd) → L 2 = some (iv o9) → L 3 = some (rv oW) → L 4 = some (iv sk) → L 5 = some (iv i) → (nc : Int) + 1 - i < (N : Int) → S_ p l e (rmD 3 0 0) s m args below meth c (MQ below (QcI D G A Po) args s 0 0 A) D G A 7 0 0 11 L [] [(oL, ob 1 (uF (uF fL 3 (iv t1)) 4 (iv kn))), (lC, ar nc CC), (lS, ar nc Sv), (lK, ar nk KK), (oW, ob 7 fW)] := by
    intro N
    induction N with
    | zero =>
      intro i sk b9 rs st t1 Sv L11 hi hsk hcr hrr hoo ht1 ht1b hstk hL11_0 hL11_1 hL11_2 hL11_3 hL11_4 hL11_5 hN11
      exfalso; omega
    | succ N ih11 =>
      intro i sk b9 rs st t1 Sv L11 hi hsk hcr hrr hoo ht1 ht1b hstk hL11_0 hL11_1 hL11_2 hL11_3 hL11_4 hL11_5 hN11
      refine S_iload X dX1_worth_11 hL11_5 ?_
      refine S_aload_n X dX1_worth_13 rfl hL11_0 ?_
      refine S_get X fgX1_9_1 0 rfl hf0 dX1_worth_14 ?_
      refine S_alen X 1 rfl dX1_worth_17 ?_
      refine S_icmp_ge (tgt := 118) X dX1_worth_18 (by decide) (by omega) (by omega) (fun c_1 => ?_) (fun c_1 => ?_)
      ·
        refine S_iconst X dX1_worth_118 ?_
        exact S_iret X (nle rfl) (nle rfl) dX1_worth_119 (hPo _ _ (⟨_, _, by rw [← hrr, show rs = [] from List.length_eq_zero_iff.mp (by omega)]; cases b9 <;> rfl, rfl⟩))
      ·
        obtain ⟨t, rs2, rfl⟩ : ∃ t rs2, rs = t :: rs2 := by
          cases rs with
          | nil => exfalso; simp only [List.length_nil] at hi; omega
          | cons t rs2 => exact ⟨t, rs2, rfl⟩
        have hct := hcr 0 t rfl
        rw [show i + ((0 : Nat) : Int) = i by omega] at hct
        have htr := hcb i (by omega) (by omega)
        have hln := len_c (x := t) (r := rs2)
        have hcr2 : ∀ (j : Nat) (u : Int), rs2[j]? = some u → CC (i + 1 + j) = u := fun j u hu => by have := hcr (j + 1) u hu; rwa [show i + ((j + 1 : Nat) : Int) = i + 1 + j by omega] at this
        refine S_aload_n X dX1_worth_21 rfl hL11_0 ?_
        refine S_get X fgX1_9_1 0 rfl hf0 dX1_worth_22 ?_
        refine S_iload X dX1_worth_25 hL11_5 ?_
        refine S_iald X 1 rfl (by omega) (by omega) (by omega) dX1_worth_27 ?_
        refine S_istore X dX1_worth_28 (nle rfl) ?_
        refine S_iload X dX1_worth_30 hL11_4 ?_
        refine S_if_eq (tgt := 52) X dX1_worth_32 (by decide) (by omega) (fun c_2 => ?_) (fun c_2 => ?_)
        ·
          have hb9 : b9 = false := hsk.elim (fun q9 => q9.2) (fun q9 => by exfalso; omega)
          refine S_iload X dX1_worth_52 rfl ?_
          refine S_if_lt (tgt := 66) X dX1_worth_54 (by decide) (by omega) (fun c_3 => ?_) (fun c_3 => ?_)
          ·
            refine S_iload X dX1_worth_66 rfl ?_
            refine S_bipush X dX1_worth_68 rfl ?_
            refine S_icmp_ne (tgt := 78) X dX1_worth_70 (by decide) (by omega) (by decide) (fun c_4 => ?_) (fun c_4 => ?_)
            ·
              refine S_iload X dX1_worth_78 rfl ?_
              refine S_bipush X dX1_worth_80 rfl ?_
              refine S_icmp_ne (tgt := 102) X dX1_worth_82 (by decide) (by omega) (by decide) (fun c_5 => ?_) (fun c_5 => ?_)
              ·
                have hoo2 : okAt (nc : Int) t st ∧ clsO (envI dd mt pl o9) (nc : Int) rs2 (ev1 (envI dd mt pl o9) t st) false := by rw [hb9, clsO, if_neg (by omega), if_neg (by omega)] at hoo; exact hoo
                have htt : - -CC i = t := by omega
                refine S_aload_n X dX1_worth_102 rfl hL11_0 ?_
                refine S_iload X dX1_worth_103 rfl ?_
                refine S_ineg X dX1_worth_105 ?_
                refine S_iload_n X dX1_worth_106 rfl hL11_1 ?_
                refine S_iload_n X dX1_worth_107 rfl hL11_2 ?_
                refine S_aload_n X dX1_worth_108 rfl hL11_3 ?_
                refine S_callv X (kX1_work l oL fL lS nc Sv t1 kn oW fW pl mt (-(CC i)) dd o9 _ hf1 hf3 hf4 (by omega) (by omega) (by omega) (by rw [htt]; exact hoo2.1) (by omega) (by omega) hstk) (is := [0, 2, 4]) rfl (run_V X lkX1_44 0 rfl rfl (is := [0, 2, 4]) (avs := [iv (-(CC i)), iv dd, iv o9, rv oW]) (rest := []) rfl rfl (nle rfl) ⟨nle rfl, nle rfl⟩ ⟨nle rfl, nle rfl⟩ dX1_worth_109 (by decide) rfl) (fun u_6 hp_7 => ?_)
                obtain ⟨S2_9, t2_10, hu_12, hst2_13, ht2_14⟩ := hp_7
                subst hu_12
                refine ⟨rfl, ?_⟩
                refine S_w (ws' := [(oL, ob 1 (uF (uF fL 3 (iv t2_10)) 4 (iv kn))), (lC, ar nc CC), (lS, ar nc S2_9), (lK, ar nk KK), (oW, ob 7 fW)]) rfl ?_
                have hw1 := hst2_13
                have hw2 := ht2_14
                rw [htt] at hw1 hw2
                have hw3 := ev_len hoo2.1 (e := envI dd mt pl o9) (by omega)
                refine S_iinc X dX1_worth_112 (nle rfl) hL11_5 ?_
                refine S_goto (tgt := 11) X dX1_worth_115 (by decide) ?_
                exact ih11 (i + 1) sk _ _ _ t2_10 S2_9 _ (by omega) (Or.inl ⟨by omega, rfl⟩) (hcr2) (by rw [← hrr, hb9, clsR, if_neg (by omega), if_neg (by omega)]) (hoo2.2) (hw2) (by omega) (hw1) hL11_0 hL11_1 hL11_2 hL11_3 hL11_4 rfl (by omega)
              ·
                have hoq : (∃ v r, st = v :: r) ∧ (∀ x ∈ st, inB x) ∧ clsO (envI dd mt pl o9) (nc : Int) rs2 (tl0 st) (decide (hd0 st = 0)) := by rw [hb9, clsO, if_neg (by omega), if_pos (by omega)] at hoo; exact hoo
                obtain ⟨v9, r9, rfl⟩ := hoq.1
                have hl9 := len_c (x := v9) (r := r9)
                have hs0 := hstk.1
                have hv9 : Sv (t1 - 1) = v9 := by rw [show t1 - 1 = (r9.length : Int) by omega]; exact hs0
                have hvr := hoq.2.1 v9 (by simp)
                unfold inB at hvr
                refine S_aload_n X dX1_worth_85 rfl hL11_0 ?_
                refine S_calli X (kX1_pop l oL fL lS nc Sv t1 kn hf1 (by omega) (by omega)) (is := [0, 2]) rfl (run_V X lkX1_40 0 rfl rfl (is := [0, 2]) (avs := []) (rest := []) rfl rfl (nle rfl) ⟨nle rfl, nle rfl⟩ ⟨nle rfl, nle rfl⟩ dX1_worth_86 (by decide) rfl) (fun z_17 u_15 hp_16 => ?_)
                obtain ⟨hz_18, hu_19⟩ := hp_16
                subst hz_18
                subst hu_19
                refine ⟨rfl, ?_⟩
                refine S_w (ws' := [(oL, ob 1 (uF (uF fL 3 (iv (t1 - 1))) 4 (iv kn))), (lC, ar nc CC), (lS, ar nc Sv), (lK, ar nk KK), (oW, ob 7 fW)]) rfl ?_
                refine S_if_ne (tgt := 96) X dX1_worth_89 (by decide) (by omega) (fun c_20 => ?_) (fun c_20 => ?_)
                ·
                  refine S_iconst X dX1_worth_96 ?_
                  refine S_istore X dX1_worth_97 (nle rfl) ?_
                  refine S_goto (tgt := 112) X dX1_worth_99 (by decide) ?_
                  refine S_iinc X dX1_worth_112 (nle rfl) hL11_5 ?_
                  refine S_goto (tgt := 11) X dX1_worth_115 (by decide) ?_
                  exact ih11 (i + 1) 0 _ _ _ (t1 - 1) Sv _ (by omega) (Or.inl ⟨rfl, rfl⟩) (hcr2) (by rw [← hrr, hb9, clsR, if_neg (by omega), if_pos (by omega)]; show _ = clsR _ rs2 r9 (decide (v9 = 0)); rw [decide_eq_false (by omega)]) (by have h9 : clsO _ _ rs2 r9 (decide (v9 = 0)) := hoq.2.2; rw [decide_eq_false (by omega)] at h9; exact h9) (by omega) (by omega) (hstk.2) hL11_0 hL11_1 hL11_2 hL11_3 rfl rfl (by omega)
                ·
                  refine S_iconst X dX1_worth_92 ?_
                  refine S_goto (tgt := 97) X dX1_worth_93 (by decide) ?_
                  refine S_istore X dX1_worth_97 (nle rfl) ?_
                  refine S_goto (tgt := 112) X dX1_worth_99 (by decide) ?_
                  refine S_iinc X dX1_worth_112 (nle rfl) hL11_5 ?_
                  refine S_goto (tgt := 11) X dX1_worth_115 (by decide) ?_
                  exact ih11 (i + 1) 1 _ _ _ (t1 - 1) Sv _ (by omega) (Or.inr ⟨rfl, rfl⟩) (hcr2) (by rw [← hrr, hb9, clsR, if_neg (by omega), if_pos (by omega)]; show _ = clsR _ rs2 r9 (decide (v9 = 0)); rw [decide_eq_true (by omega)]) (by have h9 : clsO _ _ rs2 r9 (decide (v9 = 0)) := hoq.2.2; rw [decide_eq_true (by omega)] at h9; exact h9) (by omega) (by omega) (hstk.2) hL11_0 hL11_1 hL11_2 hL11_3 rfl rfl (by omega)
            ·
              rw [hb9, clsO, if_pos (by omega)] at hoo
              obtain ⟨⟨v9, r9, rfl⟩, hbd⟩ := hoo
              have hl9 := len_c (x := v9) (r := r9)
              have hs0 := hstk.1
              refine S_aload_n X dX1_worth_73 rfl hL11_0 ?_
              refine S_calli X (kX1_pop l oL fL lS nc Sv t1 kn hf1 (by omega) (by omega)) (is := [0, 2]) rfl (run_V X lkX1_40 0 rfl rfl (is := [0, 2]) (avs := []) (rest := []) rfl rfl (nle rfl) ⟨nle rfl, nle rfl⟩ ⟨nle rfl, nle rfl⟩ dX1_worth_74 (by decide) rfl) (fun z_23 u_21 hp_22 => ?_)
              obtain ⟨hz_24, hu_25⟩ := hp_22
              subst hz_24
              subst hu_25
              refine ⟨rfl, ?_⟩
              refine S_w (ws' := [(oL, ob 1 (uF (uF fL 3 (iv (t1 - 1))) 4 (iv kn))), (lC, ar nc CC), (lS, ar nc Sv), (lK, ar nk KK), (oW, ob 7 fW)]) rfl ?_
              exact S_iret X (nle rfl) (nle rfl) dX1_worth_77 (hPo _ _ (⟨_, _, by rw [← hrr, hb9, clsR, if_pos (by omega), show t1 - 1 = (r9.length : Int) by omega, hs0]; rfl, rfl⟩))
          ·
            have hkn : kC t = 0 := by unfold kC; rw [if_pos (by omega)]
            have hoo2 : okAt (nc : Int) t st ∧ clsO (envI dd mt pl o9) (nc : Int) rs2 (ev1 (envI dd mt pl o9) t st) false := by rw [hb9, clsO, if_neg (by omega), if_neg (by omega)] at hoo; exact hoo
            have hnn := okAt_num hoo2.1 hkn
            refine S_aload_n X dX1_worth_57 rfl hL11_0 ?_
            refine S_iload X dX1_worth_58 rfl ?_
            refine S_callv X (kX1_push l oL fL lS nc Sv t1 kn (CC i) hf1 (by omega) (by omega)) (is := [0, 2]) rfl (run_V X lkX1_36 0 rfl rfl (is := [0, 2]) (avs := [iv (CC i)]) (rest := []) rfl rfl (nle rfl) ⟨nle rfl, nle rfl⟩ ⟨nle rfl, nle rfl⟩ dX1_worth_60 (by decide) rfl) (fun u_26 hp_27 => ?_)
            have hu_30 := hp_27
            subst hu_30
            refine ⟨rfl, ?_⟩
            refine S_w (ws' := [(oL, ob 1 (uF (uF fL 3 (iv (t1 + 1))) 4 (iv kn))), (lC, ar nc CC), (lS, ar nc (uZ Sv t1 (CC i))), (lK, ar nk KK), (oW, ob 7 fW)]) rfl ?_
            refine S_goto (tgt := 112) X dX1_worth_63 (by decide) ?_
            refine S_iinc X dX1_worth_112 (nle rfl) hL11_5 ?_
            refine S_goto (tgt := 11) X dX1_worth_115 (by decide) ?_
            exact ih11 (i + 1) sk _ _ _ (t1 + 1) (uZ Sv t1 (CC i)) _ (by omega) (Or.inl ⟨by omega, rfl⟩) (hcr2) (by rw [← hrr, hb9, clsR, if_neg (by omega), if_neg (by omega), ev1_num hkn]) (by rw [ev1_num hkn] at hoo2; exact hoo2.2) (by rw [len_c]; omega) (by omega) (stk_top hstk ht1 hct) hL11_0 hL11_1 hL11_2 hL11_3 hL11_4 rfl (by omega)
        ·
          have hb9 : b9 = true := hsk.elim (fun q9 => by exfalso; omega) (fun q9 => q9.2)
          refine S_iload X dX1_worth_35 rfl ?_
          refine S_bipush X dX1_worth_37 rfl ?_
          refine S_icmp_eq (tgt := 46) X dX1_worth_39 (by decide) (by omega) (by decide) (fun c_31 => ?_) (fun c_31 => ?_)
          ·
            refine S_iconst X dX1_worth_46 ?_
            refine S_istore X dX1_worth_47 (nle rfl) ?_
            refine S_goto (tgt := 112) X dX1_worth_49 (by decide) ?_
            refine S_iinc X dX1_worth_112 (nle rfl) hL11_5 ?_
            refine S_goto (tgt := 11) X dX1_worth_115 (by decide) ?_
            exact ih11 (i + 1) 0 _ _ _ t1 Sv _ (by omega) (Or.inl ⟨rfl, rfl⟩) (hcr2) (by rw [← hrr, hb9, clsR, decide_eq_false (by omega)]) (by rw [hb9, clsO, decide_eq_false (by omega)] at hoo; exact hoo) (ht1) (ht1b) (hstk) hL11_0 hL11_1 hL11_2 hL11_3 rfl rfl (by omega)
          ·
            refine S_iconst X dX1_worth_42 ?_
            refine S_goto (tgt := 47) X dX1_worth_43 (by decide) ?_
            refine S_istore X dX1_worth_47 (nle rfl) ?_
            refine S_goto (tgt := 112) X dX1_worth_49 (by decide) ?_
            refine S_iinc X dX1_worth_112 (nle rfl) hL11_5 ?_
            refine S_goto (tgt := 11) X dX1_worth_115 (by decide) ?_
            exact ih11 (i + 1) 1 _ _ _ t1 Sv _ (by omega) (Or.inr ⟨rfl, rfl⟩) (hcr2) (by rw [← hrr, hb9, clsR, decide_eq_true (by omega)]) (by rw [hb9, clsO, decide_eq_true (by omega)] at hoo; exact hoo) (ht1) (ht1b) (hstk) hL11_0 hL11_1 hL11_2 hL11_3 rfl rfl (by omega)
  exact lp11_0 (Int.toNat ((nc : Int) + 1 - 0) + 1) 0 0 _ _ _ 0 SS9 _ (by omega) (Or.inl ⟨rfl, rfl⟩) (hcc) (hcl.1) (hcl.2) (rfl) (by omega) (trivial) rfl rfl rfl rfl rfl rfl (by omega)
