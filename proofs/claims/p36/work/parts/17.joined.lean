/- 80.clone.lean.txt -/
section pt_80clone
/-! AN ARRAY COPIED BY ITS OWN WORD, AND CALLED AGAIN WHAT IT IS -/
section CL
variable {p : Program} {l : Launch} {e : Env} {R : Room} {s : State} {m : MethodId} {args : Array Value} {below : List Frame} {meth : Method} {c : Code} {Q : State → Prop} {D : va_G} {G : GG} {A : Nat → Prop} {cc : ByteArray} {nL cells slots pc : Nat} {rt : Option FieldType} {own : String} {L : Nat → Option AV} {st : List AV} {ws : EW}
theorem cat_sum : ∀ t : List AV, ((t.map tV).map (fun v => v.category)).sum = t.length := by
  intro t
  induction t with
  | nil => rfl
  | cons v t ih =>
    rw [List.map_cons, List.map_cons, List.sum_cons, ih, List.length_cons]
    rcases v with z | _ | _
    · show 1 + _ = _; omega
    · show 1 + _ = _; omega
    · show 1 + _ = _; omega
theorem cI (X : Cx p s m args meth c D G A cc nL rt own) : s.vm.findClass "[I" = some G.1 := by
  have h2 : s.vm.findClass ("[" ++ FieldType.int.toString) = some G.1 := (X.2.2.2.2.2.1.2 0 (G.1, .int) rfl).2
  have e : "[" ++ FieldType.int.toString = "[I" := by decide
  rwa [e] at h2
theorem S_clone (X : Cx p s m args meth c D G A cc nL rt own) {idx : Nat} (k1 : Cond.methodLink own idx ⟨"[I", "clone", "()Ljava/lang/Object;"⟩ ∈ uw) (k2 : Cond.sameMethod "[I" "java/lang/Object" "clone" "()Ljava/lang/Object;" ∈ uw) (k3 : Cond.native ⟨"java/lang/Object", "clone", "()Ljava/lang/Object;"⟩ ∈ uw) (k4 : Cond.instanceMethod ⟨"java/lang/Object", "clone", "()Ljava/lang/Object;"⟩ ∈ uw) (k5 : Cond.selects "[I" ⟨"[I", "clone", "()Ljava/lang/Object;"⟩ ⟨"java/lang/Object", "clone", "()Ljava/lang/Object;"⟩ ∈ uw) (k6 : Cond.castable "[I" "java/lang/Cloneable" ∈ nw) (q0 : Nat) {a n : Nat} {g : Int → Int} (ha : ws[q0]? = some (a, ar n g)) (hf : 1 ≤ R.frames) (hl2 : st.length + 14 ≤ R.locals) (hc : cells + 1 ≤ R.cells) (hs : slots + n ≤ R.slots) (hdg : decode cc pc = .ok (.invokevirtual idx, 3))
    (k : ∀ q : Nat, S_ p l e R s m args below meth c Q D G A nL (cells + 1) (slots + n) (pc + 3) L (rv q :: st) (ws ++ [(q, ar n g)])) : S_ p l e R s m args below meth c Q D G A nL cells slots pc L (rv a :: st) ws := by
  intro H locs ls hP hD hS hl
  refine va_clone (ty := .int) (x := (n, .inl (fun j => i32 (g (j : Int))))) X.1 X.2.1 (X.2.2.1.trans hl.1.symm) X.2.2.2.1 (X.2.2.2.2.1 _ k1) (X.2.2.2.2.1 _ k2) (X.2.2.2.2.1 _ k3) (X.2.2.2.2.1 _ k4) (X.2.2.2.2.1 _ k5) (X.2.2.2.2.2.2.2.1.1 _ k6) X.2.2.2.2.2.1 hP hD hS X.2.2.2.2.2.2.1 q0 0 (tW_at ha) rfl (cI X) (va_fit (fun i hi => rfl)) hf ?_ hc hs hdg (fun q H1 hK1 hP1 hD1 hS1 => ?_)
  · have := cat_sum st
    show ((st.map tV).map (fun v => v.category)).sum + 14 ≤ R.locals
    rw [this]
    exact hl2
  · have e2 : tW G (ws ++ [(q, ar n g)]) = tW G ws ++ [(q, .inl (G.1, (n, .inl (fun j => i32 (g (j : Int))))))] := by unfold tW; rw [List.map_append]; rfl
    exact k q H1 locs ls (by rw [e2]; exact hP1) (by rw [e2]; exact hD1) hS1 hl
theorem S_castI (X : Cx p s m args meth c D G A cc nL rt own) {idx : Nat} (k1 : Cond.classLink own idx "[I" ∈ uw) (q0 : Nat) {a n : Nat} {g : Int → Int} (ha : ws[q0]? = some (a, ar n g)) (hdg : decode cc pc = .ok (.checkcast idx, 3)) (k : S_ p l e R s m args below meth c Q D G A nL cells slots (pc + 3) L (rv a :: st) ws) : S_ p l e R s m args below meth c Q D G A nL cells slots pc L (rv a :: st) ws := by
  intro H locs ls hP hD hS hl
  exact va_castA X.1 X.2.1 X.2.2.2.1 (X.2.2.2.2.1 _ k1) hP q0 (tW_at ha) (cI X) hdg (k H locs ls hP hD hS hl)
end CL
end pt_80clone
/- 81.claw2.lean.txt -/
section pt_81claw2

set_option maxHeartbeats 4000000 in
set_option maxRecDepth 100000 in
theorem kJ7_copyOf_59c91 (l : Launch) (a9 : Nat) (n9 : Nat) (g9 : Int → Int) (N : Nat) (hN : N ≤ n9 ∧ n9 ≤ 160) : AMr l yJ7_copyOf_59c91 cJ7_copyOf_59c91 3 (.array .int) 1 1 160 [rv a9, iv (N : Int)] [(a9, ar n9 g9)] (fun z u => ∃ g2 : Int → Int, u = [(a9, ar n9 g9), (z, ar N g2)] ∧ (∀ j, 0 ≤ j → j < (N : Int) → g2 j = g9 j)) := by
  refine AMr.of2 rfl (nle rfl) ?_
  intro D G A p e s m args below meth c Po hPo X
  refine S_iload_n X dJ7_copyOf_59c91_0 rfl rfl ?_
  refine S_aload_n X dJ7_copyOf_59c91_1 rfl rfl ?_
  refine S_alen X 0 rfl dJ7_copyOf_59c91_2 ?_
  refine S_icmp_ne (tgt := 14) X dJ7_copyOf_59c91_3 (by decide) (by omega) (by omega) (fun c_1 => ?_) (fun c_1 => ?_)
  ·
    refine S_iload_n X dJ7_copyOf_59c91_14 rfl rfl ?_
    refine S_newa (N := N) X m130 (by omega) (nle rfl) (by first | exact nle rfl | (simp only [rmD]; omega) | omega) dJ7_copyOf_59c91_15 (fun q_2 => ?_)
    refine S_w (ws' := [(a9, ar n9 g9), (q_2, ar N (fun _ => 0))]) rfl ?_
    refine S_astore_n X dJ7_copyOf_59c91_17 rfl (nle rfl) ?_
    refine S_aload_n X dJ7_copyOf_59c91_18 rfl rfl ?_
    refine S_iconst X dJ7_copyOf_59c91_19 ?_
    refine S_aload_n X dJ7_copyOf_59c91_20 rfl rfl ?_
    refine S_iconst X dJ7_copyOf_59c91_21 ?_
    refine S_aload_n X dJ7_copyOf_59c91_22 rfl rfl ?_
    refine S_alen X 0 rfl dJ7_copyOf_59c91_23 ?_
    refine S_iload_n X dJ7_copyOf_59c91_24 rfl rfl ?_
    refine S_mmin X lkJ7_304 rfl rfl (by omega) (by omega) (nle rfl) (nle rfl) (nle rfl) (by first | exact nle rfl | (simp only [rmD]; omega) | omega) dJ7_copyOf_59c91_25 ?_
    refine S_copy (sp := 0) (dp := 0) (n := min (n9 : Int) (N : Int)) X m668 m632 m631 m97 0 1 rfl rfl (by decide) (by decide) (by omega) (by omega) (by omega) (by omega) (by omega) (nle rfl) (nle rfl) dJ7_copyOf_59c91_28 ?_
    refine S_w (ws' := [(a9, ar n9 g9), (q_2, ar N (cpZ g9 (fun _ => 0) 0 0 (min (n9 : Int) (N : Int))))]) rfl ?_
    refine S_aload_n X dJ7_copyOf_59c91_31 rfl rfl ?_
    exact S_aret X (Or.inr ⟨_, rfl⟩) (by first | exact nle rfl | (simp only [rmD]; omega) | omega) (by first | exact nle rfl | (simp only [rmD]; omega) | omega) dJ7_copyOf_59c91_32 (hPo _ _ (⟨_, rfl, fun j h0 h1 => cpZ_in ⟨h0, by omega⟩⟩))
  ·
    refine S_aload_n X dJ7_copyOf_59c91_6 rfl rfl ?_
    refine S_clone X m658 m659 m660 m661 m662 mn663 0 rfl (nle rfl) (nle rfl) (nle rfl) (by first | exact nle rfl | (simp only [rmD]; omega) | omega) dJ7_copyOf_59c91_7 (fun q_3 => ?_)
    refine S_w (ws' := [(a9, ar n9 g9), (q_3, ar n9 g9)]) rfl ?_
    refine S_castI X m664 1 rfl dJ7_copyOf_59c91_10 ?_
    exact S_aret X (Or.inr ⟨_, rfl⟩) (by first | exact nle rfl | (simp only [rmD]; omega) | omega) (by first | exact nle rfl | (simp only [rmD]; omega) | omega) dJ7_copyOf_59c91_13 (hPo _ _ (⟨_, by rw [show N = n9 by omega], fun j h0 h1 => rfl⟩))
set_option maxHeartbeats 4000000 in
set_option maxRecDepth 100000 in
theorem kX1_init (l : Launch) (oL : Nat) (aC : Nat) (nc : Nat) (CC : Int → Int) (hnc : nc ≤ 160) (hCr : ∀ j, 0 ≤ j → j < (nc : Int) → inR (CC j)) : AMv l yX1_init cX1_init 4 1 2 1160 [rv oL, rv aC] [(oL, ob 1 fzX1), (aC, ar nc CC)] (fun u => (∃ b1 : Nat, ∃ b2 : Nat, u = [(oL, ob 1 (uF (uF (uF fzX1 0 (rv aC)) 1 (rv b1)) 2 (rv b2))), (aC, ar nc CC), (b1, ar nc (fun _ => 0)), (b2, ar 1000 (fun _ => 0))]) ∨ (∃ b1 : Nat, ∃ b2 : Nat, u = [(oL, ob 1 (uF (uF (uF fzX1 0 (rv aC)) 1 (rv b1)) 2 (rv b2))), (aC, ar nc CC), (b1, ar nc (fun _ => 0)), (b2, ar 0 (fun _ => 0))] ∧ (∀ j, 0 ≤ j → j < (nc : Int) → CC j ≠ -111))) := by
  refine AMv.of2 rfl (nle rfl) ?_
  intro D G A p e s m args below meth c Po hPo hnm X
  refine S_aload_n X dX1_init_0 rfl rfl ?_
  refine S_obj X m672 m112 m113 dX1_init_1 (nle rfl) (nle rfl) ?_
  refine S_iconst X dX1_init_4 ?_
  refine S_istore_n X dX1_init_5 rfl (nle rfl) ?_
  refine S_iconst X dX1_init_6 ?_
  refine S_istore_n X dX1_init_7 rfl (nle rfl) ?_
  have lp8_0 : ∀ (N : Nat) (i : Int) (b : Int) (L : Nat → Option AV), 0 ≤ i ∧ i ≤ (nc : Int) → b = 0 ∨ b = 1 → (b = 1 ∨ ∀ j, 0 ≤ j → j < i → CC j ≠ -111) → L 0 = some (rv oL) → L 1 = some (rv aC) → L 2 = some (iv b) → L 3 = some (iv i) → (nc : Int) + 1 - i < (N : Int) → S_ p l e (rmD 1 2 1160) s m args below meth c (MQ below (QcV D G A Po) args s 2 1160 A) D G A 4 0 0 8 L [] [(oL, ob 1 fzX1), (aC, ar nc CC)] := by
    intro N
    induction N with
    | zero =>
      intro i b L8 hi hb hno hL8_0 hL8_1 hL8_2 hL8_3 hN8
      exfalso; omega
    | succ N ih8 =>
      intro i b L8 hi hb hno hL8_0 hL8_1 hL8_2 hL8_3 hN8
      refine S_iload_n X dX1_init_8 rfl hL8_3 ?_
      refine S_aload_n X dX1_init_9 rfl hL8_1 ?_
      refine S_alen X 1 rfl dX1_init_10 ?_
      refine S_icmp_ge (tgt := 30) X dX1_init_11 (by decide) (by omega) (by omega) (fun c_1 => ?_) (fun c_1 => ?_)
      ·
        refine S_aload_n X dX1_init_30 rfl hL8_0 ?_
        refine S_aload_n X dX1_init_31 rfl hL8_1 ?_
        refine S_putF X hnm fpX1_9_1 0 rfl FT_a dX1_init_32 ?_
        refine S_w (ws' := [(oL, ob 1 (uF fzX1 0 (rv aC))), (aC, ar nc CC)]) rfl ?_
        refine S_aload_n X dX1_init_35 rfl hL8_0 ?_
        refine S_aload_n X dX1_init_36 rfl hL8_1 ?_
        refine S_alen X 1 rfl dX1_init_37 ?_
        refine S_newa (N := nc) X m130 (by omega) (nle rfl) (by first | exact nle rfl | (simp only [rmD]; omega) | omega) dX1_init_38 (fun q_2 => ?_)
        refine S_w (ws' := [(oL, ob 1 (uF fzX1 0 (rv aC))), (aC, ar nc CC), (q_2, ar nc (fun _ => 0))]) rfl ?_
        refine S_putF X hnm fpX1_15_1 0 rfl FT_a dX1_init_40 ?_
        refine S_w (ws' := [(oL, ob 1 (uF (uF fzX1 0 (rv aC)) 1 (rv q_2))), (aC, ar nc CC), (q_2, ar nc (fun _ => 0))]) rfl ?_
        refine S_aload_n X dX1_init_43 rfl hL8_0 ?_
        refine S_iload_n X dX1_init_44 rfl hL8_2 ?_
        refine S_if_eq (tgt := 54) X dX1_init_45 (by decide) (by omega) (fun c_3 => ?_) (fun c_3 => ?_)
        ·
          refine S_iconst X dX1_init_54 ?_
          refine S_newa (N := 0) X m130 (by decide) (nle rfl) (by first | exact nle rfl | (simp only [rmD]; omega) | omega) dX1_init_55 (fun q_4 => ?_)
          refine S_w (ws' := [(oL, ob 1 (uF (uF fzX1 0 (rv aC)) 1 (rv q_2))), (aC, ar nc CC), (q_2, ar nc (fun _ => 0)), (q_4, ar 0 (fun _ => 0))]) rfl ?_
          refine S_putF X hnm fpX1_18_1 0 rfl FT_a dX1_init_57 ?_
          refine S_w (ws' := [(oL, ob 1 (uF (uF (uF fzX1 0 (rv aC)) 1 (rv q_2)) 2 (rv q_4))), (aC, ar nc CC), (q_2, ar nc (fun _ => 0)), (q_4, ar 0 (fun _ => 0))]) rfl ?_
          exact S_vret X (nle rfl) (by first | exact nle rfl | (simp only [rmD]; omega) | omega) dX1_init_60 (hPo _ (Or.inr ⟨_, _, rfl, fun j h0 h1 => (hno.resolve_left (by omega)) j h0 (by omega)⟩))
        ·
          refine S_sipush X dX1_init_48 rfl ?_
          refine S_goto (tgt := 55) X dX1_init_51 (by decide) ?_
          refine S_newa (N := 1000) X m130 (by decide) (nle rfl) (by first | exact nle rfl | (simp only [rmD]; omega) | omega) dX1_init_55 (fun q_5 => ?_)
          refine S_w (ws' := [(oL, ob 1 (uF (uF fzX1 0 (rv aC)) 1 (rv q_2))), (aC, ar nc CC), (q_2, ar nc (fun _ => 0)), (q_5, ar 1000 (fun _ => 0))]) rfl ?_
          refine S_putF X hnm fpX1_18_1 0 rfl FT_a dX1_init_57 ?_
          refine S_w (ws' := [(oL, ob 1 (uF (uF (uF fzX1 0 (rv aC)) 1 (rv q_2)) 2 (rv q_5))), (aC, ar nc CC), (q_2, ar nc (fun _ => 0)), (q_5, ar 1000 (fun _ => 0))]) rfl ?_
          exact S_vret X (nle rfl) (by first | exact nle rfl | (simp only [rmD]; omega) | omega) dX1_init_60 (hPo _ (Or.inl ⟨_, _, rfl⟩))
      ·
        have hC9 := hCr i (by omega) (by omega)
        refine S_aload_n X dX1_init_14 rfl hL8_1 ?_
        refine S_iload_n X dX1_init_15 rfl hL8_3 ?_
        refine S_iald X 1 rfl (by omega) (by omega) (by omega) dX1_init_16 ?_
        refine S_bipush X dX1_init_17 rfl ?_
        refine S_icmp_ne (tgt := 24) X dX1_init_19 (by decide) (by omega) (by decide) (fun c_6 => ?_) (fun c_6 => ?_)
        ·
          refine S_iinc X dX1_init_24 (nle rfl) hL8_3 ?_
          refine S_goto (tgt := 8) X dX1_init_27 (by decide) ?_
          exact ih8 (i + 1) b _ (by omega) (by omega) (hno.imp id (fun h9 j h0 h1 => (by omega : j < i ∨ j = i).elim (fun q9 => h9 j h0 q9) (fun q9 => by rw [q9]; omega))) hL8_0 hL8_1 hL8_2 rfl (by omega)
        ·
          refine S_iconst X dX1_init_22 ?_
          refine S_istore_n X dX1_init_23 rfl (nle rfl) ?_
          refine S_iinc X dX1_init_24 (nle rfl) hL8_3 ?_
          refine S_goto (tgt := 8) X dX1_init_27 (by decide) ?_
          exact ih8 (i + 1) 1 _ (by omega) (by omega) (Or.inl rfl) hL8_0 hL8_1 rfl rfl (by omega)
  exact lp8_0 (Int.toNat ((nc : Int) + 1 - 0) + 1) 0 0 _ (by omega) (by omega) (Or.inr (fun j h0 h1 => by omega)) rfl rfl rfl rfl (by omega)
set_option maxHeartbeats 4000000 in
set_option maxRecDepth 100000 in
theorem kX2_toLaw (l : Launch) (oZ : Nat) (fZ : Nat → AV) (hC : Nat) (C : Int → Int) (nc : Nat) (hf0 : fZ 3 = rv hC) (hf1 : fZ 4 = iv (nc : Int)) (hnc : nc ≤ 160) (hCr : ∀ j, 0 ≤ j → j < (nc : Int) → inR (C j)) : AMr l yX2_toLaw cX2_toLaw 1 (.object "BorrowedBeat$Law") 2 4 1325 [rv oZ] [(oZ, ob 2 fZ), (hC, ar 160 C)] (fun z u => (∃ g2 : Int → Int, ∃ c1 : Nat, ∃ b1 : Nat, ∃ b2 : Nat, u = [(oZ, ob 2 fZ), (hC, ar 160 C), (z, ob 1 (uF (uF (uF fzX1 0 (rv c1)) 1 (rv b1)) 2 (rv b2))), (c1, ar nc g2), (b1, ar nc (fun _ => 0)), (b2, ar 1000 (fun _ => 0))] ∧ (∀ j, 0 ≤ j → j < (nc : Int) → g2 j = C j)) ∨ (∃ g2 : Int → Int, ∃ c1 : Nat, ∃ b1 : Nat, ∃ b2 : Nat, u = [(oZ, ob 2 fZ), (hC, ar 160 C), (z, ob 1 (uF (uF (uF fzX1 0 (rv c1)) 1 (rv b1)) 2 (rv b2))), (c1, ar nc g2), (b1, ar nc (fun _ => 0)), (b2, ar 0 (fun _ => 0))] ∧ (∀ j, 0 ≤ j → j < (nc : Int) → g2 j = C j) ∧ (∀ j, 0 ≤ j → j < (nc : Int) → C j ≠ -111))) := by
  refine AMr.of2 rfl (nle rfl) ?_
  intro D G A p e s m args below meth c Po hPo X
  refine S_new (ci := 1) (f0 := fzX1) X tyX1 iuX1 tyX1_ok m653 m654 m99 rfl fzX1_ok (nle rfl) (nle rfl) dX2_toLaw_0 (fun q_1 => ?_)
  refine S_w (ws' := [(oZ, ob 2 fZ), (hC, ar 160 C), (q_1, ob 1 fzX1)]) rfl ?_
  refine S_dup X dX2_toLaw_3 ?_
  refine S_aload_n X dX2_toLaw_4 rfl rfl ?_
  refine S_get X fgX2_11_2 0 rfl hf0 dX2_toLaw_5 ?_
  refine S_aload_n X dX2_toLaw_8 rfl rfl ?_
  refine S_get X fgX2_17_2 0 rfl hf1 dX2_toLaw_9 ?_
  refine S_callrA [0, 2] (wr := [(oZ, ob 2 fZ), (q_1, ob 1 fzX1)]) X (kJ7_copyOf_59c91 l hC 160 C nc (by omega)) (is := [1]) rfl rfl (by decide) (by decide) (run_S X lkX2_23 (is := [1]) (avs := [rv hC, iv (nc : Int)]) (rest := [rv q_1, rv q_1]) rfl rfl (nle rfl) ⟨nle rfl, nle rfl⟩ ⟨nle rfl, nle rfl⟩ dX2_toLaw_12 (by decide) rfl) (fun z_4 u_2 hp_3 => ?_)
  obtain ⟨g2_5, hu_7, hg2_8⟩ := hp_3
  subst hu_7
  refine S_w (ws' := [(oZ, ob 2 fZ), (q_1, ob 1 fzX1), (hC, ar 160 C), (z_4, ar nc g2_5)]) rfl ?_
  have hg9 := hg2_8
  refine S_callvA [0, 2] (wr := [(oZ, ob 2 fZ), (hC, ar 160 C)]) X (kX1_init l q_1 z_4 nc g2_5 (by omega) (fun j h0 h1 => by rw [hg9 j h0 h1]; exact hCr j h0 h1)) (is := [1, 3]) rfl rfl (by decide) (by decide) (run_I X lkX2_29 (is := [1, 3]) (avs := [rv z_4]) (rest := [rv q_1]) rfl rfl (nle rfl) ⟨nle rfl, nle rfl⟩ ⟨nle rfl, nle rfl⟩ dX2_toLaw_15 (by decide) rfl) (fun u_9 hp_10 => ?_)
  rcases hp_10 with ⟨b1_12, b2_13, hu_15⟩ | ⟨b1_16, b2_17, hu_19, hno_20⟩
  ·
    subst hu_15
    refine S_w (ws' := [(oZ, ob 2 fZ), (hC, ar 160 C), (q_1, ob 1 (uF (uF (uF fzX1 0 (rv z_4)) 1 (rv b1_12)) 2 (rv b2_13))), (z_4, ar nc g2_5), (b1_12, ar nc (fun _ => 0)), (b2_13, ar 1000 (fun _ => 0))]) rfl ?_
    exact S_aret X (Or.inl ⟨_, rfl⟩) (nle rfl) (nle rfl) dX2_toLaw_18 (hPo _ _ (Or.inl ⟨_, _, _, _, rfl, hg9⟩))
  ·
    subst hu_19
    refine S_w (ws' := [(oZ, ob 2 fZ), (hC, ar 160 C), (q_1, ob 1 (uF (uF (uF fzX1 0 (rv z_4)) 1 (rv b1_16)) 2 (rv b2_17))), (z_4, ar nc g2_5), (b1_16, ar nc (fun _ => 0)), (b2_17, ar 0 (fun _ => 0))]) rfl ?_
    have hno9 := hno_20
    exact S_aret X (Or.inl ⟨_, rfl⟩) (nle rfl) (nle rfl) dX2_toLaw_18 (hPo _ _ (Or.inr ⟨_, _, _, _, rfl, hg9, fun j h0 h1 => by rw [← hg9 j h0 h1]; exact hno9 j h0 h1⟩))
end pt_81claw2
/- 82.lawnew.lean.txt -/
section pt_82lawnew
/-! A NEW LAW, AT THE END OF THE OTHERS -/
theorem uF_id2 {α : Type} {f : Nat → α} {k : Nat} {v : α} (h : f k = v) : uF f k v = f := by
  funext j
  unfold uF
  split
  · rename_i e; rw [e]; exact h.symm
  · rfl
theorem lwT_snoc : ∀ (ds : List LwS) (ys : Nat → LwY) (x : LwS) (v : LwY), lwT (ds ++ [x]) (uN ys ds.length v) = lwT ds ys ++ lwC x v
  | [], ys, x, v => by
    show lwC x (uN ys 0 v 0) ++ [] = [] ++ lwC x v
    rw [uN_at, List.append_nil, List.nil_append]
  | z :: r, ys, x, v => by
    show lwC z (uN ys (r.length + 1) v 0) ++ lwT (r ++ [x]) (fun j => uN ys (r.length + 1) v (j + 1)) = lwC z (ys 0) ++ lwT r (fun j => ys (j + 1)) ++ lwC x v
    have e : (fun j => uN ys (r.length + 1) v (j + 1)) = uN (fun j => ys (j + 1)) r.length v := by
      funext j
      unfold uN
      by_cases hj : j = r.length
      · rw [if_pos hj, if_pos (by omega)]
      · rw [if_neg hj, if_neg (by omega)]
    rw [e, lwT_snoc r (fun j => ys (j + 1)) x v, show uN ys (r.length + 1) v 0 = ys 0 from if_neg (by omega), List.append_assoc]
theorem lwR_snoc {ds : List LwS} {x : LwS} {i : Int} (hi : i = (ds.length : Int)) : uZ (lwR ds) i (some x.o) = lwR (ds ++ [x]) := by
  funext j
  unfold uZ lwR
  by_cases h : j = i
  · rw [if_pos h, if_pos (by omega), show j.toNat = ds.length by omega]
    simp
  · rw [if_neg h]
    by_cases h0 : 0 ≤ j
    · rw [if_pos h0, if_pos h0]
      by_cases h1 : j < i
      · rw [List.getElem?_append_left (by omega)]
      · rw [List.getElem?_eq_none (by omega), List.getElem?_eq_none (by rw [List.length_append, List.length_singleton]; omega)]
    · rw [if_neg h0, if_neg h0]
theorem okW.snoc {ds : List LwS} {ys : Nat → LwY} {mt pl : Int} {x : LwS} {v : LwY} (h : okW ds ys mt pl) (hx : lwSok x) (hv : v.kn = 0) : okW (ds ++ [x]) (uN ys ds.length v) mt pl := fun j z hz => by
  by_cases hj : j < ds.length
  · rw [List.getElem?_append_left hj] at hz
    rw [show uN ys ds.length v j = ys j from if_neg (by omega)]
    exact h j z hz
  · have hj2 : j = ds.length := by
      have := (List.getElem?_eq_some_iff.mp hz).1
      rw [List.length_append, List.length_singleton] at this
      omega
    subst hj2
    rw [List.getElem?_append_right (Nat.le_refl _), Nat.sub_self] at hz
    cases hz
    rw [uN_at]
    refine ⟨hx, ?_, ?_⟩
    · rw [hv]; omega
    · intro a a0 a1; rw [hv] at a1; omega
theorem csA_snoc {ds : List LwS} {x : LwS} {ho : Int} (h0 : 0 ≤ ho) (h1 : ho < (ds.length : Int)) : csA (ds ++ [x]) ho = csA ds ho := by
  unfold csA
  rw [List.getElem?_append_left (by omega)]
section AA
variable {p : Program} {l : Launch} {e : Env} {R : Room} {s : State} {m : MethodId} {args : Array Value} {below : List Frame} {meth : Method} {c : Code} {Q : State → Prop} {D : va_G} {G : GG} {A : Nat → Prop} {cc : ByteArray} {nL cells slots pc : Nat} {rt : Option FieldType} {own : String} {L : Nat → Option AV} {st : List AV} {ws : EW}
theorem S_aaq (X : Cx p s m args meth c D G A cc nL rt own) (q0 qk : Nat) {a n v : Nat} {g : Int → Option Nat} {fv : Nat → AV} {z : Int} (ha : ws[q0]? = some (a, aq n g)) (hv : ws[qk]? = some (v, ob 1 fv)) (h0 : 0 ≤ z) (h1 : z < n) (hn : n ≤ 2147483647) (hdg : decode cc pc = .ok (.aastore, 1)) (k : S_ p l e R s m args below meth c Q D G A nL cells slots (pc + 1) L st (ws.set q0 (a, aq n (uZ g z (some v))))) : S_ p l e R s m args below meth c Q D G A nL cells slots pc L (rv v :: iv z :: rv a :: st) ws := by
  intro H locs ls hP hD hS hl
  refine va_astq X.1 X.2.1 X.2.2.2.2.2.1 hP hD hS q0 1 qk 1 (tW_at ha) rfl (tW_at hv) rfl (i32_vp h0 h1 hn) hdg (fun H1 locs1 hP1 hD1 hS1 => ?_)
  have e1 : (fun j : Nat => uZ g z (some v) (j : Int)) = va_up (fun j : Nat => g (j : Int)) (i32 z).toNatClampNeg (some v) := by
    funext j
    unfold uZ va_up
    rw [i32_nat h0 ⟨by omega, by omega⟩]
    by_cases hj : (j : Int) = z
    · rw [if_pos hj, if_pos (by omega)]
    · rw [if_neg hj, if_neg (by omega)]
  have e2 : tW G (ws.set q0 (a, aq n (uZ g z (some v)))) = (tW G ws).set q0 (a, .inl (G.2.1, n, .inr (.inr (.inr (.inr (va_up (fun j => g (j : Int)) (i32 z).toNatClampNeg (some v))))))) := by
    rw [← e1]
    unfold tW
    rw [List.map_set]
    rfl
  exact k H1 locs1 ls (by rw [e2]; exact hP1) (by rw [e2]; exact hD1) hS1 hl
end AA
theorem lwSok_new {T C CC : Int → Int} {n : Int} {cs : List (List Int × List Int)} {o c s k nc nk : Nat} {f : Nat → AV} (hn : n ≤ 160) (h0 : 0 ≤ n) (h : pLawLS T n 161 0 [] = .inr cs) (hf : f 0 = rv c ∧ f 1 = rv s ∧ f 2 = rv k) (hnc : (nc : Int) = ((flatLaw cs).length : Int)) (hnc2 : nc ≤ 160) (hC : ∀ j, 0 ≤ j → j < (nc : Int) → CC j = wrL C 0 (flatLaw cs) j) (hr : ∀ t ∈ flatLaw cs, -200 ≤ t ∧ t ≤ 9999) (hk : nk = 1000 ∨ (nk = 0 ∧ ∀ j, 0 ≤ j → j < (nc : Int) → wrL C 0 (flatLaw cs) j ≠ -111)) : lwSok (lwS0 o c s k f nc nk CC cs) := by
  have hat : ∀ (j : Nat) (u : Int), (flatLaw cs)[j]? = some u → CC (0 + j) = u := fun j u hu => by
    have hj := (List.getElem?_eq_some_iff.mp hu).1
    rw [hC (0 + j) (by omega) (by omega)]
    exact wrL_in hu
  have hin : ∀ j, 0 ≤ j → j < (nc : Int) → ∃ u, u ∈ flatLaw cs ∧ CC j = u := fun j a0 a1 => by
    have hj : j.toNat < (flatLaw cs).length := by omega
    refine ⟨(flatLaw cs)[j.toNat], List.getElem_mem hj, ?_⟩
    have := hat j.toNat _ (List.getElem?_eq_getElem hj)
    rwa [show (0 : Int) + (j.toNat : Int) = j by omega] at this
  refine ⟨hf, ⟨hnc2, hnc⟩, hat, fun j a0 a1 => ?_, okLaw_read hn h0 h, ?_⟩
  · obtain ⟨u, hu, e⟩ := hin j a0 a1
    show -200 ≤ CC j ∧ CC j ≤ 9999
    rw [e]; exact hr u hu
  · rcases hk with hk | ⟨hk, hk2⟩
    · exact Or.inl hk
    · refine Or.inr ⟨hk, fun t ht e => ?_⟩
      have ht9 : t ∈ flatLaw cs := ht
      obtain ⟨j, hj, hjt⟩ := List.getElem_of_mem ht9
      refine hk2 (j : Int) (by omega) (by omega) ?_
      rw [← hC (j : Int) (by omega) (by omega)]
      have := hat j t (by rw [List.getElem?_eq_getElem hj, hjt])
      rw [show (0 : Int) + (j : Int) = j by omega] at this
      rw [this, e]
theorem perm_mid (a b c : EW) : (a ++ b ++ c).Perm (a ++ c ++ b) := by
  rw [List.append_assoc, List.append_assoc]
  exact (List.perm_append_comm).append_left a
theorem lw_add {w : EW} {ds : List LwS} {ys : Nat → LwY} {z c s k nc nk : Nat} {f : Nat → AV} {CC : Int → Int} {cs : List (List Int × List Int)} (h3 : f 3 = iv 0) (h4 : f 4 = iv 0) : (w ++ [(z, ob 1 f), (c, ar nc CC), (s, ar nc (fun _ => 0)), (k, ar nk (fun _ => 0))] ++ lwT ds ys).Perm (w ++ lwT (ds ++ [lwS0 z c s k f nc nk CC cs]) (uN ys ds.length (lwY0 (fun _ => 0) (fun _ => 0) 0 0))) := by
  have e : lwC (lwS0 z c s k f nc nk CC cs) (lwY0 (fun _ => 0) (fun _ => 0) 0 0) = [(z, ob 1 f), (c, ar nc CC), (s, ar nc (fun _ => 0)), (k, ar nk (fun _ => 0))] := by
    show [(z, ob 1 (uF (uF f 3 (iv 0)) 4 (iv 0))), (c, ar nc CC), (s, ar nc (fun _ => 0)), (k, ar nk (fun _ => 0))] = _
    rw [uF_id2 (f := f) h3, uF_id2 h4]
  rw [lwT_snoc, e, List.append_assoc]
  exact (List.perm_append_comm).append_left w
theorem law_cs {T : Int → Int} {n : Int} {ts : List Int} (hn : n ≤ 160) (h0 : 0 ≤ n) (h : lwRes T n = .inr ts) : ∃ cs, pLawLS T n 161 0 [] = .inr cs ∧ flatLaw cs = ts := by
  rw [lw_rel hn h0] at h
  cases e : pLawLS T n 161 0 [] with
  | inl f => rw [e] at h; cases h
  | inr cs =>
    rw [e] at h
    cases h
    exact ⟨cs, rfl, rfl⟩
theorem wr_rng {C : Int → Int} {ts : List Int} {nc : Nat} (hr : ∀ t ∈ ts, -200 ≤ t ∧ t ≤ 9999) (hn : (nc : Int) = 0 + (ts.length : Int)) : ∀ j, 0 ≤ j → j < (nc : Int) → inR (wrL C 0 ts j) := fun j a0 a1 => by
  have hj : j.toNat < ts.length := by omega
  have e := wrL_in (g := C) (k := 0) (List.getElem?_eq_getElem hj)
  rw [show (0 : Int) + (j.toNat : Int) = j by omega] at e
  have := hr _ (List.getElem_mem hj)
  rw [e]
  constructor <;> omega
theorem perm_blk (a b c t : EW) : (a ++ b ++ c ++ t).Perm (a ++ c ++ b ++ t) := (perm_mid a b c).append_right t
end pt_82lawnew
/- 83.ctext.lean.txt -/
section pt_83ctext

set_option maxHeartbeats 4000000 in
set_option maxRecDepth 100000 in
theorem kX11_text (l : Launch) (h0 : Nat) (f : Nat → AV) (ht : Nat) (ft : Nat → AV) (tn : Int) (hb : Nat) (T : Int → Int) (oR : Nat) (fR : Nat → AV) (a1 : Int) (w1 : Int) (x1 : Int) (od : Nat) (fd : Nat → AV) (pl : Int) (mt : Int) (dB : Nat) (dD : Nat) (dK : Nat) (dF : Nat) (dH : Nat) (R : Int → Int → Int) (oZ : Nat) (fZ : Nat → AV) (a3 : Int) (w3 : Int) (x3 : Int) (hC : Nat) (C : Int → Int) (rl : Int) (oW : Nat) (fW : Nat → AV) (p0 : Int) (m0 : Int) (wB : Nat) (wD : Nat) (wK : Nat) (wF : Nat) (wH : Nat) (WB : Int → Int) (WD : Int → Int) (WK : Int → Int) (WF : Int → Int) (WH : Int → Int) (oS : Nat) (fS : Nat → AV) (s0 : Int) (n : Int) (ec : Int) (mk : Int) (aB : Nat) (aF : Nat) (aH : Nat) (aL : Nat) (B : Int → Int) (Fo : Int → Int) (Ho : Int → Int) (Lt : Int → Int) (oD : Nat) (fD : Nat → AV) (td : Int) (un : Int) (hi : Int) (im : Int) (nx : Int) (oK : Nat) (fK : Nat → AV) (kk : Int) (ds : List LwS) (ys : Nat → LwY) (mt0 : Int) (pl0 : Int) (lw : Int) (oA : Nat) (v : Int) (hf0 : f 0 = rv ht) (hf1 : f 1 = rv oR) (hf2 : f 3 = rv oW) (hf3 : f 4 = rv oA) (hf4 : f 5 = rv oD) (hf5 : f 7 = rv oS) (hf6 : f 11 = rv oK) (hf7 : fR 3 = rv od) (hf8 : fW 2 = rv wB) (hf9 : fW 3 = rv wD) (hf10 : fW 4 = rv wK) (hf11 : fW 5 = rv wF) (hf12 : fW 6 = rv wH) (hf13 : fS 4 = rv aB) (hf14 : fS 5 = rv aF) (hf15 : fS 6 = rv aH) (hf16 : fS 7 = rv aL) (hf17 : f 2 = rv oZ) (hf18 : fR 0 = rv ht) (hf19 : fZ 0 = rv ht) (hf20 : fZ 3 = rv hC) (hf21 : ft 0 = rv hb) (hf22 : fd 2 = rv dB) (hf23 : fd 3 = rv dD) (hf24 : fd 4 = rv dK) (hf25 : fd 5 = rv dF) (hf26 : fd 6 = rv dH) (hT : okT T tn) (htn : 0 ≤ tn ∧ tn ≤ 160) (hx_v : inR v) (hds : (ds.length : Int) = lw ∧ 0 ≤ lw ∧ lw ≤ 4) (hdy : okW ds ys mt0 pl0) : AMi l yX11_text cX11_text 2 .int 33 4 1325 [rv h0, iv v] ([(h0, ob 10 (uF (uF f 13 (iv lw)) 15 (iv rl))), (ht, ob 6 (uF ft 1 (iv tn))), (hb, ar 160 T), (oR, ob 8 (uF (uF (uF fR 1 (iv a1)) 2 (iv w1)) 4 (iv x1))), (od, ob 7 (uF (uF fd 0 (iv pl)) 1 (iv mt))), (dB, ar 6 (colR R 0)), (dD, ar 6 (colR R 1)), (dK, ar 6 (colR R 2)), (dF, ar 6 (colR R 3)), (dH, ar 6 (colR R 4)), (oZ, ob 2 (uF (uF (uF fZ 1 (iv a3)) 2 (iv w3)) 4 (iv x3))), (hC, ar 160 C), (oW, ob 7 (uF (uF fW 0 (iv p0)) 1 (iv m0))), (wB, ar 6 WB), (wD, ar 6 WD), (wK, ar 6 WK), (wF, ar 6 WF), (wH, ar 6 WH), (oS, ob 5 (uF (uF (uF (uF fS 0 (iv s0)) 1 (iv n)) 2 (iv ec)) 3 (iv mk))), (aB, ar 6 B), (aF, ar 6 Fo), (aH, ar 6 Ho), (aL, ar 6 Lt), (oD, ob 0 (uF (uF (uF (uF (uF fD 0 (iv td)) 1 (iv un)) 2 (iv hi)) 3 (iv im)) 4 (iv nx))), (oK, ob 9 (uF fK 0 (iv kk))), (oA, aq 4 (lwR ds))] ++ (lwT ds ys)) (fun z u => (z = -1 ∧ u = ([(h0, ob 10 (uF (uF f 13 (iv lw)) 15 (iv rl))), (ht, ob 6 (uF ft 1 (iv tn))), (hb, ar 160 T), (oR, ob 8 (uF (uF (uF fR 1 (iv a1)) 2 (iv w1)) 4 (iv x1))), (od, ob 7 (uF (uF fd 0 (iv pl)) 1 (iv mt))), (dB, ar 6 (colR R 0)), (dD, ar 6 (colR R 1)), (dK, ar 6 (colR R 2)), (dF, ar 6 (colR R 3)), (dH, ar 6 (colR R 4)), (oZ, ob 2 (uF (uF (uF fZ 1 (iv a3)) 2 (iv w3)) 4 (iv x3))), (hC, ar 160 C), (oW, ob 7 (uF (uF fW 0 (iv p0)) 1 (iv m0))), (wB, ar 6 WB), (wD, ar 6 WD), (wK, ar 6 WK), (wF, ar 6 WF), (wH, ar 6 WH), (oS, ob 5 (uF (uF (uF (uF fS 0 (iv s0)) 1 (iv n)) 2 (iv ec)) 3 (iv mk))), (aB, ar 6 B), (aF, ar 6 Fo), (aH, ar 6 Ho), (aL, ar 6 Lt), (oD, ob 0 (uF (uF (uF (uF (uF fD 0 (iv td)) 1 (iv un)) 2 (iv hi)) 3 (iv im)) 4 (iv nx))), (oK, ob 9 (uF fK 0 (iv kk))), (oA, aq 4 (lwR ds))] ++ (lwT ds ys)) ∧ (v ≠ 0 ∧ v ≠ 1)) ∨ (∃ fl : Int, ∃ a2 : Int, ∃ x2 : Int, ∃ p2 : Int, ∃ m2 : Int, ∃ R2 : Int → Int → Int, z = -1 ∧ u = ([(h0, ob 10 (uF (uF f 13 (iv lw)) 15 (iv rl))), (ht, ob 6 (uF ft 1 (iv tn))), (hb, ar 160 T), (oR, ob 8 (uF (uF (uF fR 1 (iv a2)) 2 (iv fl)) 4 (iv x2))), (od, ob 7 (uF (uF fd 0 (iv p2)) 1 (iv m2))), (dB, ar 6 (colR R2 0)), (dD, ar 6 (colR R2 1)), (dK, ar 6 (colR R2 2)), (dF, ar 6 (colR R2 3)), (dH, ar 6 (colR R2 4)), (oZ, ob 2 (uF (uF (uF fZ 1 (iv a3)) 2 (iv w3)) 4 (iv x3))), (hC, ar 160 C), (oW, ob 7 (uF (uF fW 0 (iv p0)) 1 (iv m0))), (wB, ar 6 WB), (wD, ar 6 WD), (wK, ar 6 WK), (wF, ar 6 WF), (wH, ar 6 WH), (oS, ob 5 (uF (uF (uF (uF fS 0 (iv s0)) 1 (iv n)) 2 (iv ec)) 3 (iv mk))), (aB, ar 6 B), (aF, ar 6 Fo), (aH, ar 6 Ho), (aL, ar 6 Lt), (oD, ob 0 (uF (uF (uF (uF (uF fD 0 (iv td)) 1 (iv un)) 2 (iv hi)) 3 (iv im)) 4 (iv nx))), (oK, ob 9 (uF fK 0 (iv kk))), (oA, aq 4 (lwR ds))] ++ (lwT ds ys)) ∧ v = 0 ∧ tnRes T tn R = .inl fl) ∨ (∃ a2 : Int, ∃ x2 : Int, ∃ p2 : Int, ∃ m2 : Int, ∃ R2 : Int → Int → Int, ∃ B2 : Int → Int, ∃ D2 : Int → Int, ∃ K2 : Int → Int, ∃ F2 : Int → Int, ∃ H2 : Int → Int, ∃ B3 : Int → Int, ∃ F3 : Int → Int, ∃ H3 : Int → Int, ∃ L3 : Int → Int, ∃ y2 : Nat → LwY, z = p2 ∧ u = ([(h0, ob 10 (uF (uF f 13 (iv lw)) 15 (iv 0))), (ht, ob 6 (uF ft 1 (iv 0))), (hb, ar 160 T), (oR, ob 8 (uF (uF (uF fR 1 (iv a2)) 2 (iv (-1))) 4 (iv x2))), (od, ob 7 (uF (uF fd 0 (iv p2)) 1 (iv m2))), (dB, ar 6 (colR R2 0)), (dD, ar 6 (colR R2 1)), (dK, ar 6 (colR R2 2)), (dF, ar 6 (colR R2 3)), (dH, ar 6 (colR R2 4)), (oZ, ob 2 (uF (uF (uF fZ 1 (iv a3)) 2 (iv w3)) 4 (iv x3))), (hC, ar 160 C), (oW, ob 7 (uF (uF fW 0 (iv p2)) 1 (iv m2))), (wB, ar 6 B2), (wD, ar 6 D2), (wK, ar 6 K2), (wF, ar 6 F2), (wH, ar 6 H2), (oS, ob 5 (uF (uF (uF (uF fS 0 (iv p2)) 1 (iv n)) 2 (iv ec)) 3 (iv 0))), (aB, ar 6 B3), (aF, ar 6 F3), (aH, ar 6 H3), (aL, ar 6 L3), (oD, ob 0 (uF (uF (uF (uF (uF fD 0 (iv 0)) 1 (iv 0)) 2 (iv 0)) 3 (iv im)) 4 (iv 0))), (oK, ob 9 (uF fK 0 (iv 0))), (oA, aq 4 (lwR ds))] ++ (lwT ds y2)) ∧ v = 0 ∧ tnRes T tn R = .inr (p2, m2, x2, R2) ∧ okTS (p2, m2, x2, R2) ∧ (∀ x, 0 ≤ x → x < 6 → B2 x = colR R2 0 x) ∧ (∀ x, 0 ≤ x → x < 6 → D2 x = colR R2 1 x) ∧ (∀ x, 0 ≤ x → x < 6 → K2 x = colR R2 2 x) ∧ (∀ x, 0 ≤ x → x < 6 → F2 x = colR R2 3 x) ∧ (∀ x, 0 ≤ x → x < 6 → H2 x = colR R2 4 x) ∧ (∀ x, 0 ≤ x → x < 6 → B3 x = colR R2 0 x) ∧ (∀ x, 0 ≤ x → x < 6 → F3 x = colR R2 3 x) ∧ (∀ x, 0 ≤ x → x < 6 → H3 x = colR R2 4 x) ∧ (∀ x, 0 ≤ x → x < 6 → L3 x = 0) ∧ okW ds y2 m2 p2) ∨ (z = -1 ∧ u = ([(h0, ob 10 (uF (uF f 13 (iv lw)) 15 (iv rl))), (ht, ob 6 (uF ft 1 (iv tn))), (hb, ar 160 T), (oR, ob 8 (uF (uF (uF fR 1 (iv a1)) 2 (iv w1)) 4 (iv x1))), (od, ob 7 (uF (uF fd 0 (iv pl)) 1 (iv mt))), (dB, ar 6 (colR R 0)), (dD, ar 6 (colR R 1)), (dK, ar 6 (colR R 2)), (dF, ar 6 (colR R 3)), (dH, ar 6 (colR R 4)), (oZ, ob 2 (uF (uF (uF fZ 1 (iv a3)) 2 (iv w3)) 4 (iv x3))), (hC, ar 160 C), (oW, ob 7 (uF (uF fW 0 (iv p0)) 1 (iv m0))), (wB, ar 6 WB), (wD, ar 6 WD), (wK, ar 6 WK), (wF, ar 6 WF), (wH, ar 6 WH), (oS, ob 5 (uF (uF (uF (uF fS 0 (iv s0)) 1 (iv n)) 2 (iv ec)) 3 (iv mk))), (aB, ar 6 B), (aF, ar 6 Fo), (aH, ar 6 Ho), (aL, ar 6 Lt), (oD, ob 0 (uF (uF (uF (uF (uF fD 0 (iv td)) 1 (iv un)) 2 (iv hi)) 3 (iv im)) 4 (iv nx))), (oK, ob 9 (uF fK 0 (iv kk))), (oA, aq 4 (lwR ds))] ++ (lwT ds ys)) ∧ v = 1 ∧ 4 ≤ lw) ∨ (∃ fl : Int, ∃ a2 : Int, ∃ x2 : Int, ∃ C2 : Int → Int, z = -1 ∧ u = ([(h0, ob 10 (uF (uF f 13 (iv lw)) 15 (iv rl))), (ht, ob 6 (uF ft 1 (iv tn))), (hb, ar 160 T), (oR, ob 8 (uF (uF (uF fR 1 (iv a1)) 2 (iv w1)) 4 (iv x1))), (od, ob 7 (uF (uF fd 0 (iv pl)) 1 (iv mt))), (dB, ar 6 (colR R 0)), (dD, ar 6 (colR R 1)), (dK, ar 6 (colR R 2)), (dF, ar 6 (colR R 3)), (dH, ar 6 (colR R 4)), (oZ, ob 2 (uF (uF (uF fZ 1 (iv a2)) 2 (iv fl)) 4 (iv x2))), (hC, ar 160 C2), (oW, ob 7 (uF (uF fW 0 (iv p0)) 1 (iv m0))), (wB, ar 6 WB), (wD, ar 6 WD), (wK, ar 6 WK), (wF, ar 6 WF), (wH, ar 6 WH), (oS, ob 5 (uF (uF (uF (uF fS 0 (iv s0)) 1 (iv n)) 2 (iv ec)) 3 (iv mk))), (aB, ar 6 B), (aF, ar 6 Fo), (aH, ar 6 Ho), (aL, ar 6 Lt), (oD, ob 0 (uF (uF (uF (uF (uF fD 0 (iv td)) 1 (iv un)) 2 (iv hi)) 3 (iv im)) 4 (iv nx))), (oK, ob 9 (uF fK 0 (iv kk))), (oA, aq 4 (lwR ds))] ++ (lwT ds ys)) ∧ v = 1 ∧ lw < 4 ∧ lwRes T tn = .inl fl) ∨ (∃ a2 : Int, ∃ x2 : Int, ∃ C2 : Int → Int, ∃ cs : List (List Int × List Int), ∃ x9 : LwS, ∃ v9 : LwY, z = lw ∧ u = ([(h0, ob 10 (uF (uF f 13 (iv (lw + 1))) 15 (iv rl))), (ht, ob 6 (uF ft 1 (iv 0))), (hb, ar 160 T), (oR, ob 8 (uF (uF (uF fR 1 (iv a1)) 2 (iv w1)) 4 (iv x1))), (od, ob 7 (uF (uF fd 0 (iv pl)) 1 (iv mt))), (dB, ar 6 (colR R 0)), (dD, ar 6 (colR R 1)), (dK, ar 6 (colR R 2)), (dF, ar 6 (colR R 3)), (dH, ar 6 (colR R 4)), (oZ, ob 2 (uF (uF (uF fZ 1 (iv a2)) 2 (iv (-1))) 4 (iv x2))), (hC, ar 160 C2), (oW, ob 7 (uF (uF fW 0 (iv p0)) 1 (iv m0))), (wB, ar 6 WB), (wD, ar 6 WD), (wK, ar 6 WK), (wF, ar 6 WF), (wH, ar 6 WH), (oS, ob 5 (uF (uF (uF (uF fS 0 (iv s0)) 1 (iv n)) 2 (iv ec)) 3 (iv mk))), (aB, ar 6 B), (aF, ar 6 Fo), (aH, ar 6 Ho), (aL, ar 6 Lt), (oD, ob 0 (uF (uF (uF (uF (uF fD 0 (iv td)) 1 (iv un)) 2 (iv hi)) 3 (iv im)) 4 (iv nx))), (oK, ob 9 (uF fK 0 (iv kk))), (oA, aq 4 (lwR (ds ++ [x9])))] ++ (lwT (ds ++ [x9]) (uN ys ds.length v9))) ∧ v = 1 ∧ lw < 4 ∧ pLawLS T tn 161 0 [] = .inr cs ∧ x9.cs = cs ∧ lwSok x9 ∧ v9.kn = 0)) := by
  refine AMi.of2 rfl (nle rfl) ?_
  intro D G A p e s m args below meth c Po hPo X
  refine S_iload_n X dX11_text_0 rfl rfl ?_
  refine S_if_ne (tgt := 27) X dX11_text_1 (by decide) (by omega) (fun c_1 => ?_) (fun c_1 => ?_)
  ·
    refine S_iload_n X dX11_text_27 rfl rfl ?_
    refine S_iconst X dX11_text_28 ?_
    refine S_icmp_ne (tgt := 92) X dX11_text_29 (by decide) (by omega) (by decide) (fun c_2 => ?_) (fun c_2 => ?_)
    ·
      refine S_iconst X dX11_text_92 ?_
      exact S_iret X (nle rfl) (nle rfl) dX11_text_93 (hPo _ _ (Or.inl ⟨rfl, rfl, by omega, by omega⟩))
    ·
      refine S_aload_n X dX11_text_32 rfl rfl ?_
      refine S_get (v := iv lw) X fgX11_118_10 0 rfl rfl dX11_text_33 ?_
      refine S_iconst X dX11_text_36 ?_
      refine S_icmp_ge (tgt := 92) X dX11_text_37 (by decide) (by omega) (by decide) (fun c_3 => ?_) (fun c_3 => ?_)
      ·
        refine S_iconst X dX11_text_92 ?_
        exact S_iret X (nle rfl) (nle rfl) dX11_text_93 (hPo _ _ (Or.inr (Or.inr (Or.inr (Or.inl ⟨rfl, rfl, by omega, by omega⟩)))))
      ·
        refine S_aload_n X dX11_text_40 rfl rfl ?_
        refine S_get X fgX11_28_10 0 rfl hf17 dX11_text_41 ?_
        refine S_calli X (kX5_read_2 l oZ ht hb fZ (uF ft 1 (iv tn)) T tn a3 w3 x3 hC C hf19 hf21 rfl hf20 hT) (is := [10, 1, 2, 11]) rfl (run_U X lkX11_111_2 10 rfl rfl (is := [10, 1, 2, 11]) (avs := []) (rest := []) rfl rfl (nle rfl) ⟨nle rfl, nle rfl⟩ ⟨nle rfl, nle rfl⟩ dX11_text_44 (by decide) rfl) (fun z_6 u_4 hp_5 => ?_)
        rcases hp_5 with ⟨a2_7, fl_8, x2_9, C2_10, hz_11, hu_12, hq_13, hr_14⟩ | ⟨a2_15, ts_16, hz_17, hu_18, hq_19, hl_20, ht2_21⟩
        ·
          subst hz_11
          subst hu_12
          refine ⟨rfl, ?_⟩
          refine S_w (ws' := ([(h0, ob 10 (uF (uF f 13 (iv lw)) 15 (iv rl))), (ht, ob 6 (uF ft 1 (iv tn))), (hb, ar 160 T), (oR, ob 8 (uF (uF (uF fR 1 (iv a1)) 2 (iv w1)) 4 (iv x1))), (od, ob 7 (uF (uF fd 0 (iv pl)) 1 (iv mt))), (dB, ar 6 (colR R 0)), (dD, ar 6 (colR R 1)), (dK, ar 6 (colR R 2)), (dF, ar 6 (colR R 3)), (dH, ar 6 (colR R 4)), (oZ, ob 2 (uF (uF (uF fZ 1 (iv a2_7)) 2 (iv z_6)) 4 (iv x2_9))), (hC, ar 160 C2_10), (oW, ob 7 (uF (uF fW 0 (iv p0)) 1 (iv m0))), (wB, ar 6 WB), (wD, ar 6 WD), (wK, ar 6 WK), (wF, ar 6 WF), (wH, ar 6 WH), (oS, ob 5 (uF (uF (uF (uF fS 0 (iv s0)) 1 (iv n)) 2 (iv ec)) 3 (iv mk))), (aB, ar 6 B), (aF, ar 6 Fo), (aH, ar 6 Ho), (aL, ar 6 Lt), (oD, ob 0 (uF (uF (uF (uF (uF fD 0 (iv td)) 1 (iv un)) 2 (iv hi)) 3 (iv im)) 4 (iv nx))), (oK, ob 9 (uF fK 0 (iv kk))), (oA, aq 4 (lwR ds))] ++ (lwT ds ys))) (by simp only [putC, List.set, List.append_nil, List.cons_append, List.nil_append]) ?_
          refine S_iconst X dX11_text_47 ?_
          refine S_icmp_ne (tgt := 92) X dX11_text_48 (by decide) (by omega) (by decide) (fun c_22 => ?_) (fun c_22 => by exfalso; omega)
          refine S_iconst X dX11_text_92 ?_
          exact S_iret X (nle rfl) (nle rfl) dX11_text_93 (hPo _ _ (Or.inr (Or.inr (Or.inr (Or.inr (Or.inl ⟨_, _, _, _, rfl, rfl, by omega, by omega, hq_13⟩))))))
        ·
          subst hz_17
          subst hu_18
          refine ⟨rfl, ?_⟩
          refine S_w (ws' := ([(h0, ob 10 (uF (uF f 13 (iv lw)) 15 (iv rl))), (ht, ob 6 (uF ft 1 (iv tn))), (hb, ar 160 T), (oR, ob 8 (uF (uF (uF fR 1 (iv a1)) 2 (iv w1)) 4 (iv x1))), (od, ob 7 (uF (uF fd 0 (iv pl)) 1 (iv mt))), (dB, ar 6 (colR R 0)), (dD, ar 6 (colR R 1)), (dK, ar 6 (colR R 2)), (dF, ar 6 (colR R 3)), (dH, ar 6 (colR R 4)), (oZ, ob 2 (uF (uF (uF fZ 1 (iv a2_15)) 2 (iv (-1))) 4 (iv (0 + ((ts_16).length : Int))))), (hC, ar 160 (wrL C 0 (ts_16))), (oW, ob 7 (uF (uF fW 0 (iv p0)) 1 (iv m0))), (wB, ar 6 WB), (wD, ar 6 WD), (wK, ar 6 WK), (wF, ar 6 WF), (wH, ar 6 WH), (oS, ob 5 (uF (uF (uF (uF fS 0 (iv s0)) 1 (iv n)) 2 (iv ec)) 3 (iv mk))), (aB, ar 6 B), (aF, ar 6 Fo), (aH, ar 6 Ho), (aL, ar 6 Lt), (oD, ob 0 (uF (uF (uF (uF (uF fD 0 (iv td)) 1 (iv un)) 2 (iv hi)) 3 (iv im)) 4 (iv nx))), (oK, ob 9 (uF fK 0 (iv kk))), (oA, aq 4 (lwR ds))] ++ (lwT ds ys))) (by simp only [putC, List.set, List.append_nil, List.cons_append, List.nil_append]) ?_
          obtain ⟨cs, hcs, hcf⟩ := law_cs (n := tn) (by omega) (by omega) hq_19
          obtain ⟨nc, hnc⟩ : ∃ nc : Nat, (nc : Int) = (0 + ((ts_16).length : Int)) := ⟨(ts_16).length, by omega⟩
          rw [← hnc]
          have hwr := wr_rng (C := C) (nc := nc) ht2_21 hnc
          refine S_iconst X dX11_text_47 ?_
          refine S_icmp_ne (tgt := 92) X dX11_text_48 (by decide) (by decide) (by decide) (fun h9 => absurd h9 (by decide)) (fun _ => ?_)
          refine S_aload_n X dX11_text_51 rfl rfl ?_
          refine S_get X fgX11_41_10 0 rfl hf3 dX11_text_52 ?_
          refine S_aload_n X dX11_text_55 rfl rfl ?_
          refine S_get (v := iv lw) X fgX11_118_10 0 rfl rfl dX11_text_56 ?_
          refine S_aload_n X dX11_text_59 rfl rfl ?_
          refine S_get X fgX11_28_10 0 rfl hf17 dX11_text_60 ?_
          refine S_callrAR [0, 1, 2, 3, 4, 5, 6, 7, 8, 9, 12, 13, 14, 15, 16, 17, 18, 19, 20, 21, 22, 23, 24, 25] (wr := [(h0, ob 10 (uF (uF f 13 (iv lw)) 15 (iv rl))), (ht, ob 6 (uF ft 1 (iv tn))), (hb, ar 160 T), (oR, ob 8 (uF (uF (uF fR 1 (iv a1)) 2 (iv w1)) 4 (iv x1))), (od, ob 7 (uF (uF fd 0 (iv pl)) 1 (iv mt))), (dB, ar 6 (colR R 0)), (dD, ar 6 (colR R 1)), (dK, ar 6 (colR R 2)), (dF, ar 6 (colR R 3)), (dH, ar 6 (colR R 4)), (oW, ob 7 (uF (uF fW 0 (iv p0)) 1 (iv m0))), (wB, ar 6 WB), (wD, ar 6 WD), (wK, ar 6 WK), (wF, ar 6 WF), (wH, ar 6 WH), (oS, ob 5 (uF (uF (uF (uF fS 0 (iv s0)) 1 (iv n)) 2 (iv ec)) 3 (iv mk))), (aB, ar 6 B), (aF, ar 6 Fo), (aH, ar 6 Ho), (aL, ar 6 Lt), (oD, ob 0 (uF (uF (uF (uF (uF fD 0 (iv td)) 1 (iv un)) 2 (iv hi)) 3 (iv im)) 4 (iv nx))), (oK, ob 9 (uF fK 0 (iv kk))), (oA, aq 4 (lwR ds))]) X (kX2_toLaw l oZ (uF (uF (uF fZ 1 (iv a2_15)) 2 (iv (-1))) 4 (iv (nc : Int))) hC (wrL C 0 (ts_16)) _ hf20 rfl (by omega) hwr) (is := [10, 11]) rfl rfl (by decide) (by decide) (run_V X lkX11_121 10 rfl rfl (is := [10, 11]) (avs := []) (rest := [iv lw, rv oA]) rfl rfl (nle rfl) ⟨nle rfl, nle rfl⟩ ⟨nle rfl, nle rfl⟩ dX11_text_63 (by decide) rfl) (fun z_26 u_24 hp_25 => ?_)
          rcases hp_25 with ⟨g2_27, c1_28, b1_29, b2_30, hu_32, hg2_33⟩ | ⟨g2_34, c1_35, b1_36, b2_37, hu_39, hg2_40, hno_41⟩
          ·
            subst hu_32
            refine S_perm (ws2 := ([(h0, ob 10 (uF (uF f 13 (iv lw)) 15 (iv rl))), (ht, ob 6 (uF ft 1 (iv tn))), (hb, ar 160 T), (oR, ob 8 (uF (uF (uF fR 1 (iv a1)) 2 (iv w1)) 4 (iv x1))), (od, ob 7 (uF (uF fd 0 (iv pl)) 1 (iv mt))), (dB, ar 6 (colR R 0)), (dD, ar 6 (colR R 1)), (dK, ar 6 (colR R 2)), (dF, ar 6 (colR R 3)), (dH, ar 6 (colR R 4)), (oW, ob 7 (uF (uF fW 0 (iv p0)) 1 (iv m0))), (wB, ar 6 WB), (wD, ar 6 WD), (wK, ar 6 WK), (wF, ar 6 WF), (wH, ar 6 WH), (oS, ob 5 (uF (uF (uF (uF fS 0 (iv s0)) 1 (iv n)) 2 (iv ec)) 3 (iv mk))), (aB, ar 6 B), (aF, ar 6 Fo), (aH, ar 6 Ho), (aL, ar 6 Lt), (oD, ob 0 (uF (uF (uF (uF (uF fD 0 (iv td)) 1 (iv un)) 2 (iv hi)) 3 (iv im)) 4 (iv nx))), (oK, ob 9 (uF fK 0 (iv kk))), (oA, aq 4 (lwR ds)), (oZ, ob 2 (uF (uF (uF fZ 1 (iv a2_15)) 2 (iv (-1))) 4 (iv (nc : Int)))), (hC, ar 160 (wrL C 0 (ts_16))), (z_26, ob 1 (uF (uF (uF fzX1 0 (rv c1_28)) 1 (rv b1_29)) 2 (rv b2_30))), (c1_28, ar nc g2_27), (b1_29, ar nc (fun _ => 0)), (b2_30, ar 1000 (fun _ => 0))] ++ (lwT ds ys))) (perm_mid _ _ _) ?_
            refine S_aaq X 23 26 rfl rfl (by omega) (by omega) (nle rfl) dX11_text_66 ?_
            refine S_w (ws' := ([(h0, ob 10 (uF (uF f 13 (iv lw)) 15 (iv rl))), (ht, ob 6 (uF ft 1 (iv tn))), (hb, ar 160 T), (oR, ob 8 (uF (uF (uF fR 1 (iv a1)) 2 (iv w1)) 4 (iv x1))), (od, ob 7 (uF (uF fd 0 (iv pl)) 1 (iv mt))), (dB, ar 6 (colR R 0)), (dD, ar 6 (colR R 1)), (dK, ar 6 (colR R 2)), (dF, ar 6 (colR R 3)), (dH, ar 6 (colR R 4)), (oW, ob 7 (uF (uF fW 0 (iv p0)) 1 (iv m0))), (wB, ar 6 WB), (wD, ar 6 WD), (wK, ar 6 WK), (wF, ar 6 WF), (wH, ar 6 WH), (oS, ob 5 (uF (uF (uF (uF fS 0 (iv s0)) 1 (iv n)) 2 (iv ec)) 3 (iv mk))), (aB, ar 6 B), (aF, ar 6 Fo), (aH, ar 6 Ho), (aL, ar 6 Lt), (oD, ob 0 (uF (uF (uF (uF (uF fD 0 (iv td)) 1 (iv un)) 2 (iv hi)) 3 (iv im)) 4 (iv nx))), (oK, ob 9 (uF fK 0 (iv kk))), (oA, aq 4 (uZ (lwR ds) lw (some z_26))), (oZ, ob 2 (uF (uF (uF fZ 1 (iv a2_15)) 2 (iv (-1))) 4 (iv (nc : Int)))), (hC, ar 160 (wrL C 0 (ts_16))), (z_26, ob 1 (uF (uF (uF fzX1 0 (rv c1_28)) 1 (rv b1_29)) 2 (rv b2_30))), (c1_28, ar nc g2_27), (b1_29, ar nc (fun _ => 0)), (b2_30, ar 1000 (fun _ => 0))] ++ (lwT ds ys))) rfl ?_
            have hx9 : lwSok (lwS0 z_26 c1_28 b1_29 b2_30 ((uF (uF (uF fzX1 0 (rv c1_28)) 1 (rv b1_29)) 2 (rv b2_30))) nc 1000 g2_27 cs) := lwSok_new (T := T) (C := C) (n := tn) (by omega) (by omega) hcs ⟨rfl, rfl, rfl⟩ (by rw [hcf]; omega) (by omega) (fun j h0 h1 => by rw [hcf]; exact hg2_33 j h0 h1) (by rw [hcf]; exact ht2_21) (Or.inl rfl)
            have hlR := lwR_snoc (ds := ds) (x := (lwS0 z_26 c1_28 b1_29 b2_30 ((uF (uF (uF fzX1 0 (rv c1_28)) 1 (rv b1_29)) 2 (rv b2_30))) nc 1000 g2_27 cs)) (i := lw) (by omega)
            refine S_perm (ws2 := ([(h0, ob 10 (uF (uF f 13 (iv lw)) 15 (iv rl))), (ht, ob 6 (uF ft 1 (iv tn))), (hb, ar 160 T), (oR, ob 8 (uF (uF (uF fR 1 (iv a1)) 2 (iv w1)) 4 (iv x1))), (od, ob 7 (uF (uF fd 0 (iv pl)) 1 (iv mt))), (dB, ar 6 (colR R 0)), (dD, ar 6 (colR R 1)), (dK, ar 6 (colR R 2)), (dF, ar 6 (colR R 3)), (dH, ar 6 (colR R 4)), (oW, ob 7 (uF (uF fW 0 (iv p0)) 1 (iv m0))), (wB, ar 6 WB), (wD, ar 6 WD), (wK, ar 6 WK), (wF, ar 6 WF), (wH, ar 6 WH), (oS, ob 5 (uF (uF (uF (uF fS 0 (iv s0)) 1 (iv n)) 2 (iv ec)) 3 (iv mk))), (aB, ar 6 B), (aF, ar 6 Fo), (aH, ar 6 Ho), (aL, ar 6 Lt), (oD, ob 0 (uF (uF (uF (uF (uF fD 0 (iv td)) 1 (iv un)) 2 (iv hi)) 3 (iv im)) 4 (iv nx))), (oK, ob 9 (uF fK 0 (iv kk))), (oA, aq 4 (uZ (lwR ds) lw (some z_26))), (oZ, ob 2 (uF (uF (uF fZ 1 (iv a2_15)) 2 (iv (-1))) 4 (iv (nc : Int)))), (hC, ar 160 (wrL C 0 (ts_16)))] ++ (lwT (ds ++ [(lwS0 z_26 c1_28 b1_29 b2_30 ((uF (uF (uF fzX1 0 (rv c1_28)) 1 (rv b1_29)) 2 (rv b2_30))) nc 1000 g2_27 cs)]) (uN ys ds.length (lwY0 (fun _ => 0) (fun _ => 0) 0 0))))) (lw_add (w := [(h0, ob 10 (uF (uF f 13 (iv lw)) 15 (iv rl))), (ht, ob 6 (uF ft 1 (iv tn))), (hb, ar 160 T), (oR, ob 8 (uF (uF (uF fR 1 (iv a1)) 2 (iv w1)) 4 (iv x1))), (od, ob 7 (uF (uF fd 0 (iv pl)) 1 (iv mt))), (dB, ar 6 (colR R 0)), (dD, ar 6 (colR R 1)), (dK, ar 6 (colR R 2)), (dF, ar 6 (colR R 3)), (dH, ar 6 (colR R 4)), (oW, ob 7 (uF (uF fW 0 (iv p0)) 1 (iv m0))), (wB, ar 6 WB), (wD, ar 6 WD), (wK, ar 6 WK), (wF, ar 6 WF), (wH, ar 6 WH), (oS, ob 5 (uF (uF (uF (uF fS 0 (iv s0)) 1 (iv n)) 2 (iv ec)) 3 (iv mk))), (aB, ar 6 B), (aF, ar 6 Fo), (aH, ar 6 Ho), (aL, ar 6 Lt), (oD, ob 0 (uF (uF (uF (uF (uF fD 0 (iv td)) 1 (iv un)) 2 (iv hi)) 3 (iv im)) 4 (iv nx))), (oK, ob 9 (uF fK 0 (iv kk))), (oA, aq 4 (uZ (lwR ds) lw (some z_26))), (oZ, ob 2 (uF (uF (uF fZ 1 (iv a2_15)) 2 (iv (-1))) 4 (iv (nc : Int)))), (hC, ar 160 (wrL C 0 (ts_16)))]) (cs := cs) rfl rfl) ?_
            refine S_w (ws' := ([(h0, ob 10 (uF (uF f 13 (iv lw)) 15 (iv rl))), (ht, ob 6 (uF ft 1 (iv tn))), (hb, ar 160 T), (oR, ob 8 (uF (uF (uF fR 1 (iv a1)) 2 (iv w1)) 4 (iv x1))), (od, ob 7 (uF (uF fd 0 (iv pl)) 1 (iv mt))), (dB, ar 6 (colR R 0)), (dD, ar 6 (colR R 1)), (dK, ar 6 (colR R 2)), (dF, ar 6 (colR R 3)), (dH, ar 6 (colR R 4)), (oW, ob 7 (uF (uF fW 0 (iv p0)) 1 (iv m0))), (wB, ar 6 WB), (wD, ar 6 WD), (wK, ar 6 WK), (wF, ar 6 WF), (wH, ar 6 WH), (oS, ob 5 (uF (uF (uF (uF fS 0 (iv s0)) 1 (iv n)) 2 (iv ec)) 3 (iv mk))), (aB, ar 6 B), (aF, ar 6 Fo), (aH, ar 6 Ho), (aL, ar 6 Lt), (oD, ob 0 (uF (uF (uF (uF (uF fD 0 (iv td)) 1 (iv un)) 2 (iv hi)) 3 (iv im)) 4 (iv nx))), (oK, ob 9 (uF fK 0 (iv kk))), (oA, aq 4 (lwR (ds ++ [(lwS0 z_26 c1_28 b1_29 b2_30 ((uF (uF (uF fzX1 0 (rv c1_28)) 1 (rv b1_29)) 2 (rv b2_30))) nc 1000 g2_27 cs)]))), (oZ, ob 2 (uF (uF (uF fZ 1 (iv a2_15)) 2 (iv (-1))) 4 (iv (nc : Int)))), (hC, ar 160 (wrL C 0 (ts_16)))] ++ (lwT (ds ++ [(lwS0 z_26 c1_28 b1_29 b2_30 ((uF (uF (uF fzX1 0 (rv c1_28)) 1 (rv b1_29)) 2 (rv b2_30))) nc 1000 g2_27 cs)]) (uN ys ds.length (lwY0 (fun _ => 0) (fun _ => 0) 0 0))))) (by rw [← hlR]; rfl) ?_
            refine S_perm (ws2 := ([(h0, ob 10 (uF (uF f 13 (iv lw)) 15 (iv rl))), (ht, ob 6 (uF ft 1 (iv tn))), (hb, ar 160 T), (oR, ob 8 (uF (uF (uF fR 1 (iv a1)) 2 (iv w1)) 4 (iv x1))), (od, ob 7 (uF (uF fd 0 (iv pl)) 1 (iv mt))), (dB, ar 6 (colR R 0)), (dD, ar 6 (colR R 1)), (dK, ar 6 (colR R 2)), (dF, ar 6 (colR R 3)), (dH, ar 6 (colR R 4)), (oZ, ob 2 (uF (uF (uF fZ 1 (iv a2_15)) 2 (iv (-1))) 4 (iv (nc : Int)))), (hC, ar 160 (wrL C 0 (ts_16))), (oW, ob 7 (uF (uF fW 0 (iv p0)) 1 (iv m0))), (wB, ar 6 WB), (wD, ar 6 WD), (wK, ar 6 WK), (wF, ar 6 WF), (wH, ar 6 WH), (oS, ob 5 (uF (uF (uF (uF fS 0 (iv s0)) 1 (iv n)) 2 (iv ec)) 3 (iv mk))), (aB, ar 6 B), (aF, ar 6 Fo), (aH, ar 6 Ho), (aL, ar 6 Lt), (oD, ob 0 (uF (uF (uF (uF (uF fD 0 (iv td)) 1 (iv un)) 2 (iv hi)) 3 (iv im)) 4 (iv nx))), (oK, ob 9 (uF fK 0 (iv kk))), (oA, aq 4 (lwR (ds ++ [(lwS0 z_26 c1_28 b1_29 b2_30 ((uF (uF (uF fzX1 0 (rv c1_28)) 1 (rv b1_29)) 2 (rv b2_30))) nc 1000 g2_27 cs)])))] ++ (lwT (ds ++ [(lwS0 z_26 c1_28 b1_29 b2_30 ((uF (uF (uF fzX1 0 (rv c1_28)) 1 (rv b1_29)) 2 (rv b2_30))) nc 1000 g2_27 cs)]) (uN ys ds.length (lwY0 (fun _ => 0) (fun _ => 0) 0 0))))) (perm_blk [(h0, ob 10 (uF (uF f 13 (iv lw)) 15 (iv rl))), (ht, ob 6 (uF ft 1 (iv tn))), (hb, ar 160 T), (oR, ob 8 (uF (uF (uF fR 1 (iv a1)) 2 (iv w1)) 4 (iv x1))), (od, ob 7 (uF (uF fd 0 (iv pl)) 1 (iv mt))), (dB, ar 6 (colR R 0)), (dD, ar 6 (colR R 1)), (dK, ar 6 (colR R 2)), (dF, ar 6 (colR R 3)), (dH, ar 6 (colR R 4))] [(oW, ob 7 (uF (uF fW 0 (iv p0)) 1 (iv m0))), (wB, ar 6 WB), (wD, ar 6 WD), (wK, ar 6 WK), (wF, ar 6 WF), (wH, ar 6 WH), (oS, ob 5 (uF (uF (uF (uF fS 0 (iv s0)) 1 (iv n)) 2 (iv ec)) 3 (iv mk))), (aB, ar 6 B), (aF, ar 6 Fo), (aH, ar 6 Ho), (aL, ar 6 Lt), (oD, ob 0 (uF (uF (uF (uF (uF fD 0 (iv td)) 1 (iv un)) 2 (iv hi)) 3 (iv im)) 4 (iv nx))), (oK, ob 9 (uF fK 0 (iv kk))), (oA, aq 4 (lwR (ds ++ [(lwS0 z_26 c1_28 b1_29 b2_30 ((uF (uF (uF fzX1 0 (rv c1_28)) 1 (rv b1_29)) 2 (rv b2_30))) nc 1000 g2_27 cs)])))] [(oZ, ob 2 (uF (uF (uF fZ 1 (iv a2_15)) 2 (iv (-1))) 4 (iv (nc : Int)))), (hC, ar 160 (wrL C 0 (ts_16)))] _) ?_
            refine S_aload_n X dX11_text_67 rfl rfl ?_
            refine S_dup X dX11_text_68 ?_
            refine S_get (v := iv lw) X fgX11_118_10 0 rfl rfl dX11_text_69 ?_
            refine S_iconst X dX11_text_72 ?_
            refine S_iadd X dX11_text_73 ?_
            refine S_put X fpX11_118_10 0 rfl FT_i dX11_text_74 ?_
            refine S_w (ws' := ([(h0, ob 10 (uF (uF f 13 (iv (lw + 1))) 15 (iv rl))), (ht, ob 6 (uF ft 1 (iv tn))), (hb, ar 160 T), (oR, ob 8 (uF (uF (uF fR 1 (iv a1)) 2 (iv w1)) 4 (iv x1))), (od, ob 7 (uF (uF fd 0 (iv pl)) 1 (iv mt))), (dB, ar 6 (colR R 0)), (dD, ar 6 (colR R 1)), (dK, ar 6 (colR R 2)), (dF, ar 6 (colR R 3)), (dH, ar 6 (colR R 4)), (oZ, ob 2 (uF (uF (uF fZ 1 (iv a2_15)) 2 (iv (-1))) 4 (iv (nc : Int)))), (hC, ar 160 (wrL C 0 (ts_16))), (oW, ob 7 (uF (uF fW 0 (iv p0)) 1 (iv m0))), (wB, ar 6 WB), (wD, ar 6 WD), (wK, ar 6 WK), (wF, ar 6 WF), (wH, ar 6 WH), (oS, ob 5 (uF (uF (uF (uF fS 0 (iv s0)) 1 (iv n)) 2 (iv ec)) 3 (iv mk))), (aB, ar 6 B), (aF, ar 6 Fo), (aH, ar 6 Ho), (aL, ar 6 Lt), (oD, ob 0 (uF (uF (uF (uF (uF fD 0 (iv td)) 1 (iv un)) 2 (iv hi)) 3 (iv im)) 4 (iv nx))), (oK, ob 9 (uF fK 0 (iv kk))), (oA, aq 4 (lwR (ds ++ [(lwS0 z_26 c1_28 b1_29 b2_30 ((uF (uF (uF fzX1 0 (rv c1_28)) 1 (rv b1_29)) 2 (rv b2_30))) nc 1000 g2_27 cs)])))] ++ (lwT (ds ++ [(lwS0 z_26 c1_28 b1_29 b2_30 ((uF (uF (uF fzX1 0 (rv c1_28)) 1 (rv b1_29)) 2 (rv b2_30))) nc 1000 g2_27 cs)]) (uN ys ds.length (lwY0 (fun _ => 0) (fun _ => 0) 0 0))))) (by simp only [List.set, List.cons_append, List.nil_append]; rw [uF_mv (j := 15) (k := 13) (by decide), uF_same (k := 13)]) ?_
            refine S_aload_n X dX11_text_77 rfl rfl ?_
            refine S_get X fgX11_10_10 0 rfl hf0 dX11_text_78 ?_
            refine S_iconst X dX11_text_81 ?_
            refine S_put X fpX11_100_6 1 rfl FT_i dX11_text_82 ?_
            refine S_w (ws' := ([(h0, ob 10 (uF (uF f 13 (iv (lw + 1))) 15 (iv rl))), (ht, ob 6 (uF ft 1 (iv 0))), (hb, ar 160 T), (oR, ob 8 (uF (uF (uF fR 1 (iv a1)) 2 (iv w1)) 4 (iv x1))), (od, ob 7 (uF (uF fd 0 (iv pl)) 1 (iv mt))), (dB, ar 6 (colR R 0)), (dD, ar 6 (colR R 1)), (dK, ar 6 (colR R 2)), (dF, ar 6 (colR R 3)), (dH, ar 6 (colR R 4)), (oZ, ob 2 (uF (uF (uF fZ 1 (iv a2_15)) 2 (iv (-1))) 4 (iv (nc : Int)))), (hC, ar 160 (wrL C 0 (ts_16))), (oW, ob 7 (uF (uF fW 0 (iv p0)) 1 (iv m0))), (wB, ar 6 WB), (wD, ar 6 WD), (wK, ar 6 WK), (wF, ar 6 WF), (wH, ar 6 WH), (oS, ob 5 (uF (uF (uF (uF fS 0 (iv s0)) 1 (iv n)) 2 (iv ec)) 3 (iv mk))), (aB, ar 6 B), (aF, ar 6 Fo), (aH, ar 6 Ho), (aL, ar 6 Lt), (oD, ob 0 (uF (uF (uF (uF (uF fD 0 (iv td)) 1 (iv un)) 2 (iv hi)) 3 (iv im)) 4 (iv nx))), (oK, ob 9 (uF fK 0 (iv kk))), (oA, aq 4 (lwR (ds ++ [(lwS0 z_26 c1_28 b1_29 b2_30 ((uF (uF (uF fzX1 0 (rv c1_28)) 1 (rv b1_29)) 2 (rv b2_30))) nc 1000 g2_27 cs)])))] ++ (lwT (ds ++ [(lwS0 z_26 c1_28 b1_29 b2_30 ((uF (uF (uF fzX1 0 (rv c1_28)) 1 (rv b1_29)) 2 (rv b2_30))) nc 1000 g2_27 cs)]) (uN ys ds.length (lwY0 (fun _ => 0) (fun _ => 0) 0 0))))) (by simp only [List.set, List.cons_append, List.nil_append]; rw [uF_same (k := 1)]) ?_
            refine S_aload_n X dX11_text_85 rfl rfl ?_
            refine S_get (v := iv (lw + 1)) X fgX11_118_10 0 rfl rfl dX11_text_86 ?_
            refine S_iconst X dX11_text_89 ?_
            refine S_isub X dX11_text_90 ?_
            exact S_iret X (nle rfl) (nle rfl) dX11_text_91 (hPo _ _ (Or.inr (Or.inr (Or.inr (Or.inr (Or.inr (⟨_, _, _, _, (lwS0 z_26 c1_28 b1_29 b2_30 ((uF (uF (uF fzX1 0 (rv c1_28)) 1 (rv b1_29)) 2 (rv b2_30))) nc 1000 g2_27 cs), (lwY0 (fun _ => 0) (fun _ => 0) 0 0), by omega, rfl, by omega, by omega, hcs, rfl, hx9, rfl⟩)))))))
          ·
            subst hu_39
            refine S_perm (ws2 := ([(h0, ob 10 (uF (uF f 13 (iv lw)) 15 (iv rl))), (ht, ob 6 (uF ft 1 (iv tn))), (hb, ar 160 T), (oR, ob 8 (uF (uF (uF fR 1 (iv a1)) 2 (iv w1)) 4 (iv x1))), (od, ob 7 (uF (uF fd 0 (iv pl)) 1 (iv mt))), (dB, ar 6 (colR R 0)), (dD, ar 6 (colR R 1)), (dK, ar 6 (colR R 2)), (dF, ar 6 (colR R 3)), (dH, ar 6 (colR R 4)), (oW, ob 7 (uF (uF fW 0 (iv p0)) 1 (iv m0))), (wB, ar 6 WB), (wD, ar 6 WD), (wK, ar 6 WK), (wF, ar 6 WF), (wH, ar 6 WH), (oS, ob 5 (uF (uF (uF (uF fS 0 (iv s0)) 1 (iv n)) 2 (iv ec)) 3 (iv mk))), (aB, ar 6 B), (aF, ar 6 Fo), (aH, ar 6 Ho), (aL, ar 6 Lt), (oD, ob 0 (uF (uF (uF (uF (uF fD 0 (iv td)) 1 (iv un)) 2 (iv hi)) 3 (iv im)) 4 (iv nx))), (oK, ob 9 (uF fK 0 (iv kk))), (oA, aq 4 (lwR ds)), (oZ, ob 2 (uF (uF (uF fZ 1 (iv a2_15)) 2 (iv (-1))) 4 (iv (nc : Int)))), (hC, ar 160 (wrL C 0 (ts_16))), (z_26, ob 1 (uF (uF (uF fzX1 0 (rv c1_35)) 1 (rv b1_36)) 2 (rv b2_37))), (c1_35, ar nc g2_34), (b1_36, ar nc (fun _ => 0)), (b2_37, ar 0 (fun _ => 0))] ++ (lwT ds ys))) (perm_mid _ _ _) ?_
            refine S_aaq X 23 26 rfl rfl (by omega) (by omega) (nle rfl) dX11_text_66 ?_
            refine S_w (ws' := ([(h0, ob 10 (uF (uF f 13 (iv lw)) 15 (iv rl))), (ht, ob 6 (uF ft 1 (iv tn))), (hb, ar 160 T), (oR, ob 8 (uF (uF (uF fR 1 (iv a1)) 2 (iv w1)) 4 (iv x1))), (od, ob 7 (uF (uF fd 0 (iv pl)) 1 (iv mt))), (dB, ar 6 (colR R 0)), (dD, ar 6 (colR R 1)), (dK, ar 6 (colR R 2)), (dF, ar 6 (colR R 3)), (dH, ar 6 (colR R 4)), (oW, ob 7 (uF (uF fW 0 (iv p0)) 1 (iv m0))), (wB, ar 6 WB), (wD, ar 6 WD), (wK, ar 6 WK), (wF, ar 6 WF), (wH, ar 6 WH), (oS, ob 5 (uF (uF (uF (uF fS 0 (iv s0)) 1 (iv n)) 2 (iv ec)) 3 (iv mk))), (aB, ar 6 B), (aF, ar 6 Fo), (aH, ar 6 Ho), (aL, ar 6 Lt), (oD, ob 0 (uF (uF (uF (uF (uF fD 0 (iv td)) 1 (iv un)) 2 (iv hi)) 3 (iv im)) 4 (iv nx))), (oK, ob 9 (uF fK 0 (iv kk))), (oA, aq 4 (uZ (lwR ds) lw (some z_26))), (oZ, ob 2 (uF (uF (uF fZ 1 (iv a2_15)) 2 (iv (-1))) 4 (iv (nc : Int)))), (hC, ar 160 (wrL C 0 (ts_16))), (z_26, ob 1 (uF (uF (uF fzX1 0 (rv c1_35)) 1 (rv b1_36)) 2 (rv b2_37))), (c1_35, ar nc g2_34), (b1_36, ar nc (fun _ => 0)), (b2_37, ar 0 (fun _ => 0))] ++ (lwT ds ys))) rfl ?_
            have hx9 : lwSok (lwS0 z_26 c1_35 b1_36 b2_37 ((uF (uF (uF fzX1 0 (rv c1_35)) 1 (rv b1_36)) 2 (rv b2_37))) nc 0 g2_34 cs) := lwSok_new (T := T) (C := C) (n := tn) (by omega) (by omega) hcs ⟨rfl, rfl, rfl⟩ (by rw [hcf]; omega) (by omega) (fun j h0 h1 => by rw [hcf]; exact hg2_40 j h0 h1) (by rw [hcf]; exact ht2_21) (Or.inr ⟨rfl, by rw [hcf]; exact hno_41⟩)
            have hlR := lwR_snoc (ds := ds) (x := (lwS0 z_26 c1_35 b1_36 b2_37 ((uF (uF (uF fzX1 0 (rv c1_35)) 1 (rv b1_36)) 2 (rv b2_37))) nc 0 g2_34 cs)) (i := lw) (by omega)
            refine S_perm (ws2 := ([(h0, ob 10 (uF (uF f 13 (iv lw)) 15 (iv rl))), (ht, ob 6 (uF ft 1 (iv tn))), (hb, ar 160 T), (oR, ob 8 (uF (uF (uF fR 1 (iv a1)) 2 (iv w1)) 4 (iv x1))), (od, ob 7 (uF (uF fd 0 (iv pl)) 1 (iv mt))), (dB, ar 6 (colR R 0)), (dD, ar 6 (colR R 1)), (dK, ar 6 (colR R 2)), (dF, ar 6 (colR R 3)), (dH, ar 6 (colR R 4)), (oW, ob 7 (uF (uF fW 0 (iv p0)) 1 (iv m0))), (wB, ar 6 WB), (wD, ar 6 WD), (wK, ar 6 WK), (wF, ar 6 WF), (wH, ar 6 WH), (oS, ob 5 (uF (uF (uF (uF fS 0 (iv s0)) 1 (iv n)) 2 (iv ec)) 3 (iv mk))), (aB, ar 6 B), (aF, ar 6 Fo), (aH, ar 6 Ho), (aL, ar 6 Lt), (oD, ob 0 (uF (uF (uF (uF (uF fD 0 (iv td)) 1 (iv un)) 2 (iv hi)) 3 (iv im)) 4 (iv nx))), (oK, ob 9 (uF fK 0 (iv kk))), (oA, aq 4 (uZ (lwR ds) lw (some z_26))), (oZ, ob 2 (uF (uF (uF fZ 1 (iv a2_15)) 2 (iv (-1))) 4 (iv (nc : Int)))), (hC, ar 160 (wrL C 0 (ts_16)))] ++ (lwT (ds ++ [(lwS0 z_26 c1_35 b1_36 b2_37 ((uF (uF (uF fzX1 0 (rv c1_35)) 1 (rv b1_36)) 2 (rv b2_37))) nc 0 g2_34 cs)]) (uN ys ds.length (lwY0 (fun _ => 0) (fun _ => 0) 0 0))))) (lw_add (w := [(h0, ob 10 (uF (uF f 13 (iv lw)) 15 (iv rl))), (ht, ob 6 (uF ft 1 (iv tn))), (hb, ar 160 T), (oR, ob 8 (uF (uF (uF fR 1 (iv a1)) 2 (iv w1)) 4 (iv x1))), (od, ob 7 (uF (uF fd 0 (iv pl)) 1 (iv mt))), (dB, ar 6 (colR R 0)), (dD, ar 6 (colR R 1)), (dK, ar 6 (colR R 2)), (dF, ar 6 (colR R 3)), (dH, ar 6 (colR R 4)), (oW, ob 7 (uF (uF fW 0 (iv p0)) 1 (iv m0))), (wB, ar 6 WB), (wD, ar 6 WD), (wK, ar 6 WK), (wF, ar 6 WF), (wH, ar 6 WH), (oS, ob 5 (uF (uF (uF (uF fS 0 (iv s0)) 1 (iv n)) 2 (iv ec)) 3 (iv mk))), (aB, ar 6 B), (aF, ar 6 Fo), (aH, ar 6 Ho), (aL, ar 6 Lt), (oD, ob 0 (uF (uF (uF (uF (uF fD 0 (iv td)) 1 (iv un)) 2 (iv hi)) 3 (iv im)) 4 (iv nx))), (oK, ob 9 (uF fK 0 (iv kk))), (oA, aq 4 (uZ (lwR ds) lw (some z_26))), (oZ, ob 2 (uF (uF (uF fZ 1 (iv a2_15)) 2 (iv (-1))) 4 (iv (nc : Int)))), (hC, ar 160 (wrL C 0 (ts_16)))]) (cs := cs) rfl rfl) ?_
            refine S_w (ws' := ([(h0, ob 10 (uF (uF f 13 (iv lw)) 15 (iv rl))), (ht, ob 6 (uF ft 1 (iv tn))), (hb, ar 160 T), (oR, ob 8 (uF (uF (uF fR 1 (iv a1)) 2 (iv w1)) 4 (iv x1))), (od, ob 7 (uF (uF fd 0 (iv pl)) 1 (iv mt))), (dB, ar 6 (colR R 0)), (dD, ar 6 (colR R 1)), (dK, ar 6 (colR R 2)), (dF, ar 6 (colR R 3)), (dH, ar 6 (colR R 4)), (oW, ob 7 (uF (uF fW 0 (iv p0)) 1 (iv m0))), (wB, ar 6 WB), (wD, ar 6 WD), (wK, ar 6 WK), (wF, ar 6 WF), (wH, ar 6 WH), (oS, ob 5 (uF (uF (uF (uF fS 0 (iv s0)) 1 (iv n)) 2 (iv ec)) 3 (iv mk))), (aB, ar 6 B), (aF, ar 6 Fo), (aH, ar 6 Ho), (aL, ar 6 Lt), (oD, ob 0 (uF (uF (uF (uF (uF fD 0 (iv td)) 1 (iv un)) 2 (iv hi)) 3 (iv im)) 4 (iv nx))), (oK, ob 9 (uF fK 0 (iv kk))), (oA, aq 4 (lwR (ds ++ [(lwS0 z_26 c1_35 b1_36 b2_37 ((uF (uF (uF fzX1 0 (rv c1_35)) 1 (rv b1_36)) 2 (rv b2_37))) nc 0 g2_34 cs)]))), (oZ, ob 2 (uF (uF (uF fZ 1 (iv a2_15)) 2 (iv (-1))) 4 (iv (nc : Int)))), (hC, ar 160 (wrL C 0 (ts_16)))] ++ (lwT (ds ++ [(lwS0 z_26 c1_35 b1_36 b2_37 ((uF (uF (uF fzX1 0 (rv c1_35)) 1 (rv b1_36)) 2 (rv b2_37))) nc 0 g2_34 cs)]) (uN ys ds.length (lwY0 (fun _ => 0) (fun _ => 0) 0 0))))) (by rw [← hlR]; rfl) ?_
            refine S_perm (ws2 := ([(h0, ob 10 (uF (uF f 13 (iv lw)) 15 (iv rl))), (ht, ob 6 (uF ft 1 (iv tn))), (hb, ar 160 T), (oR, ob 8 (uF (uF (uF fR 1 (iv a1)) 2 (iv w1)) 4 (iv x1))), (od, ob 7 (uF (uF fd 0 (iv pl)) 1 (iv mt))), (dB, ar 6 (colR R 0)), (dD, ar 6 (colR R 1)), (dK, ar 6 (colR R 2)), (dF, ar 6 (colR R 3)), (dH, ar 6 (colR R 4)), (oZ, ob 2 (uF (uF (uF fZ 1 (iv a2_15)) 2 (iv (-1))) 4 (iv (nc : Int)))), (hC, ar 160 (wrL C 0 (ts_16))), (oW, ob 7 (uF (uF fW 0 (iv p0)) 1 (iv m0))), (wB, ar 6 WB), (wD, ar 6 WD), (wK, ar 6 WK), (wF, ar 6 WF), (wH, ar 6 WH), (oS, ob 5 (uF (uF (uF (uF fS 0 (iv s0)) 1 (iv n)) 2 (iv ec)) 3 (iv mk))), (aB, ar 6 B), (aF, ar 6 Fo), (aH, ar 6 Ho), (aL, ar 6 Lt), (oD, ob 0 (uF (uF (uF (uF (uF fD 0 (iv td)) 1 (iv un)) 2 (iv hi)) 3 (iv im)) 4 (iv nx))), (oK, ob 9 (uF fK 0 (iv kk))), (oA, aq 4 (lwR (ds ++ [(lwS0 z_26 c1_35 b1_36 b2_37 ((uF (uF (uF fzX1 0 (rv c1_35)) 1 (rv b1_36)) 2 (rv b2_37))) nc 0 g2_34 cs)])))] ++ (lwT (ds ++ [(lwS0 z_26 c1_35 b1_36 b2_37 ((uF (uF (uF fzX1 0 (rv c1_35)) 1 (rv b1_36)) 2 (rv b2_37))) nc 0 g2_34 cs)]) (uN ys ds.length (lwY0 (fun _ => 0) (fun _ => 0) 0 0))))) (perm_blk [(h0, ob 10 (uF (uF f 13 (iv lw)) 15 (iv rl))), (ht, ob 6 (uF ft 1 (iv tn))), (hb, ar 160 T), (oR, ob 8 (uF (uF (uF fR 1 (iv a1)) 2 (iv w1)) 4 (iv x1))), (od, ob 7 (uF (uF fd 0 (iv pl)) 1 (iv mt))), (dB, ar 6 (colR R 0)), (dD, ar 6 (colR R 1)), (dK, ar 6 (colR R 2)), (dF, ar 6 (colR R 3)), (dH, ar 6 (colR R 4))] [(oW, ob 7 (uF (uF fW 0 (iv p0)) 1 (iv m0))), (wB, ar 6 WB), (wD, ar 6 WD), (wK, ar 6 WK), (wF, ar 6 WF), (wH, ar 6 WH), (oS, ob 5 (uF (uF (uF (uF fS 0 (iv s0)) 1 (iv n)) 2 (iv ec)) 3 (iv mk))), (aB, ar 6 B), (aF, ar 6 Fo), (aH, ar 6 Ho), (aL, ar 6 Lt), (oD, ob 0 (uF (uF (uF (uF (uF fD 0 (iv td)) 1 (iv un)) 2 (iv hi)) 3 (iv im)) 4 (iv nx))), (oK, ob 9 (uF fK 0 (iv kk))), (oA, aq 4 (lwR (ds ++ [(lwS0 z_26 c1_35 b1_36 b2_37 ((uF (uF (uF fzX1 0 (rv c1_35)) 1 (rv b1_36)) 2 (rv b2_37))) nc 0 g2_34 cs)])))] [(oZ, ob 2 (uF (uF (uF fZ 1 (iv a2_15)) 2 (iv (-1))) 4 (iv (nc : Int)))), (hC, ar 160 (wrL C 0 (ts_16)))] _) ?_
            refine S_aload_n X dX11_text_67 rfl rfl ?_
            refine S_dup X dX11_text_68 ?_
            refine S_get (v := iv lw) X fgX11_118_10 0 rfl rfl dX11_text_69 ?_
            refine S_iconst X dX11_text_72 ?_
            refine S_iadd X dX11_text_73 ?_
            refine S_put X fpX11_118_10 0 rfl FT_i dX11_text_74 ?_
            refine S_w (ws' := ([(h0, ob 10 (uF (uF f 13 (iv (lw + 1))) 15 (iv rl))), (ht, ob 6 (uF ft 1 (iv tn))), (hb, ar 160 T), (oR, ob 8 (uF (uF (uF fR 1 (iv a1)) 2 (iv w1)) 4 (iv x1))), (od, ob 7 (uF (uF fd 0 (iv pl)) 1 (iv mt))), (dB, ar 6 (colR R 0)), (dD, ar 6 (colR R 1)), (dK, ar 6 (colR R 2)), (dF, ar 6 (colR R 3)), (dH, ar 6 (colR R 4)), (oZ, ob 2 (uF (uF (uF fZ 1 (iv a2_15)) 2 (iv (-1))) 4 (iv (nc : Int)))), (hC, ar 160 (wrL C 0 (ts_16))), (oW, ob 7 (uF (uF fW 0 (iv p0)) 1 (iv m0))), (wB, ar 6 WB), (wD, ar 6 WD), (wK, ar 6 WK), (wF, ar 6 WF), (wH, ar 6 WH), (oS, ob 5 (uF (uF (uF (uF fS 0 (iv s0)) 1 (iv n)) 2 (iv ec)) 3 (iv mk))), (aB, ar 6 B), (aF, ar 6 Fo), (aH, ar 6 Ho), (aL, ar 6 Lt), (oD, ob 0 (uF (uF (uF (uF (uF fD 0 (iv td)) 1 (iv un)) 2 (iv hi)) 3 (iv im)) 4 (iv nx))), (oK, ob 9 (uF fK 0 (iv kk))), (oA, aq 4 (lwR (ds ++ [(lwS0 z_26 c1_35 b1_36 b2_37 ((uF (uF (uF fzX1 0 (rv c1_35)) 1 (rv b1_36)) 2 (rv b2_37))) nc 0 g2_34 cs)])))] ++ (lwT (ds ++ [(lwS0 z_26 c1_35 b1_36 b2_37 ((uF (uF (uF fzX1 0 (rv c1_35)) 1 (rv b1_36)) 2 (rv b2_37))) nc 0 g2_34 cs)]) (uN ys ds.length (lwY0 (fun _ => 0) (fun _ => 0) 0 0))))) (by simp only [List.set, List.cons_append, List.nil_append]; rw [uF_mv (j := 15) (k := 13) (by decide), uF_same (k := 13)]) ?_
            refine S_aload_n X dX11_text_77 rfl rfl ?_
            refine S_get X fgX11_10_10 0 rfl hf0 dX11_text_78 ?_
            refine S_iconst X dX11_text_81 ?_
            refine S_put X fpX11_100_6 1 rfl FT_i dX11_text_82 ?_
            refine S_w (ws' := ([(h0, ob 10 (uF (uF f 13 (iv (lw + 1))) 15 (iv rl))), (ht, ob 6 (uF ft 1 (iv 0))), (hb, ar 160 T), (oR, ob 8 (uF (uF (uF fR 1 (iv a1)) 2 (iv w1)) 4 (iv x1))), (od, ob 7 (uF (uF fd 0 (iv pl)) 1 (iv mt))), (dB, ar 6 (colR R 0)), (dD, ar 6 (colR R 1)), (dK, ar 6 (colR R 2)), (dF, ar 6 (colR R 3)), (dH, ar 6 (colR R 4)), (oZ, ob 2 (uF (uF (uF fZ 1 (iv a2_15)) 2 (iv (-1))) 4 (iv (nc : Int)))), (hC, ar 160 (wrL C 0 (ts_16))), (oW, ob 7 (uF (uF fW 0 (iv p0)) 1 (iv m0))), (wB, ar 6 WB), (wD, ar 6 WD), (wK, ar 6 WK), (wF, ar 6 WF), (wH, ar 6 WH), (oS, ob 5 (uF (uF (uF (uF fS 0 (iv s0)) 1 (iv n)) 2 (iv ec)) 3 (iv mk))), (aB, ar 6 B), (aF, ar 6 Fo), (aH, ar 6 Ho), (aL, ar 6 Lt), (oD, ob 0 (uF (uF (uF (uF (uF fD 0 (iv td)) 1 (iv un)) 2 (iv hi)) 3 (iv im)) 4 (iv nx))), (oK, ob 9 (uF fK 0 (iv kk))), (oA, aq 4 (lwR (ds ++ [(lwS0 z_26 c1_35 b1_36 b2_37 ((uF (uF (uF fzX1 0 (rv c1_35)) 1 (rv b1_36)) 2 (rv b2_37))) nc 0 g2_34 cs)])))] ++ (lwT (ds ++ [(lwS0 z_26 c1_35 b1_36 b2_37 ((uF (uF (uF fzX1 0 (rv c1_35)) 1 (rv b1_36)) 2 (rv b2_37))) nc 0 g2_34 cs)]) (uN ys ds.length (lwY0 (fun _ => 0) (fun _ => 0) 0 0))))) (by simp only [List.set, List.cons_append, List.nil_append]; rw [uF_same (k := 1)]) ?_
            refine S_aload_n X dX11_text_85 rfl rfl ?_
            refine S_get (v := iv (lw + 1)) X fgX11_118_10 0 rfl rfl dX11_text_86 ?_
            refine S_iconst X dX11_text_89 ?_
            refine S_isub X dX11_text_90 ?_
            exact S_iret X (nle rfl) (nle rfl) dX11_text_91 (hPo _ _ (Or.inr (Or.inr (Or.inr (Or.inr (Or.inr (⟨_, _, _, _, (lwS0 z_26 c1_35 b1_36 b2_37 ((uF (uF (uF fzX1 0 (rv c1_35)) 1 (rv b1_36)) 2 (rv b2_37))) nc 0 g2_34 cs), (lwY0 (fun _ => 0) (fun _ => 0) 0 0), by omega, rfl, by omega, by omega, hcs, rfl, hx9, rfl⟩)))))))
  ·
    refine S_aload_n X dX11_text_4 rfl rfl ?_
    refine S_get X fgX11_21_10 0 rfl hf1 dX11_text_5 ?_
    refine S_calli X (kX5_read_8 l oR ht hb fR (uF ft 1 (iv tn)) T tn a1 w1 x1 od fd dB dD dK dF dH pl mt R hf18 hf21 rfl hf7 hf22 hf23 hf24 hf25 hf26 hT) (is := [3, 1, 2, 4, 5, 6, 7, 8, 9]) rfl (run_U X lkX11_107_8 3 rfl rfl (is := [3, 1, 2, 4, 5, 6, 7, 8, 9]) (avs := []) (rest := []) rfl rfl (nle rfl) ⟨nle rfl, nle rfl⟩ ⟨nle rfl, nle rfl⟩ dX11_text_8 (by decide) rfl) (fun z_44 u_42 hp_43 => ?_)
    rcases hp_43 with ⟨a2_45, fl_46, x2_47, pl2_48, mt2_49, R2_50, hz_51, hu_52, hq_53, hr_54⟩ | ⟨a2_55, x2_56, pl2_57, mt2_58, R2_59, hz_60, hu_61, hq_62, hr_63⟩
    ·
      subst hz_51
      subst hu_52
      refine ⟨rfl, ?_⟩
      refine S_w (ws' := ([(h0, ob 10 (uF (uF f 13 (iv lw)) 15 (iv rl))), (ht, ob 6 (uF ft 1 (iv tn))), (hb, ar 160 T), (oR, ob 8 (uF (uF (uF fR 1 (iv a2_45)) 2 (iv z_44)) 4 (iv x2_47))), (od, ob 7 (uF (uF fd 0 (iv pl2_48)) 1 (iv mt2_49))), (dB, ar 6 (colR R2_50 0)), (dD, ar 6 (colR R2_50 1)), (dK, ar 6 (colR R2_50 2)), (dF, ar 6 (colR R2_50 3)), (dH, ar 6 (colR R2_50 4)), (oZ, ob 2 (uF (uF (uF fZ 1 (iv a3)) 2 (iv w3)) 4 (iv x3))), (hC, ar 160 C), (oW, ob 7 (uF (uF fW 0 (iv p0)) 1 (iv m0))), (wB, ar 6 WB), (wD, ar 6 WD), (wK, ar 6 WK), (wF, ar 6 WF), (wH, ar 6 WH), (oS, ob 5 (uF (uF (uF (uF fS 0 (iv s0)) 1 (iv n)) 2 (iv ec)) 3 (iv mk))), (aB, ar 6 B), (aF, ar 6 Fo), (aH, ar 6 Ho), (aL, ar 6 Lt), (oD, ob 0 (uF (uF (uF (uF (uF fD 0 (iv td)) 1 (iv un)) 2 (iv hi)) 3 (iv im)) 4 (iv nx))), (oK, ob 9 (uF fK 0 (iv kk))), (oA, aq 4 (lwR ds))] ++ (lwT ds ys))) (by simp only [putC, List.set, List.append_nil, List.cons_append, List.nil_append]) ?_
      refine S_iconst X dX11_text_11 ?_
      refine S_icmp_ne (tgt := 27) X dX11_text_12 (by decide) (by omega) (by decide) (fun c_64 => ?_) (fun c_64 => by exfalso; omega)
      refine S_iload_n X dX11_text_27 rfl rfl ?_
      refine S_iconst X dX11_text_28 ?_
      refine S_icmp_ne (tgt := 92) X dX11_text_29 (by decide) (by omega) (by decide) (fun c_65 => ?_) (fun c_65 => by exfalso; omega)
      refine S_iconst X dX11_text_92 ?_
      exact S_iret X (nle rfl) (nle rfl) dX11_text_93 (hPo _ _ (Or.inr (Or.inl ⟨_, _, _, _, _, _, rfl, rfl, by omega, hq_53⟩)))
    ·
      subst hz_60
      subst hu_61
      refine ⟨rfl, ?_⟩
      refine S_w (ws' := ([(h0, ob 10 (uF (uF f 13 (iv lw)) 15 (iv rl))), (ht, ob 6 (uF ft 1 (iv tn))), (hb, ar 160 T), (oR, ob 8 (uF (uF (uF fR 1 (iv a2_55)) 2 (iv (-1))) 4 (iv x2_56))), (od, ob 7 (uF (uF fd 0 (iv pl2_57)) 1 (iv mt2_58))), (dB, ar 6 (colR R2_59 0)), (dD, ar 6 (colR R2_59 1)), (dK, ar 6 (colR R2_59 2)), (dF, ar 6 (colR R2_59 3)), (dH, ar 6 (colR R2_59 4)), (oZ, ob 2 (uF (uF (uF fZ 1 (iv a3)) 2 (iv w3)) 4 (iv x3))), (hC, ar 160 C), (oW, ob 7 (uF (uF fW 0 (iv p0)) 1 (iv m0))), (wB, ar 6 WB), (wD, ar 6 WD), (wK, ar 6 WK), (wF, ar 6 WF), (wH, ar 6 WH), (oS, ob 5 (uF (uF (uF (uF fS 0 (iv s0)) 1 (iv n)) 2 (iv ec)) 3 (iv mk))), (aB, ar 6 B), (aF, ar 6 Fo), (aH, ar 6 Ho), (aL, ar 6 Lt), (oD, ob 0 (uF (uF (uF (uF (uF fD 0 (iv td)) 1 (iv un)) 2 (iv hi)) 3 (iv im)) 4 (iv nx))), (oK, ob 9 (uF fK 0 (iv kk))), (oA, aq 4 (lwR ds))] ++ (lwT ds ys))) (by simp only [putC, List.set, List.append_nil, List.cons_append, List.nil_append]) ?_
      refine S_iconst X dX11_text_11 ?_
      refine S_icmp_ne (tgt := 27) X dX11_text_12 (by decide) (by decide) (by decide) (fun h9 => absurd h9 (by decide)) (fun _ => ?_)
      refine S_aload_n X dX11_text_15 rfl rfl ?_
      refine S_callvT X (kX11_openTown l h0 (uF f 13 (iv lw)) rl oW fW p0 m0 wB wD wK wF wH WB WD WK WF WH oR (uF (uF (uF fR 1 (iv a2_55)) 2 (iv (-1))) 4 (iv x2_56)) od fd pl2_57 mt2_58 dB dD dK dF dH (colR R2_59 0) (colR R2_59 1) (colR R2_59 2) (colR R2_59 3) (colR R2_59 4) oS fS s0 n ec mk aB aF aH aL B Fo Ho Lt oD fD td un hi im nx oK fK kk ht ft tn ds ys mt0 pl0 lw oA hf0 hf1 hf2 hf3 hf4 hf5 hf6 hf7 hf8 hf9 hf10 hf11 hf12 hf22 hf23 hf24 hf25 hf26 hf13 hf14 hf15 hf16 hds hdy) (is := [0, 12, 13, 14, 15, 16, 17, 3, 4, 5, 6, 7, 8, 9, 18, 19, 20, 21, 22, 23, 24, 1, 25]) rfl (run_V X lkX11_112 0 rfl rfl (is := isT [0, 12, 13, 14, 15, 16, 17, 3, 4, 5, 6, 7, 8, 9, 18, 19, 20, 21, 22, 23, 24, 1, 25] 26 (List.length (lwT ds ys))) (avs := []) (rest := []) rfl rfl (nle rfl) ⟨nle rfl, nle rfl⟩ ⟨nle rfl, nle rfl⟩ dX11_text_16 (isT_nd rfl (by decide)) (isT_map rfl)) (fun u_67 hp_68 => ?_)
      obtain ⟨B2_70, D2_71, K2_72, F2_73, H2_74, B3_75, F3_76, H3_77, L3_78, y2_79, hu_81, hB2_82, hD2_83, hK2_84, hF2_85, hH2_86, hB3_87, hF3_88, hH3_89, hL3_90, hy2_91⟩ := hp_68
      subst hu_81
      refine ⟨_, _, rfl, rfl, lwT_key _ _ _, ?_⟩
      refine S_w (ws' := ([(h0, ob 10 (uF (uF f 13 (iv lw)) 15 (iv 0))), (ht, ob 6 (uF ft 1 (iv 0))), (hb, ar 160 T), (oR, ob 8 (uF (uF (uF fR 1 (iv a2_55)) 2 (iv (-1))) 4 (iv x2_56))), (od, ob 7 (uF (uF fd 0 (iv pl2_57)) 1 (iv mt2_58))), (dB, ar 6 (colR R2_59 0)), (dD, ar 6 (colR R2_59 1)), (dK, ar 6 (colR R2_59 2)), (dF, ar 6 (colR R2_59 3)), (dH, ar 6 (colR R2_59 4)), (oZ, ob 2 (uF (uF (uF fZ 1 (iv a3)) 2 (iv w3)) 4 (iv x3))), (hC, ar 160 C), (oW, ob 7 (uF (uF fW 0 (iv pl2_57)) 1 (iv mt2_58))), (wB, ar 6 B2_70), (wD, ar 6 D2_71), (wK, ar 6 K2_72), (wF, ar 6 F2_73), (wH, ar 6 H2_74), (oS, ob 5 (uF (uF (uF (uF fS 0 (iv pl2_57)) 1 (iv n)) 2 (iv ec)) 3 (iv 0))), (aB, ar 6 B3_75), (aF, ar 6 F3_76), (aH, ar 6 H3_77), (aL, ar 6 L3_78), (oD, ob 0 (uF (uF (uF (uF (uF fD 0 (iv 0)) 1 (iv 0)) 2 (iv 0)) 3 (iv im)) 4 (iv 0))), (oK, ob 9 (uF fK 0 (iv 0))), (oA, aq 4 (lwR ds))] ++ (lwT ds y2_79))) (by simp only [putC, List.set, List.append_nil, List.cons_append, List.nil_append]) ?_
      refine S_aload_n X dX11_text_19 rfl rfl ?_
      refine S_get X fgX11_35_10 0 rfl hf2 dX11_text_20 ?_
      refine S_get (v := iv pl2_57) X fgX11_115_7 12 rfl rfl dX11_text_23 ?_
      exact S_iret X (nle rfl) (nle rfl) dX11_text_26 (hPo _ _ (Or.inr (Or.inr (Or.inl ⟨_, _, _, _, _, _, _, _, _, _, _, _, _, _, _, rfl, rfl, by omega, hq_62, hr_63, hB2_82, hD2_83, hK2_84, hF2_85, hH2_86, hB3_87, hF3_88, hH3_89, hL3_90, hy2_91⟩))))
end pt_83ctext
