def NSE : String := "java/util/NoSuchElementException"
def nseN : List String := ["java/lang/RuntimeException", "java/lang/Exception"]
abbrev nseA : List Cond := nse_at "BorrowedBeat" 155 NSE 13 prog_25_method_4_code nseN
set_option maxRecDepth 100000 in
theorem nseA_in : ∀ w ∈ nseA, vx_no w = true → w ∈ lw_tbl := List.forall_mem_cons.mpr ⟨fun _ => mT1 (List.mem_of_getElem? (i := 17) rfl), List.forall_mem_cons.mpr ⟨fun _ => mT5 (List.mem_of_getElem? (i := 61) rfl), List.forall_mem_cons.mpr ⟨fun _ => mT5 (List.mem_of_getElem? (i := 70) rfl), List.forall_mem_cons.mpr ⟨fun _ => mT5 (List.mem_of_getElem? (i := 72) rfl), List.forall_mem_cons.mpr ⟨fun _ => mT5 (List.mem_of_getElem? (i := 75) rfl), List.forall_mem_cons.mpr ⟨fun _ => mT5 (List.mem_of_getElem? (i := 77) rfl), List.forall_mem_cons.mpr ⟨fun _ => mT5 (List.mem_of_getElem? (i := 62) rfl), List.forall_mem_cons.mpr ⟨fun _ => mT5 (List.mem_of_getElem? (i := 63) rfl), List.forall_mem_cons.mpr ⟨fun _ => mT1 (List.mem_of_getElem? (i := 28) rfl), List.forall_mem_cons.mpr ⟨fun _ => mT1 (List.mem_of_getElem? (i := 29) rfl), List.forall_mem_cons.mpr ⟨fun _ => mT5 (List.mem_of_getElem? (i := 64) rfl), List.forall_mem_cons.mpr ⟨fun _ => mT5 (List.mem_of_getElem? (i := 69) rfl), List.forall_mem_cons.mpr ⟨fun _ => mT5 (List.mem_of_getElem? (i := 73) rfl), List.forall_mem_cons.mpr ⟨fun _ => mT5 (List.mem_of_getElem? (i := 93) rfl), List.forall_mem_cons.mpr ⟨fun _ => mT5 (List.mem_of_getElem? (i := 51) rfl), List.forall_mem_cons.mpr ⟨fun _ => mT5 (List.mem_of_getElem? (i := 94) rfl), List.forall_mem_cons.mpr ⟨fun _ => mT5 (List.mem_of_getElem? (i := 53) rfl), List.forall_mem_cons.mpr ⟨fun _ => mT5 (List.mem_of_getElem? (i := 95) rfl), List.forall_mem_cons.mpr ⟨fun _ => mT5 (List.mem_of_getElem? (i := 55) rfl), List.forall_mem_cons.mpr ⟨fun _ => mT5 (List.mem_of_getElem? (i := 65) rfl), List.forall_mem_cons.mpr ⟨fun _ => mT5 (List.mem_of_getElem? (i := 66) rfl), List.forall_mem_cons.mpr ⟨fun _ => mT5 (List.mem_of_getElem? (i := 67) rfl), List.forall_mem_cons.mpr ⟨fun _ => mT5 (List.mem_of_getElem? (i := 68) rfl), List.forall_mem_cons.mpr ⟨fun _ => mT5 (List.mem_of_getElem? (i := 57) rfl), List.forall_mem_cons.mpr ⟨fun _ => mT5 (List.mem_of_getElem? (i := 89) rfl), List.forall_mem_cons.mpr ⟨fun _ => mT5 (List.mem_of_getElem? (i := 90) rfl), List.forall_mem_cons.mpr ⟨fun _ => mT5 (List.mem_of_getElem? (i := 92) rfl), List.forall_mem_cons.mpr ⟨fun _ => mT5 (List.mem_of_getElem? (i := 57) rfl), List.forall_mem_cons.mpr ⟨fun _ => mT5 (List.mem_of_getElem? (i := 80) rfl), List.forall_mem_cons.mpr ⟨fun _ => mT5 (List.mem_of_getElem? (i := 81) rfl), List.forall_mem_cons.mpr ⟨fun _ => mT5 (List.mem_of_getElem? (i := 82) rfl), List.forall_mem_cons.mpr ⟨fun _ => mT5 (List.mem_of_getElem? (i := 83) rfl), List.forall_mem_cons.mpr ⟨fun _ => mT5 (List.mem_of_getElem? (i := 43) rfl), List.forall_mem_cons.mpr ⟨fun _ => mT5 (List.mem_of_getElem? (i := 83) rfl), List.forall_mem_cons.mpr ⟨fun _ => mT5 (List.mem_of_getElem? (i := 84) rfl), List.forall_mem_cons.mpr ⟨fun _ => mT5 (List.mem_of_getElem? (i := 85) rfl), List.forall_mem_cons.mpr ⟨fun _ => mT5 (List.mem_of_getElem? (i := 86) rfl), List.forall_mem_cons.mpr ⟨fun _ => mT5 (List.mem_of_getElem? (i := 45) rfl), List.forall_mem_cons.mpr ⟨fun _ => mT5 (List.mem_of_getElem? (i := 86) rfl), List.forall_mem_cons.mpr ⟨fun _ => mT5 (List.mem_of_getElem? (i := 87) rfl), List.forall_mem_cons.mpr ⟨fun _ => mT5 (List.mem_of_getElem? (i := 88) rfl), List.forall_mem_cons.mpr ⟨fun _ => mT5 (List.mem_of_getElem? (i := 89) rfl), List.forall_mem_cons.mpr ⟨fun _ => mT5 (List.mem_of_getElem? (i := 47) rfl), List.forall_mem_cons.mpr ⟨fun _ => mT5 (List.mem_of_getElem? (i := 79) rfl), List.forall_mem_cons.mpr ⟨fun _ => mT5 (List.mem_of_getElem? (i := 40) rfl), List.forall_mem_cons.mpr ⟨fun _ => mT5 (List.mem_of_getElem? (i := 41) rfl), List.forall_mem_cons.mpr ⟨fun _ => mT5 (List.mem_of_getElem? (i := 48) rfl), List.forall_mem_cons.mpr ⟨fun _ => mT5 (List.mem_of_getElem? (i := 49) rfl), List.forall_mem_cons.mpr ⟨fun _ => mT5 (List.mem_of_getElem? (i := 50) rfl), List.forall_mem_cons.mpr ⟨fun _ => mT5 (List.mem_of_getElem? (i := 52) rfl), List.forall_mem_cons.mpr ⟨fun _ => mT5 (List.mem_of_getElem? (i := 54) rfl), List.forall_mem_cons.mpr ⟨fun _ => mT5 (List.mem_of_getElem? (i := 56) rfl), List.forall_mem_cons.mpr ⟨fun h => absurd h (by decide +kernel), List.forall_mem_cons.mpr ⟨fun h => absurd h (by decide +kernel), List.forall_mem_cons.mpr ⟨fun _ => mT5 (List.mem_of_getElem? (i := 60) rfl), List.forall_mem_cons.mpr ⟨fun _ => mT5 (List.mem_of_getElem? (i := 59) rfl), List.forall_mem_cons.mpr ⟨fun _ => mT5 (List.mem_of_getElem? (i := 58) rfl), fun _ h => absurd h List.not_mem_nil⟩⟩⟩⟩⟩⟩⟩⟩⟩⟩⟩⟩⟩⟩⟩⟩⟩⟩⟩⟩⟩⟩⟩⟩⟩⟩⟩⟩⟩⟩⟩⟩⟩⟩⟩⟩⟩⟩⟩⟩⟩⟩⟩⟩⟩⟩⟩⟩⟩⟩⟩⟩⟩⟩⟩⟩⟩
theorem nse_x0 : decode prog_25_method_4_code 0 = .ok (.aload_n 0, 1) := by decide +kernel
theorem nse_x1 : decode prog_25_method_4_code 1 = .ok (.aload_n 1, 1) := by decide +kernel
theorem nse_x2 : decode prog_25_method_4_code 2 = .ok (.invokespecial 13, 3) := by decide +kernel
theorem nse_x5 : decode prog_25_method_4_code 5 = .ok (.return_, 1) := by decide +kernel
theorem nse_k : Cond.classLink "BorrowedBeat" 151 NSE ∈ lw_tbl := mT5 (List.mem_of_getElem? (i := 39) rfl)
theorem nse_i : Cond.initialized NSE ∈ lw_tbl := mT1 (List.mem_of_getElem? (i := 20) rfl)
set_option maxRecDepth 100000 in
theorem nse_good : ∀ w ∈ Cond.classLink "BorrowedBeat" 151 NSE :: Cond.initialized NSE :: nse_atS "BorrowedBeat" 155 NSE 13 prog_25_method_4_code nseN, (goodWord w || (nW w && w.onTables)) = true ∧ vx_ot w = true := by
  have h : (Cond.classLink "BorrowedBeat" 151 NSE :: Cond.initialized NSE :: nse_atS "BorrowedBeat" 155 NSE 13 prog_25_method_4_code nseN).all (fun w => (goodWord w || (nW w && w.onTables)) && vx_ot w) = true := by decide +kernel
  intro w hw
  have := List.all_eq_true.mp h w hw
  simp only [Bool.and_eq_true] at this
  exact this
theorem nse_cl : Cond.classLink "BorrowedBeatLaw" 13 NSE ∈ uw := List.mem_filter.mpr ⟨List.mem_append_left _ (mT5 (List.mem_of_getElem? (i := 34) rfl)), by decide +kernel⟩
theorem nse_ca : Cond.castable NSE NSE ∈ nw := List.mem_filter.mpr ⟨mT5 (List.mem_of_getElem? (i := 41) rfl), rfl⟩
/-! WHAT A THROW NEEDS, beside the words: two texts, two statics of Throwable -/
def XU (A : Nat → Prop) (U : State) (H : Heap) : Prop := (∃ s1 : Nat, vk_R "BorrowedBeat" 153 "no such PLAYER" s1 U) ∧ (∃ s2 : Nat, vk_R "BorrowedBeat" 177 "no such thing of a PLAYER" s2 U) ∧ vx_Zq Bundle.tN "UNASSIGNED_STACK" Bundle.steD A U H ∧ vx_Zq Bundle.tN "SUPPRESSED_SENTINEL" Bundle.listD A U H
theorem XU.go {A B : Nat → Prop} {s U : State} {H : Heap} (h : XU A s s.heap) (hW : s.WarmedH U.vm) (hk : ∀ a : Nat, a < s.heap.size → ¬ A a → H[a]? = s.heap[a]?) (hAB : ∀ q, B q → A q) : XU B U H := by
  obtain ⟨⟨s1, h1⟩, ⟨s2, h2⟩, h3, h4⟩ := h
  exact ⟨⟨s1, vk_R.warm hW h1⟩, ⟨s2, vk_R.warm hW h2⟩, ((h3.kept hk).moved hW.alike).narrow hAB, ((h4.kept hk).moved hW.alike).narrow hAB⟩
theorem XU.same {A : Nat → Prop} {u U : State} {H : Heap} (h : XU A u H) (hvm : u.vm = U.vm) : XU A U H := by
  obtain ⟨⟨s1, h1⟩, ⟨s2, h2⟩, h3, h4⟩ := h
  have hal : u.vm.Alike U.vm := by rw [hvm]; exact Vm.Alike.refl _
  exact ⟨⟨s1, vk_R.same hvm.symm h1⟩, ⟨s2, vk_R.same hvm.symm h2⟩, h3.moved hal, h4.moved hal⟩
def PcX (D : va_G) (G : GG) (av : List AV) (ws : EW) (sz : Nat) : Array Value → State → Prop := fun a U => PcA D G av ws sz a U ∧ XU (va_A (tW G ws) sz) U U.heap
def XQ (D : va_G) (G : GG) (A : Nat → Prop) (ws : EW) (px : Prop) : String → State → State → Prop := vx_X (fun _ : Unit => px) (fun E _ t => E = NSE ∧ BW D G A ws t) A
def vxM (l : Launch) (y : MethodName) (b : ByteArray) (n : Nat) (ret : FieldType) (d mc ms : Nat) (av : List AV) (ws : EW) (Post : Int → EW → Prop) (px : Prop) : Prop :=
  ∀ (D : va_G) (G : GG) (sz : Nat), vx_Met l y (.code y b n (some ret) :: uw) (rmD d mc ms) (PcX D G av ws sz) (QcI D G (va_A (tW G ws) sz) Post) (XQ D G (va_A (tW G ws) sz) ws px) mc ms (va_A (tW G ws) sz)
section XB
variable {l : Launch} {y : MethodName} {b : ByteArray} {n d mc ms : Nat} {av : List AV} {ws : EW}
theorem vxM.of {ret : FieldType} {Post : Int → EW → Prop} {px : Prop} (hy : plainName y.cls = true) (hn : av.length ≤ n)
    (body : ∀ (D : va_G) (G : GG) (A : Nat → Prop) (p : Program) (e : Env) (s : State) (m : MethodId) (args : Array Value) (below : List Frame) (meth : Method) (c : Code), (∀ x ∈ c.exceptionTable.toList, False) → XU A s s.heap → Cx p s m args meth c D G A b n (some ret) y.cls →
      S_ p l e (rmD d mc ms) s m args below meth c (vx_MQ below (QcI D G A Post) (XQ D G A ws px) args s mc ms A) D G A n 0 0 0 (aL av) [] ws) : vxM l y b n ret d mc ms av ws Post px := by
  intro D G sz
  refine vx_ofW (cc := b) (maxL := n) (ret := some ret) hy rfl ?_
  intro p e s m args below meth c s₁ B hml hex hv
  obtain ⟨⟨rfl, hsz, hP, hK, hD0, hE⟩, hU⟩ := hv
  have hts := atoms_spec (ws := Cond.code y b n (some ret) :: uw) B.pre
  have hown : s.vm.findClass y.cls = some m.cls := findClass_of_methodNamed B.named
  subst hsz
  have X : Cx p s m ((av.map tV).toArray) meth c D G (va_A (tW G ws) s.heap.size) b n (some ret) y.cls := ⟨B.exec, B.bytes, hml, hown, fun w h => hts w (List.mem_cons_of_mem _ h), hK, fun q h => Or.inr h, hE, B.returns, B.notSynchronized⟩
  rw [lg_entry_eq]
  exact body D G _ p e s m _ below meth c hex hU X s.heap [] _ hP hD0.self va_S.rf (LH.entry av hn)
end XB
section XR
variable {p : Program} {l : Launch} {e : Env} {R : Room} {s : State} {m : MethodId} {args : Array Value} {below : List Frame} {meth : Method} {c : Code} {Q : State → Prop} {D : va_G} {G : GG} {A : Nat → Prop} {cc : ByteArray} {nL cells slots pc : Nat} {rt : Option FieldType} {own : String} {L : Nat → Option AV} {st : List AV} {ws : EW}
theorem S_vx {Qc : Array Value → State → Outcome → State → Prop} {XC : String → State → State → Prop} {mc ms : Nat} {free : Addr → Prop} (k : S_ p l e R s m args below meth c (MQ below Qc args s mc ms free) D G A nL cells slots pc L st ws) : S_ p l e R s m args below meth c (vx_MQ below Qc XC args s mc ms free) D G A nL cells slots pc L st ws :=
  fun H locs ls hP hD hS hl => vx_ret (k H locs ls hP hD hS hl)
theorem lw_at {A : Nat → Prop} {w : Cond} (h1 : w ∈ lw_tbl) (h2 : (goodWord w || (nW w && w.onTables)) = true) (h3 : ∀ w ∈ uw, w.before args s = true) (h4 : Ev A s s.heap) : w.before args s = true := by
  rcases Bool.or_eq_true _ _ |>.mp h2 with h | h
  · exact h3 w (List.mem_filter.mpr ⟨List.mem_append_left _ h1, h⟩)
  · have h6 := Bool.and_eq_true _ _ |>.mp h
    exact va_Nw.use h6.2 (h4.1 _ (List.mem_filter.mpr ⟨h1, h6.1⟩))
/-- 'throw new NoSuchElementException("..")' -/
theorem S_throw {Post : Int → EW → Prop} {px : Prop} {mc ms : Nat} (X : Cx p s m args meth c D G A cc nL rt "BorrowedBeat") (hex : ∀ x ∈ c.exceptionTable.toList, False) (hU : XU A s s.heap) (hl : l.stackTraces = false) {tx : String} {is sa : Nat} (hstr : vk_R "BorrowedBeat" is tx sa s) (d0 : decode cc pc = .ok (.new 151, 3)) (d3 : decode cc (pc + 3) = .ok (.dup, 1)) (d4 : decode cc (pc + 4) = .ok (.ldc is, 2)) (d6 : decode cc (pc + 6) = .ok (.invokespecial 155, 3)) (d9 : decode cc (pc + 9) = .ok (.athrow, 1)) (hRf : 5 < R.frames) (hRl : st.length + 82 ≤ R.locals) (hRc : cells + 1 ≤ R.cells) (hRs : slots + 6 ≤ R.slots) (hc : cells + 1 ≤ mc) (hs : slots + 6 ≤ ms) (hp : px) :
    S_ p l e R s m args below meth c (vx_MQ below (QcI D G A Post) (XQ D G A ws px) args s mc ms A) D G A nL cells slots pc L st ws := by
  intro H locs ls hP hD hS hl2
  have hw : ∀ w ∈ Cond.classLink "BorrowedBeat" 151 NSE :: Cond.initialized NSE :: nse_atS "BorrowedBeat" 155 NSE 13 prog_25_method_4_code nseN, w.before args s = true := by
    intro w hw
    have hg := (nse_good w hw).1
    refine lw_at ?_ hg X.2.2.2.2.1 X.2.2.2.2.2.2.2.1
    rcases List.mem_cons.mp hw with rfl | hw
    · exact nse_k
    · rcases List.mem_cons.mp hw with rfl | hw
      · exact nse_i
      · have h9 := List.mem_filter.mp hw
        exact nseA_in w h9.1 h9.2
  refine nse_make nse_x0 nse_x1 nse_x2 nse_x5 X.1 X.2.1 hl (names := nseN) (own := "BorrowedBeat") (cls := NSE) (sa := sa) (A := A) X.2.2.2.1 (by decide +kernel) (by decide +kernel) (hw _ (by simp)) (hw _ (by simp)) hstr (fun w h => hw w (by simp [h])) (fun w h => (nse_good w h).2) hU.2.2.1 hU.2.2.2 hS (hl2.1.trans X.2.2.1.symm) d0 d3 d4 d6 ?_ ?_ hRc hRs (fun q ce H1 h1 h2 h3 h4 h5 => ?_)
  · show 2 + 3 < R.frames
    exact hRf
  · have e : ((st.map tV).map fun v => v.category).sum = st.length := by
      clear hRl
      induction st with
      | nil => rfl
      | cons v t ih => simp only [List.map_cons, List.sum_cons, List.length_cons, ih, tV_cat]; omega
    rw [e]
    show st.length + (13 * (2 + 1) + 43) ≤ R.locals
    omega
  · refine vx_athrow X.1 X.2.1 d9 (vx_out (fun x hx => (hex x hx).elim) X.2.2.2.2.2.2.2.2.2 h1 h2 h3 (fun t ht hal => ⟨(), hp, ⟨rfl, ?_, va_K.moved hal X.2.2.2.2.2.1, hD⟩, ?_⟩) hS.2.2 hc hs)
    · rw [ht]
      exact hP.kept (fun k x hx => h5 x.1 (hP k x hx).lt)
    · refine ⟨by rw [ht]; exact Nat.le_trans hS.1 h4, fun q0 a1 a2 => ?_⟩
      rw [ht, h5 q0 (Nat.lt_of_lt_of_le a1 hS.1)]
      exact hS.2.1 q0 a1 a2
end XR
section XC
variable {p : Program} {l : Launch} {e : Env} {R : Room} {s : State} {m : MethodId} {args : Array Value} {below : List Frame} {meth : Method} {c : Code} {Q : State → Prop} {D : va_G} {G : GG} {A : Nat → Prop} {cc : ByteArray} {nL cells slots pc : Nat} {rt : Option FieldType} {own : String} {L : Nat → Option AV} {st : List AV}
variable {y : MethodName} {b : ByteArray} {n d mc ms idx k : Nat} {a0 : Nat} {av avs rest : List AV} {wa wb : EW} {ret1 : FieldType} {Post : Int → EW → Prop} {px : Prop}
theorem pcX_blind {sz : Nat} {wc : EW} : FrameBlind (PcX D G av wc sz) := fun a U g mk h => ⟨pcA_blind a U g mk h.1, XU.same h.2 rfl⟩
/-- a call of a method that may throw, caught here -/
theorem S_callX (X : Cx p s m args meth c D G A cc nL rt own) (hU : XU A s s.heap) (hM : vxM l y b n ret1 d mc ms (rv a0 :: avs) wa Post px) (K : LkV own idx y b n (some ret1) k) (q0 : Nat) {ci : Nat} {f : Nat → AV} (hr : (wa ++ wb)[q0]? = some (a0, ob ci f)) (hcl : (vwCl[ci]?).map (fun r => r.1) = some y.cls) (hst : st = avs.reverse ++ rv a0 :: rest) (hk : avs.length = k) (h8 : rest.length ≤ 8) (hR : d + 1 ≤ R.frames ∧ 8 + (n + 11) + 40 * d ≤ R.locals) (hcs : cells + mc ≤ R.cells ∧ slots + ms ≤ R.slots) (hdg : decode cc pc = .ok (.invokevirtual idx, 3))
    (x : ExceptionTableEntry) (hsplit : c.exceptionTable.toList = [] ++ x :: []) (hx : covers x pc = true) (h0 : x.catchType ≠ 0) (hlink : Cond.classLink own x.catchType NSE ∈ uw) (kx : px → ∀ q9 : Nat, S_ p l e R s m args below meth c Q D G A nL (cells + mc) (slots + ms) x.handlerPc L [rv q9] (wb ++ wa))
    (kk : ∀ (z : Int) (u : EW), Post z u → S_ p l e R s m args below meth c Q D G A nL (cells + mc) (slots + ms) (pc + 3) L (iv z :: rest) (u ++ wb)) : S_ p l e R s m args below meth c Q D G A nL cells slots pc L st (wa ++ wb) := by
  intro H locs ls hP hD hS hl
  have hC := rg_L (wa := wa) (wb := wb)
  have hRt : (rgM wa.length wb.length).map (fun i => (wa ++ wb)[i]?) = wb.map some := by
    have h := rg_M (wa := wa) (wb := wb) (wo := [])
    rw [List.append_nil] at h
    exact h
  have hdis : ∀ i ∈ rgM wa.length wb.length, i ∉ List.range wa.length := by
    intro i hi hm
    obtain ⟨j, -, hj⟩ := List.mem_map.mp hi
    have := List.mem_range.mp hm
    omega
  have hF := va_free (wc := tW G wa) hD hS X.2.2.2.2.2.2.1 (List.range wa.length) (cut_tW hC)
  obtain ⟨⟨k1, k2, k3, k4, k5⟩, k6⟩ := K
  have hcast : (Cond.castable NSE NSE).before args s = true := va_Nw.use rfl (X.2.2.2.2.2.2.2.1.1 _ nse_ca)
  cases hq : vwCl[ci]? with
  | none => rw [hq] at hcl; cases hcl
  | some r =>
    rw [hq] at hcl
    have hr1 : r.1 = y.cls := Option.some.inj hcl
    have hrecv := va_recv X.2.2.2.2.2.1 hP hq (tW_at hr)
    rw [hr1] at hrecv
    refine vx_calli (vx_runV (C := y.cls) (n := k) (As := avs.map tV) (rest := rest.map tV) (cx_fix X) (hM D G H.size) (cwV k X.2.2.2.2.1 (uw_goods (fun w hw => by
        rcases List.mem_append.mp hw with h | h
        · simp only [List.mem_cons, List.not_mem_nil, or_false] at h
          rcases h with rfl | rfl | rfl | rfl <;> assumption
        · exact (uw_cons k5 w h).1)) rfl rfl rfl ⟨rfl, k6⟩ hR) ⟨pcX_blind, hrecv, fun U hUh hW => ⟨pcA_ok (av := rv a0 :: avs) X hP hD hS (rg_nd _) hC U hUh hW, by
          rw [hUh]
          exact XU.go hU hW (fun a h1 h2 => hS.2.1 a h1 h2) hF⟩⟩ rfl (by rw [List.length_map]; exact hk) hl.1 (stk_V hst) (room8 h8) hdg hcs) hS (fun q _ h => hF q h) hF (fun q _ h => hF q h) (fun E ce q9 u t H1 locs1 ht hal hp hB hz1 hk1 hS1 hce hcv hcl9 => ?_) (fun r u t H1 locs1 ht hvm hw hB hz1 hk1 hS1 => ?_)
    · obtain ⟨rfl, hP1, hK1, hD1⟩ := hB
      rw [ht] at hP1
      obtain ⟨hP2, hD2⟩ := va_join hP hD (List.range wa.length) (rgM wa.length wb.length) (cut_tW hC) (cut_tW hRt) (rgM_nd _ _) hdis hk1 hF hP1 hD1
      have e : tW G wb ++ tW G wa = tW G (wb ++ wa) := by unfold tW; rw [List.map_append]
      rw [e] at hP2 hD2
      exact vx_catch X.2.2.2.1 [] x [] hsplit (fun z hz => absurd hz List.not_mem_nil) hx h0 (X.2.2.2.2.1 _ hlink) hcast hce hcv hcl9 (kx hp q9 H1 locs1 ls hP2 hD2 hS1 hl)
    · obtain ⟨z, rfl, hp⟩ := hw
      obtain ⟨hP1, hK1, hD1⟩ := hB
      rw [ht] at hP1
      obtain ⟨hP2, hD2⟩ := va_join hP hD (List.range wa.length) (rgM wa.length wb.length) (cut_tW hC) (cut_tW hRt) (rgM_nd _ _) hdis hk1 hF hP1 hD1
      have e : tW G wb ++ tW G u = tW G (wb ++ u) := by unfold tW; rw [List.map_append]
      rw [e] at hP2 hD2
      exact S_perm (List.perm_append_comm) (kk z u hp) H1 locs1 ls hP2 hD2 hS1 hl
end XC
/-! A METHOD WITH A HANDLER, that doesn't throw -/
def AMx (l : Launch) (y : MethodName) (b : ByteArray) (n : Nat) (ret : FieldType) (hh : List (Nat × Nat × Nat × Nat)) (d mc ms : Nat) (av : List AV) (ws : EW) (Post : Int → EW → Prop) : Prop :=
  ∀ (D : va_G) (G : GG) (sz : Nat), Met l y (.codeWith y b n (some ret) hh :: uw) (rmD d mc ms) (PcX D G av ws sz) (QcI D G (va_A (tW G ws) sz) Post) mc ms (va_A (tW G ws) sz)
section XH
variable {l : Launch} {y : MethodName} {b : ByteArray} {n d mc ms : Nat} {av : List AV} {ws : EW} {hh : List (Nat × Nat × Nat × Nat)}
theorem AMx.of {ret : FieldType} {Post : Int → EW → Prop} (hy : plainName y.cls = true) (hn : av.length ≤ n)
    (body : ∀ (D : va_G) (G : GG) (A : Nat → Prop) (p : Program) (e : Env) (s : State) (m : MethodId) (args : Array Value) (below : List Frame) (meth : Method) (c : Code), c.exceptionTable.toList = tableOf hh → XU A s s.heap → Cx p s m args meth c D G A b n (some ret) y.cls →
      S_ p l e (rmD d mc ms) s m args below meth c (MQ below (QcI D G A Post) args s mc ms A) D G A n 0 0 0 (aL av) [] ws) : AMx l y b n ret hh d mc ms av ws Post := by
  intro D G sz
  have key : vx_Met l y (.codeWith y b n (some ret) hh :: uw) (rmD d mc ms) (PcX D G av ws sz) (QcI D G (va_A (tW G ws) sz) Post) (fun _ _ _ => False) mc ms (va_A (tW G ws) sz) := by
    refine vx_ofWH (cc := b) (maxL := n) (ret := some ret) (hh := hh) hy rfl ?_
    intro p e s m args below meth c s₁ B hml hv
    obtain ⟨⟨rfl, hsz, hP, hK, hD0, hE⟩, hU⟩ := hv
    have hts := atoms_spec (ws := Cond.codeWith y b n (some ret) hh :: uw) B.pre
    have hown : s.vm.findClass y.cls = some m.cls := findClass_of_methodNamed B.named
    have htab := vx_table (x := y) B (hts _ List.mem_cons_self)
    subst hsz
    have X : Cx p s m ((av.map tV).toArray) meth c D G (va_A (tW G ws) s.heap.size) b n (some ret) y.cls := ⟨B.exec, B.bytes, hml, hown, fun w h => hts w (List.mem_cons_of_mem _ h), hK, fun q h => Or.inr h, hE, B.returns, B.notSynchronized⟩
    rw [lg_entry_eq]
    exact vx_ret (body D G _ p e s m _ below meth c htab hU X s.heap [] _ hP hD0.self va_S.rf (LH.entry av hn))
  intro p e h1 h2 h3 s m args below h4 h5 h6 h7
  obtain ⟨k, o, a1, a2, a3, a4⟩ := key p e h1 h2 h3 s m args below h4 h5 h6 h7
  rcases a4 with a4 | ⟨q, -, E, ce, L, hF, -⟩
  · exact ⟨k, o, a1, a2, a3, a4⟩
  · exact hF.elim
end XH
section XS
variable {p : Program} {l : Launch} {e : Env} {R : Room} {s : State} {m : MethodId} {args : Array Value} {below : List Frame} {meth : Method} {c : Code} {Q : State → Prop} {D : va_G} {G : GG} {A : Nat → Prop} {cc : ByteArray} {nL cells slots pc : Nat} {rt : Option FieldType} {own : String} {L : Nat → Option AV} {st : List AV}
variable {y : MethodName} {b : ByteArray} {n d mc ms idx k : Nat} {avs rest : List AV} {wa wb : EW} {ret1 : FieldType} {Post : Int → EW → Prop} {hh : List (Nat × Nat × Nat × Nat)}
/-- a static call of it -/
theorem S_callH (X : Cx p s m args meth c D G A cc nL rt own) (hU : XU A s s.heap) (hM : AMx l y b n ret1 hh d mc ms avs wa Post) (K : (Cond.methodLink own idx y ∈ uw ∧ Cond.static y ∈ uw ∧ Cond.initialized y.cls ∈ uw ∧ Cond.codeWith y b n (some ret1) hh ∈ uw) ∧ okD y k) (hst : st = avs.reverse ++ rest) (hk : avs.length = k) (h8 : rest.length ≤ 8) (hR : d + 1 ≤ R.frames ∧ 8 + (n + 11) + 40 * d ≤ R.locals) (hcs : cells + mc ≤ R.cells ∧ slots + ms ≤ R.slots) (hdg : decode cc pc = .ok (.invokestatic idx, 3))
    (kk : ∀ (z : Int) (u : EW), Post z u → S_ p l e R s m args below meth c Q D G A nL (cells + mc) (slots + ms) (pc + 3) L (iv z :: rest) (u ++ wb)) : S_ p l e R s m args below meth c Q D G A nL cells slots pc L st (wa ++ wb) := by
  intro H locs ls hP hD hS hl
  have hC := rg_L (wa := wa) (wb := wb)
  have hRt : (rgM wa.length wb.length).map (fun i => (wa ++ wb)[i]?) = wb.map some := by
    have h := rg_M (wa := wa) (wb := wb) (wo := [])
    rw [List.append_nil] at h
    exact h
  have hdis : ∀ i ∈ rgM wa.length wb.length, i ∉ List.range wa.length := by
    intro i hi hm
    obtain ⟨j, -, hj⟩ := List.mem_map.mp hi
    have := List.mem_range.mp hm
    omega
  have hF := va_free (wc := tW G wa) hD hS X.2.2.2.2.2.2.1 (List.range wa.length) (cut_tW hC)
  obtain ⟨⟨k1, k2, k3, k5⟩, k6⟩ := K
  have huc : GoodIn uw (Cond.codeWith y b n (some ret1) hh :: uw) := uw_goods (fun w hw => (List.mem_cons.mp hw).elim (fun e => e ▸ k5) id)
  refine va_calli (vx_runSW (n := k) (As := avs.map tV) (rest := rest.map tV) (cx_fix X) (hM D G H.size) (vx_cwSW k X.2.2.2.2.1 (uw_goods (fun w hw => by
        rcases List.mem_append.mp hw with h | h
        · simp only [List.mem_cons, List.not_mem_nil, or_false] at h
          rcases h with rfl | rfl | rfl <;> assumption
        · exact (huc w h).1)) rfl rfl rfl k6 hR) ⟨pcX_blind, fun U hUh hW => ⟨pcA_ok X hP hD hS (rg_nd _) hC U hUh hW, by
          rw [hUh]
          exact XU.go hU hW (fun a h1 h2 => hS.2.1 a h1 h2) hF⟩⟩ rfl (by rw [List.length_map]; exact hk) hl.1 (stk_S hst) (room8 h8) hdg hcs) hS (fun q _ h => hF q h) hF (fun r u t H1 locs1 ht hvm hw hB hz1 hk1 hS1 => ?_)
  obtain ⟨z, rfl, hp⟩ := hw
  obtain ⟨hP1, hK1, hD1⟩ := hB
  rw [ht] at hP1
  obtain ⟨hP2, hD2⟩ := va_join hP hD (List.range wa.length) (rgM wa.length wb.length) (cut_tW hC) (cut_tW hRt) (rgM_nd _ _) hdis hk1 hF hP1 hD1
  have e : tW G wb ++ tW G u = tW G (wb ++ u) := by unfold tW; rw [List.map_append]
  rw [e] at hP2 hD2
  exact S_perm (List.perm_append_comm) (kk z u hp) H1 locs1 ls hP2 hD2 hS1 hl
end XS
