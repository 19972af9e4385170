def NSE : String := "java/util/NoSuchElementException"
def nseN : List String := ["java/lang/RuntimeException", "java/lang/Exception"]
abbrev nseA : List Cond := nse_at "BorrowedBeat" 155 NSE 13 prog_25_method_4_code nseN
set_option maxRecDepth 100000 in
theorem nseA_in : ∀ w ∈ nseA, vx_no w = true → w ∈ lw_tbl := List.forall_mem_cons.mpr ⟨fun _ => mT1 (List.mem_of_getElem? (i := 17) rfl), List.forall_mem_cons.mpr ⟨fun _ => mT5 (List.mem_of_getElem? (i := 61) rfl), List.forall_mem_cons.mpr ⟨fun _ => mT5 (List.mem_of_getElem? (i := 70) rfl), List.forall_mem_cons.mpr ⟨fun _ => mT5 (List.mem_of_getElem? (i := 72) rfl), List.forall_mem_cons.mpr ⟨fun _ => mT5 (List.mem_of_getElem? (i := 75) rfl), List.forall_mem_cons.mpr ⟨fun _ => mT5 (List.mem_of_getElem? (i := 77) rfl), List.forall_mem_cons.mpr ⟨fun _ => mT5 (List.mem_of_getElem? (i := 62) rfl), List.forall_mem_cons.mpr ⟨fun _ => mT5 (List.mem_of_getElem? (i := 63) rfl), List.forall_mem_cons.mpr ⟨fun _ => mT1 (List.mem_of_getElem? (i := 28) rfl), List.forall_mem_cons.mpr ⟨fun _ => mT1 (List.mem_of_getElem? (i := 29) rfl), List.forall_mem_cons.mpr ⟨fun _ => mT5 (List.mem_of_getElem? (i := 64) rfl), List.forall_mem_cons.mpr ⟨fun _ => mT5 (List.mem_of_getElem? (i := 69) rfl), List.forall_mem_cons.mpr ⟨fun _ => mT5 (List.mem_of_getElem? (i := 73) rfl), List.forall_mem_cons.mpr ⟨fun _ => mT5 (List.mem_of_getElem? (i := 93) rfl), List.forall_mem_cons.mpr ⟨fun _ => mT5 (List.mem_of_getElem? (i := 51) rfl), List.forall_mem_cons.mpr ⟨fun _ => mT5 (List.mem_of_getElem? (i := 94) rfl), List.forall_mem_cons.mpr ⟨fun _ => mT5 (List.mem_of_getElem? (i := 53) rfl), List.forall_mem_cons.mpr ⟨fun _ => mT5 (List.mem_of_getElem? (i := 95) rfl), List.forall_mem_cons.mpr ⟨fun _ => mT5 (List.mem_of_getElem? (i := 55) rfl), List.forall_mem_cons.mpr ⟨fun _ => mT5 (List.mem_of_getElem? (i := 65) rfl), List.forall_mem_cons.mpr ⟨fun _ => mT5 (List.mem_of_getElem? (i := 66) rfl), List.forall_mem_cons.mpr ⟨fun _ => mT5 (List.mem_of_getElem? (i := 67) rfl), List.forall_mem_cons.mpr ⟨fun _ => mT5 (List.mem_of_getElem? (i := 68) rfl), List.forall_mem_cons.mpr ⟨fun _ => mT5 (List.mem_of_getElem? (i := 57) rfl), List.forall_mem_cons.mpr ⟨fun _ => mT5 (List.mem_of_getElem? (i := 89) rfl), List.forall_mem_cons.mpr ⟨fun _ => mT5 (List.mem_of_getElem? (i := 90) rfl), List.forall_mem_cons.mpr ⟨fun _ => mT5 (List.mem_of_getElem? (i := 92) rfl), List.forall_mem_cons.mpr ⟨fun _ => mT5 (List.mem_of_getElem? (i := 57) rfl), List.forall_mem_cons.mpr ⟨fun _ => mT5 (List.mem_of_getElem? (i := 80) rfl), List.forall_mem_cons.mpr ⟨fun _ => mT5 (List.mem_of_getElem? (i := 81) rfl), List.forall_mem_cons.mpr ⟨fun _ => mT5 (List.mem_of_getElem? (i := 82) rfl), List.forall_mem_cons.mpr ⟨fun _ => mT5 (List.mem_of_getElem? (i := 83) rfl), List.forall_mem_cons.mpr ⟨fun _ => mT5 (List.mem_of_getElem? (i := 43) rfl), List.forall_mem_cons.mpr ⟨fun _ => mT5 (List.mem_of_getElem? (i := 83) rfl), List.forall_mem_cons.mpr ⟨fun _ => mT5 (List.mem_of_getElem? (i := 84) rfl), List.forall_mem_cons.mpr ⟨fun _ => mT5 (List.mem_of_getElem? (i := 85) rfl), List.forall_mem_cons.mpr ⟨fun _ => mT5 (List.mem_of_getElem? (i := 86) rfl), List.forall_mem_cons.mpr ⟨fun _ => mT5 (List.mem_of_getElem? (i := 45) rfl), List.forall_mem_cons.mpr ⟨fun _ => mT5 (List.mem_of_getElem? (i := 86) rfl), List.forall_mem_cons.mpr ⟨fun _ => mT5 (List.mem_of_getElem? (i := 87) rfl), List.forall_mem_cons.mpr ⟨fun _ => mT5 (List.mem_of_getElem? (i := 88) rfl), List.forall_mem_cons.mpr ⟨fun _ => mT5 (List.mem_of_getElem? (i := 89) rfl), List.forall_mem_cons.mpr ⟨fun _ => mT5 (List.mem_of_getElem? (i := 47) rfl), List.forall_mem_cons.mpr ⟨fun _ => mT5 (List.mem_of_getElem? (i := 79) rfl), List.forall_mem_cons.mpr ⟨fun _ => mT5 (List.mem_of_getElem? (i := 40) rfl), List.forall_mem_cons.mpr ⟨fun _ => mT5 (List.mem_of_getElem? (i := 41) rfl), List.forall_mem_cons.mpr ⟨fun _ => mT5 (List.mem_of_getElem? (i := 48) rfl), List.forall_mem_cons.mpr ⟨fun _ => mT5 (List.mem_of_getElem? (i := 49) rfl), List.forall_mem_cons.mpr ⟨fun _ => mT5 (List.mem_of_getElem? (i := 50) rfl), List.forall_mem_cons.mpr ⟨fun _ => mT5 (List.mem_of_getElem? (i := 52) rfl), List.forall_mem_cons.mpr ⟨fun _ => mT5 (List.mem_of_getElem? (i := 54) rfl), List.forall_mem_cons.mpr ⟨fun _ => mT5 (List.mem_of_getElem? (i := 56) rfl), List.forall_mem_cons.mpr ⟨fun h => absurd h (by decide +kernel), List.forall_mem_cons.mpr ⟨fun h => absurd h (by decide +kernel), List.forall_mem_cons.mpr ⟨fun _ => mT5 (List.mem_of_getElem? (i := 60) rfl), List.forall_mem_cons.mpr ⟨fun _ => mT5 (List.mem_of_getElem? (i := 59) rfl), List.forall_mem_cons.mpr ⟨fun _ => mT5 (List.mem_of_getElem? (i := 58) rfl), fun _ h => absurd h List.not_mem_nil⟩⟩⟩⟩⟩⟩⟩⟩⟩⟩⟩⟩⟩⟩⟩⟩⟩⟩⟩⟩⟩⟩⟩⟩⟩⟩⟩⟩⟩⟩⟩⟩⟩⟩⟩⟩⟩⟩⟩⟩⟩⟩⟩⟩⟩⟩⟩⟩⟩⟩⟩⟩⟩⟩⟩⟩⟩
theorem nse_x0 : decode prog_25_method_4_code 0 = .ok (.aload_n 0, 1) := by decide +kernel
theorem nse_x1 : decode prog_25_method_4_code 1 = .ok (.aload_n 1, 1) := by decide +kernel
theorem nse_x2 : decode prog_25_method_4_code 2 = .ok (.invokespecial 13, 3) := by decide +kernel
theorem nse_x5 : decode prog_25_method_4_code 5 = .ok (.return_, 1) := by decide +kernel
theorem nse_k : Cond.classLink "BorrowedBeat" 151 NSE ∈ lw_tbl := mT5 (List.mem_of_getElem? (i := 39) rfl)
theorem nse_i : Cond.initialized NSE ∈ lw_tbl := mT1 (List.mem_of_getElem? (i := 20) rfl)
set_option maxRecDepth 100000 in
theorem nse_good : ∀ w ∈ Cond.classLink "BorrowedBeat" 151 NSE :: Cond.initialized NSE :: nse_atS "BorrowedBeat" 155 NSE 13 prog_25_method_4_code nseN, (goodWord w || (nW w && w.onTables)) = true ∧ vx_ot w = true := by
  have h : (Cond.classLink "BorrowedBeat" 151 NSE :: Cond.initialized NSE :: nse_atS "BorrowedBeat" 155 NSE 13 prog_25_method_4_code nseN).all (fun w => (goodWord w || (nW w && w.onTables)) && vx_ot w) = true := by decide +kernel
  intro w hw
  have := List.all_eq_true.mp h w hw
  simp only [Bool.and_eq_true] at this
  exact this
theorem nse_cl : Cond.classLink "BorrowedBeatLaw" 13 NSE ∈ uw := List.mem_filter.mpr ⟨List.mem_append_left _ (mT5 (List.mem_of_getElem? (i := 34) rfl)), by decide +kernel⟩
theorem nse_ca : Cond.castable NSE NSE ∈ nw := List.mem_filter.mpr ⟨mT5 (List.mem_of_getElem? (i := 41) rfl), rfl⟩
/-! WHAT A THROW NEEDS, beside the words: two texts, two statics of Throwable -/
def XU (A : Nat → Prop) (U : State) (H : Heap) : Prop := (∃ s1 : Nat, vk_R "BorrowedBeat" 153 "no such PLAYER" s1 U) ∧ (∃ s2 : Nat, vk_R "BorrowedBeat" 177 "no such thing of a PLAYER" s2 U) ∧ vx_Zq Bundle.tN "UNASSIGNED_STACK" Bundle.steD A U H ∧ vx_Zq Bundle.tN "SUPPRESSED_SENTINEL" Bundle.listD A U H
theorem XU.go {A B : Nat → Prop} {s U : State} {H : Heap} (h : XU A s s.heap) (hW : s.WarmedH U.vm) (hk : ∀ a : Nat, a < s.heap.size → ¬ A a → H[a]? = s.heap[a]?) (hAB : ∀ q, B q → A q) : XU B U H := by
  obtain ⟨⟨s1, h1⟩, ⟨s2, h2⟩, h3, h4⟩ := h
  exact ⟨⟨s1, vk_R.warm hW h1⟩, ⟨s2, vk_R.warm hW h2⟩, ((h3.kept hk).moved hW.alike).narrow hAB, ((h4.kept hk).moved hW.alike).narrow hAB⟩
theorem XU.same {A : Nat → Prop} {u U : State} {H : Heap} (h : XU A u H) (hvm : u.vm = U.vm) : XU A U H := by
  obtain ⟨⟨s1, h1⟩, ⟨s2, h2⟩, h3, h4⟩ := h
  have hal : u.vm.Alike U.vm := by rw [hvm]; exact Vm.Alike.refl _
  exact ⟨⟨s1, vk_R.same hvm.symm h1⟩, ⟨s2, vk_R.same hvm.symm h2⟩, h3.moved hal, h4.moved hal⟩
def PcX (D : va_G) (G : GG) (av : List AV) (ws : EW) (sz : Nat) : Array Value → State → Prop := fun a U => PcA D G av ws sz a U ∧ XU (va_A (tW G ws) sz) U U.heap
def XQ (D : va_G) (G : GG) (A : Nat → Prop) (ws : EW) (px : Prop) : String → State → State → Prop := vx_X (fun _ : Unit => px) (fun E _ t => E = NSE ∧ BW D G A ws t) A
def vxM (l : Launch) (y : MethodName) (b : ByteArray) (n : Nat) (ret : FieldType) (d mc ms : Nat) (av : List AV) (ws : EW) (Post : Int → EW → Prop) (px : Prop) : Prop :=
  ∀ (D : va_G) (G : GG) (sz : Nat), vx_Met l y (.code y b n (some ret) :: uw) (rmD d mc ms) (PcX D G av ws sz) (QcI D G (va_A (tW G ws) sz) Post) (XQ D G (va_A (tW G ws) sz) ws px) mc ms (va_A (tW G ws) sz)
section XB
variable {l : Launch} {y : MethodName} {b : ByteArray} {n d mc ms : Nat} {av : List AV} {ws : EW}
theorem vxM.of {ret : FieldType} {Post : Int → EW → Prop} {px : Prop} (hy : plainName y.cls = true) (hn : av.length ≤ n)
    (body : ∀ (D : va_G) (G : GG) (A : Nat → Prop) (p : Program) (e : Env) (s : State) (m : MethodId) (args : Array Value) (below : List Frame) (meth : Method) (c : Code), (∀ x ∈ c.exceptionTable.toList, False) → XU A s s.heap → Cx p s m args meth c D G A b n (some ret) y.cls →
      S_ p l e (rmD d mc ms) s m args below meth c (vx_MQ below (QcI D G A Post) (XQ D G A ws px) args s mc ms A) D G A n 0 0 0 (aL av) [] ws) : vxM l y b n ret d mc ms av ws Post px := by
  intro D G sz
  refine vx_ofW (cc := b) (maxL := n) (ret := some ret) hy rfl ?_
  intro p e s m args below meth c s₁ B hml hex hv
  obtain ⟨⟨rfl, hsz, hP, hK, hD0, hE⟩, hU⟩ := hv
  have hts := atoms_spec (ws := Cond.code y b n (some ret) :: uw) B.pre
  have hown : s.vm.findClass y.cls = some m.cls := findClass_of_methodNamed B.named
  subst hsz
  have X : Cx p s m ((av.map tV).toArray) meth c D G (va_A (tW G ws) s.heap.size) b n (some ret) y.cls := ⟨B.exec, B.bytes, hml, hown, fun w h => hts w (List.mem_cons_of_mem _ h), hK, fun q h => Or.inr h, hE, B.returns, B.notSynchronized⟩
  rw [lg_entry_eq]
  exact body D G _ p e s m _ below meth c hex hU X s.heap [] _ hP hD0.self va_S.rf (LH.entry av hn)
end XB
section XR
variable {p : Program} {l : Launch} {e : Env} {R : Room} {s : State} {m : MethodId} {args : Array Value} {below : List Frame} {meth : Method} {c : Code} {Q : State → Prop} {D : va_G} {G : GG} {A : Nat → Prop} {cc : ByteArray} {nL cells slots pc : Nat} {rt : Option FieldType} {own : String} {L : Nat → Option AV} {st : List AV} {ws : EW}
theorem S_vx {Qc : Array Value → State → Outcome → State → Prop} {XC : String → State → State → Prop} {mc ms : Nat} {free : Addr → Prop} (k : S_ p l e R s m args below meth c (MQ below Qc args s mc ms free) D G A nL cells slots pc L st ws) : S_ p l e R s m args below meth c (vx_MQ below Qc XC args s mc ms free) D G A nL cells slots pc L st ws :=
  fun H locs ls hP hD hS hl => vx_ret (k H locs ls hP hD hS hl)
theorem lw_at {A : Nat → Prop} {w : Cond} (h1 : w ∈ lw_tbl) (h2 : (goodWord w || (nW w && w.onTables)) = true) (h3 : ∀ w ∈ uw, w.before args s = true) (h4 : Ev A s s.heap) : w.before args s = true := by
  rcases Bool.or_eq_true _ _ |>.mp h2 with h | h
  · exact h3 w (List.mem_filter.mpr ⟨List.mem_append_left _ h1, h⟩)
  · have h6 := Bool.and_eq_true _ _ |>.mp h
    exact va_Nw.use h6.2 (h4.1 _ (List.mem_filter.mpr ⟨h1, h6.1⟩))
/-- 'throw new NoSuchElementException("..")' -/
theorem S_throw {Post : Int → EW → Prop} {px : Prop} {mc ms : Nat} (X : Cx p s m args meth c D G A cc nL rt "BorrowedBeat") (hex : ∀ x ∈ c.exceptionTable.toList, False) (hU : XU A s s.heap) (hl : l.stackTraces = false) {tx : String} {is sa : Nat} (hstr : vk_R "BorrowedBeat" is tx sa s) (d0 : decode cc pc = .ok (.new 151, 3)) (d3 : decode cc (pc + 3) = .ok (.dup, 1)) (d4 : decode cc (pc + 4) = .ok (.ldc is, 2)) (d6 : decode cc (pc + 6) = .ok (.invokespecial 155, 3)) (d9 : decode cc (pc + 9) = .ok (.athrow, 1)) (hRf : 5 < R.frames) (hRl : st.length + 82 ≤ R.locals) (hRc : cells + 1 ≤ R.cells) (hRs : slots + 6 ≤ R.slots) (hc : cells + 1 ≤ mc) (hs : slots + 6 ≤ ms) (hp : px) :
    S_ p l e R s m args below meth c (vx_MQ below (QcI D G A Post) (XQ D G A ws px) args s mc ms A) D G A nL cells slots pc L st ws := by
  intro H locs ls hP hD hS hl2
  have hw : ∀ w ∈ Cond.classLink "BorrowedBeat" 151 NSE :: Cond.initialized NSE :: nse_atS "BorrowedBeat" 155 NSE 13 prog_25_method_4_code nseN, w.before args s = true := by
    intro w hw
    have hg := (nse_good w hw).1
    refine lw_at ?_ hg X.2.2.2.2.1 X.2.2.2.2.2.2.2.1
    rcases List.mem_cons.mp hw with rfl | hw
    · exact nse_k
    · rcases List.mem_cons.mp hw with rfl | hw
      · exact nse_i
      · have h9 := List.mem_filter.mp hw
        exact nseA_in w h9.1 h9.2
  refine nse_make nse_x0 nse_x1 nse_x2 nse_x5 X.1 X.2.1 hl (names := nseN) (own := "BorrowedBeat") (cls := NSE) (sa := sa) (A := A) X.2.2.2.1 (by decide +kernel) (by decide +kernel) (hw _ (by simp)) (hw _ (by simp)) hstr (fun w h => hw w (by simp [h])) (fun w h => (nse_good w h).2) hU.2.2.1 hU.2.2.2 hS (hl2.1.trans X.2.2.1.symm) d0 d3 d4 d6 ?_ ?_ hRc hRs (fun q ce H1 h1 h2 h3 h4 h5 => ?_)
  · show 2 + 3 < R.frames
    exact hRf
  · have e : ((st.map tV).map fun v => v.category).sum = st.length := by
      clear hRl
      induction st with
      | nil => rfl
      | cons v t ih => simp only [List.map_cons, List.sum_cons, List.length_cons, ih, tV_cat]; omega
    rw [e]
    show st.length + (13 * (2 + 1) + 43) ≤ R.locals
    omega
  · refine vx_athrow X.1 X.2.1 d9 (vx_out (fun x hx => (hex x hx).elim) X.2.2.2.2.2.2.2.2.2 h1 h2 h3 (fun t ht hal => ⟨(), hp, ⟨rfl, ?_, va_K.moved hal X.2.2.2.2.2.1, hD⟩, ?_⟩) hS.2.2 hc hs)
    · rw [ht]
      exact hP.kept (fun k x hx => h5 x.1 (hP k x hx).lt)
    · refine ⟨by rw [ht]; exact Nat.le_trans hS.1 h4, fun q0 a1 a2 => ?_⟩
      rw [ht, h5 q0 (Nat.lt_of_lt_of_le a1 hS.1)]
      exact hS.2.1 q0 a1 a2
end XR
