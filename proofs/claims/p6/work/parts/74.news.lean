/-! CELLS MADE: arrays of ints, an object, an array of laws -/
section NW
variable {p : Program} {l : Launch} {e : Env} {R : Room} {s : State} {m : MethodId} {args : Array Value} {below : List Frame} {meth : Method} {c : Code} {Q : State → Prop} {D : va_G} {G : GG} {A : Nat → Prop} {cc : ByteArray} {nL cells slots pc : Nat} {rt : Option FieldType} {own : String} {L : Nat → Option AV} {st : List AV} {ws : EW}
theorem i32_nn {N : Nat} (h : N ≤ 100000) : ¬ i32 (N : Int) < 0 := by
  have e : (0 : Int32) = i32 0 := rfl
  rw [e, i32_lt ⟨by omega, by omega⟩ ⟨by omega, by omega⟩]
  omega
theorem S_newa (X : Cx p s m args meth c D G A cc nL rt own) {N : Nat} (harr : Cond.arrayClass .int ∈ uw) (hN : N ≤ 100000) (hc : cells + 1 ≤ R.cells) (hs : slots + N ≤ R.slots) (hdg : decode cc pc = .ok (.newarray .int, 2)) (k : ∀ q : Nat, S_ p l e R s m args below meth c Q D G A nL (cells + 1) (slots + N) (pc + 2) L (rv q :: st) (ws ++ [(q, ar N (fun _ => 0))])) : S_ p l e R s m args below meth c Q D G A nL cells slots pc L (iv (N : Int) :: st) ws := by
  intro H locs ls hP hD hS hl
  have hw : (Cond.arrayClass (newarray.typeOf .int)).before args s = true := X.2.2.2.2.1 _ harr
  refine va_newa (atype := .int) (a0 := (N, .inl (fun _ => i32 0))) X.1 X.2.1 hw rfl X.2.2.2.2.2.1 hP hD hS X.2.2.2.2.2.2.1 (fun cA => rfl) (i32_nn hN) ?_ ?_ hc hs hdg (fun q cA H1 hK1 hP1 hD1 hS1 => ?_)
  · rw [i32_nat (by omega) ⟨by omega, by omega⟩]; omega
  · show N * 4 ≤ 536870912; omega
  · have h1 : s.vm.findClass _ = some cA := (hK1.2 3 (cA, .int) rfl).2
    have h2 : s.vm.findClass _ = some G.1 := (X.2.2.2.2.2.1.2 0 (G.1, .int) rfl).2
    have e1 : cA = G.1 := Option.some.inj (h1.symm.trans h2)
    subst e1
    have e2 : tW G (ws ++ [(q, ar N (fun _ => 0))]) = tW G ws ++ [(q, .inl (G.1, (N, .inl (fun _ => i32 0))))] := by unfold tW; rw [List.map_append]; rfl
    exact k q H1 locs ls (by rw [e2]; exact hP1) (by rw [e2]; exact hD1) hS1 hl
theorem S_newq (X : Cx p s m args meth c D G A cc nL rt own) {N idx : Nat} (hcl : Cond.classLink own idx "BorrowedBeat$Law" ∈ uw) (hov : Cond.arrayOver (.object "BorrowedBeat$Law") ∈ nw) (hN : N ≤ 100000) (hc : cells + 1 ≤ R.cells) (hs : slots + N ≤ R.slots) (hdg : decode cc pc = .ok (.anewarray idx, 3)) (k : ∀ q : Nat, S_ p l e R s m args below meth c Q D G A nL (cells + 1) (slots + N) (pc + 3) L (rv q :: st) (ws ++ [(q, aq N (fun _ => none))])) : S_ p l e R s m args below meth c Q D G A nL cells slots pc L (iv (N : Int) :: st) ws := by
  intro H locs ls hP hD hS hl
  refine va_newq (C := "BorrowedBeat$Law") X.1 X.2.1 X.2.2.2.1 (X.2.2.2.2.1 _ hcl) (X.2.2.2.2.2.2.2.1.1 _ hov) X.2.2.2.2.2.1 hP hD hS X.2.2.2.2.2.2.1 (i32_nn hN) ?_ (N' := N) (by omega) hc hs hdg (fun q cA H1 hK1 hP1 hD1 hS1 => ?_)
  · rw [i32_nat (by omega) ⟨by omega, by omega⟩]; omega
  · obtain ⟨kA, comp, a1, a2, a3, h1⟩ := (hK1.2 3 (cA, .object "BorrowedBeat$Law") rfl).2
    obtain ⟨kB, comp2, b1, b2, b3, h2⟩ := (X.2.2.2.2.2.1.2 1 (G.2.1, .object "BorrowedBeat$Law") rfl).2
    have e1 : cA = G.2.1 := Option.some.inj (h1.symm.trans h2)
    subst e1
    have e2 : tW G (ws ++ [(q, aq N (fun _ => none))]) = tW G ws ++ [(q, .inl (G.2.1, N, .inr (.inr (.inr (.inr (fun _ => none))))))] := by unfold tW; rw [List.map_append]; rfl
    exact k q H1 locs ls (by rw [e2]; exact hP1) (by rw [e2]; exact hD1) hS1 hl
/-- an object: its fields are at their beginnings -/
theorem S_new (X : Cx p s m args meth c D G A cc nL rt own) {C : String} {T : u_T} {N ci idx : Nat} {f0 : Nat → AV} (ty : Nat → FieldType) (hin : ∀ w ∈ u_ws C T N, w ∈ uw) (hty : ∀ k, k < N → parseFieldDescriptor (T k).2.2.1 = some (ty k)) (hcl : Cond.classLink own idx C ∈ uw) (hinst : Cond.instantiable C N ∈ uw) (hini : Cond.initialized C ∈ uw) (hci : vwCl[ci]? = some (C, T, N)) (hf0 : ∀ j, j < N → defaultValue (ty j) = tV (f0 j)) (hc : cells + 1 ≤ R.cells) (hs : slots + N ≤ R.slots) (hdg : decode cc pc = .ok (.new idx, 3)) (k : ∀ q : Nat, S_ p l e R s m args below meth c Q D G A nL (cells + 1) (slots + N) (pc + 3) L (rv q :: st) (ws ++ [(q, ob ci f0)])) : S_ p l e R s m args below meth c Q D G A nL cells slots pc L st ws := by
  intro H locs ls hP hD hS hl
  have hn : nF ci = N := by unfold nF; rw [hci]
  refine va_new (fs := (List.range N).map (fun k => tV (f0 k))) X.1 X.2.1 (X.2.2.2.2.1) hin ty hty X.2.2.2.1 (X.2.2.2.2.1 _ hcl) (X.2.2.2.2.1 _ hinst) (X.2.2.2.2.1 _ hini) X.2.2.2.2.2.1 hP hD hS X.2.2.2.2.2.2.1 hci (fun j hj => ?_) hc hs hdg (fun q H1 hP1 hD1 hS1 => ?_)
  · rw [hf0 j hj]
    unfold vp_V
    simp [hj]
  · have e2 : tW G (ws ++ [(q, ob ci f0)]) = tW G ws ++ [(q, .inr (ci, (List.range N).map (fun k => tV (f0 k))))] := by
      unfold tW
      rw [List.map_append, ← hn]
      rfl
    exact k q H1 locs ls (by rw [e2]; exact hP1) (by rw [e2]; exact hD1) hS1 hl
/-- Object's own beginning -/
theorem S_obj (X : Cx p s m args meth c D G A cc nL rt own) {a idx : Nat} (h1 : Cond.methodLink own idx Lib.objectInit ∈ uw) (h2 : Cond.instanceMethod Lib.objectInit ∈ uw) (h3 : Cond.code Lib.objectInit ⟨#[0xb1]⟩ 1 none ∈ uw) (hdg : decode cc pc = .ok (.invokespecial idx, 3)) (hf : 1 ≤ R.frames) (hl2 : st.length + 12 ≤ R.locals) (k : S_ p l e R s m args below meth c Q D G A nL cells slots (pc + 3) L st ws) : S_ p l e R s m args below meth c Q D G A nL cells slots pc L (rv a :: st) ws := by
  intro H locs ls hP hD hS hl
  refine W.objInit X.1 X.2.1 X.2.2.2.1 (X.2.2.2.2.1 _ h1) (X.2.2.2.2.1 _ h2) (X.2.2.2.2.1 _ h3) rfl (by rw [X.2.2.1]; exact hl.1) rfl hdg hf ?_ (k H locs ls hP hD hS hl)
  have e : ∀ t : List AV, ((t.map tV).map (fun v => v.category)).sum = t.length := by
    intro t
    induction t with
    | nil => rfl
    | cons v t ih =>
      rw [List.map_cons, List.map_cons, List.sum_cons, ih, List.length_cons]
      rcases v with z | _ | _
      · show 1 + _ = _; omega
      · show 1 + _ = _; omega
      · show 1 + _ = _; omega
  show 2 * 0 + ((st.map tV).map (fun v => v.category)).sum + 12 ≤ R.locals
  rw [e]
  omega
end NW
