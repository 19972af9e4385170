/-! AN ARRAY COPIED BY ITS OWN WORD, AND CALLED AGAIN WHAT IT IS -/
section CL
variable {p : Program} {l : Launch} {e : Env} {R : Room} {s : State} {m : MethodId} {args : Array Value} {below : List Frame} {meth : Method} {c : Code} {Q : State → Prop} {D : va_G} {G : GG} {A : Nat → Prop} {cc : ByteArray} {nL cells slots pc : Nat} {rt : Option FieldType} {own : String} {L : Nat → Option AV} {st : List AV} {ws : EW}
theorem cat_sum : ∀ t : List AV, ((t.map tV).map (fun v => v.category)).sum = t.length := by
  intro t
  induction t with
  | nil => rfl
  | cons v t ih =>
    rw [List.map_cons, List.map_cons, List.sum_cons, ih, List.length_cons]
    rcases v with z | _ | _
    · show 1 + _ = _; omega
    · show 1 + _ = _; omega
    · show 1 + _ = _; omega
theorem cI (X : Cx p s m args meth c D G A cc nL rt own) : s.vm.findClass "[I" = some G.1 := by
  have h2 : s.vm.findClass ("[" ++ FieldType.int.toString) = some G.1 := (X.2.2.2.2.2.1.2 0 (G.1, .int) rfl).2
  have e : "[" ++ FieldType.int.toString = "[I" := by decide
  rwa [e] at h2
theorem S_clone (X : Cx p s m args meth c D G A cc nL rt own) {idx : Nat} (k1 : Cond.methodLink own idx ⟨"[I", "clone", "()Ljava/lang/Object;"⟩ ∈ uw) (k2 : Cond.sameMethod "[I" "java/lang/Object" "clone" "()Ljava/lang/Object;" ∈ uw) (k3 : Cond.native ⟨"java/lang/Object", "clone", "()Ljava/lang/Object;"⟩ ∈ uw) (k4 : Cond.instanceMethod ⟨"java/lang/Object", "clone", "()Ljava/lang/Object;"⟩ ∈ uw) (k5 : Cond.selects "[I" ⟨"[I", "clone", "()Ljava/lang/Object;"⟩ ⟨"java/lang/Object", "clone", "()Ljava/lang/Object;"⟩ ∈ uw) (k6 : Cond.castable "[I" "java/lang/Cloneable" ∈ nw) (q0 : Nat) {a n : Nat} {g : Int → Int} (ha : ws[q0]? = some (a, ar n g)) (hf : 1 ≤ R.frames) (hl2 : st.length + 14 ≤ R.locals) (hc : cells + 1 ≤ R.cells) (hs : slots + n ≤ R.slots) (hdg : decode cc pc = .ok (.invokevirtual idx, 3))
    (k : ∀ q : Nat, S_ p l e R s m args below meth c Q D G A nL (cells + 1) (slots + n) (pc + 3) L (rv q :: st) (ws ++ [(q, ar n g)])) : S_ p l e R s m args below meth c Q D G A nL cells slots pc L (rv a :: st) ws := by
  intro H locs ls hP hD hS hl
  refine va_clone (ty := .int) (x := (n, .inl (fun j => i32 (g (j : Int))))) X.1 X.2.1 (X.2.2.1.trans hl.1.symm) X.2.2.2.1 (X.2.2.2.2.1 _ k1) (X.2.2.2.2.1 _ k2) (X.2.2.2.2.1 _ k3) (X.2.2.2.2.1 _ k4) (X.2.2.2.2.1 _ k5) (X.2.2.2.2.2.2.2.1.1 _ k6) X.2.2.2.2.2.1 hP hD hS X.2.2.2.2.2.2.1 q0 0 (tW_at ha) rfl (cI X) (va_fit (fun i hi => rfl)) hf ?_ hc hs hdg (fun q H1 hK1 hP1 hD1 hS1 => ?_)
  · have := cat_sum st
    show ((st.map tV).map (fun v => v.category)).sum + 14 ≤ R.locals
    rw [this]
    exact hl2
  · have e2 : tW G (ws ++ [(q, ar n g)]) = tW G ws ++ [(q, .inl (G.1, (n, .inl (fun j => i32 (g (j : Int))))))] := by unfold tW; rw [List.map_append]; rfl
    exact k q H1 locs ls (by rw [e2]; exact hP1) (by rw [e2]; exact hD1) hS1 hl
theorem S_castI (X : Cx p s m args meth c D G A cc nL rt own) {idx : Nat} (k1 : Cond.classLink own idx "[I" ∈ uw) (q0 : Nat) {a n : Nat} {g : Int → Int} (ha : ws[q0]? = some (a, ar n g)) (hdg : decode cc pc = .ok (.checkcast idx, 3)) (k : S_ p l e R s m args below meth c Q D G A nL cells slots (pc + 3) L (rv a :: st) ws) : S_ p l e R s m args below meth c Q D G A nL cells slots pc L (rv a :: st) ws := by
  intro H locs ls hP hD hS hl
  exact va_castA X.1 X.2.1 X.2.2.2.1 (X.2.2.2.2.1 _ k1) hP q0 (tW_at ha) (cI X) hdg (k H locs ls hP hD hS hl)
end CL
