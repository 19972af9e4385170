/-! AN ARRAY OF LONGS, MADE -/
section NL
variable {p : Program} {l : Launch} {e : Env} {R : Room} {s : State} {m : MethodId} {args : Array Value} {below : List Frame} {meth : Method} {c : Code} {Q : State → Prop} {D : va_G} {G : GG} {A : Nat → Prop} {cc : ByteArray} {nL cells slots pc : Nat} {rt : Option FieldType} {own : String} {L : Nat → Option AV} {st : List AV} {ws : EW}
theorem S_newl (X : Cx p s m args meth c D G A cc nL rt own) {N : Nat} (harr : Cond.arrayClass .long ∈ uw) (hN : N ≤ 100000) (hc : cells + 1 ≤ R.cells) (hs : slots + N ≤ R.slots) (hdg : decode cc pc = .ok (.newarray .long, 2)) (k : ∀ q : Nat, S_ p l e R s m args below meth c Q D G A nL (cells + 1) (slots + N) (pc + 2) L (rv q :: st) (ws ++ [(q, al N (fun _ => 0))])) : S_ p l e R s m args below meth c Q D G A nL cells slots pc L (iv (N : Int) :: st) ws := by
  intro H locs ls hP hD hS hl
  have hw : (Cond.arrayClass (newarray.typeOf .long)).before args s = true := X.2.2.2.2.1 _ harr
  refine va_newa (atype := .long) (a0 := (N, .inr (.inl (fun _ => 0)))) X.1 X.2.1 hw rfl X.2.2.2.2.2.1 hP hD hS X.2.2.2.2.2.2.1 (fun cA => rfl) (i32_nn hN) ?_ ?_ hc hs hdg (fun q cA H1 hK1 hP1 hD1 hS1 => ?_)
  · rw [i32_nat (by omega) ⟨by omega, by omega⟩]; omega
  · show N * 8 ≤ 536870912; omega
  · have h1 : s.vm.findClass _ = some cA := (hK1.2 3 (cA, .long) rfl).2
    have h2 : s.vm.findClass _ = some G.2.2 := (X.2.2.2.2.2.1.2 2 (G.2.2, .long) rfl).2
    have e1 : cA = G.2.2 := Option.some.inj (h1.symm.trans h2)
    subst e1
    have e2 : tW G (ws ++ [(q, al N (fun _ => 0))]) = tW G ws ++ [(q, .inl (G.2.2, (N, .inr (.inl (fun _ => 0)))))] := by unfold tW; rw [List.map_append]; rfl
    exact k q H1 locs ls (by rw [e2]; exact hP1) (by rw [e2]; exact hD1) hS1 hl
end NL
