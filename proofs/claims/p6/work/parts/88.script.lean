/-! THE SCRIPT READ -/
section SC
variable {p : Program} {l : Launch} {e : Env} {R : Room} {s : State} {m : MethodId} {args : Array Value} {below : List Frame} {meth : Method} {c : Code} {Q : State → Prop} {D : va_G} {G : GG} {A : Nat → Prop} {cc : ByteArray} {nL cells slots pc : Nat} {rt : Option FieldType} {own : String} {L : Nat → Option AV} {st : List AV} {ws : EW}
theorem S_slen (X : Cx p s m args meth c D G A cc nL rt own) {b N : Nat} {xs : Nat → Int32} (hX : va_X b N xs s s.heap) (hbl : b < s.heap.size) (hbA : ¬ A b) (hdg : decode cc pc = .ok (.arraylength, 1)) (k : S_ p l e R s m args below meth c Q D G A nL cells slots (pc + 1) L (iv (N : Int) :: st) ws) : S_ p l e R s m args below meth c Q D G A nL cells slots pc L (rv b :: st) ws := by
  intro H locs ls hP hD hS hl
  refine va_slen X.1 X.2.1 hX hbl hbA hS hdg ?_
  have e1 : Int32.ofNat N = i32 (N : Int) := (Int32.ofInt_eq_ofNat).symm
  rw [e1]
  exact k H locs ls hP hD hS hl
theorem S_sld (X : Cx p s m args meth c D G A cc nL rt own) {b N : Nat} {xs : Nat → Int32} {z : Int} (hX : va_X b N xs s s.heap) (hbl : b < s.heap.size) (hbA : ¬ A b) (h0 : 0 ≤ z) (h1 : z < N) (hn : N ≤ 2147483647) (hdg : decode cc pc = .ok (.iaload, 1)) (k : S_ p l e R s m args below meth c Q D G A nL cells slots (pc + 1) L (iv (xs z.toNat).toInt :: st) ws) : S_ p l e R s m args below meth c Q D G A nL cells slots pc L (iv z :: rv b :: st) ws := by
  intro H locs ls hP hD hS hl
  refine va_sld X.1 X.2.1 hX hbl hbA hS (i32_vp h0 h1 hn) hdg ?_
  have e1 : xs (i32 z).toNatClampNeg = i32 (xs z.toNat).toInt := by rw [i32_nat h0 ⟨by omega, by omega⟩, i32_of]
  rw [e1]
  exact k H locs ls hP hD hS hl
end SC
