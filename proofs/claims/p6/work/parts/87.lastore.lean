/-! AN INT WIDENED AND WRITTEN TO AN ARRAY OF LONGS -/
section LS
variable {p : Program} {l : Launch} {e : Env} {R : Room} {s : State} {m : MethodId} {args : Array Value} {below : List Frame} {meth : Method} {c : Code} {Q : State → Prop} {D : va_G} {G : GG} {A : Nat → Prop} {cc : ByteArray} {nL cells slots pc : Nat} {rt : Option FieldType} {own : String} {L : Nat → Option AV} {st : List AV} {ws : EW}
theorem S_wlast (X : Cx p s m args meth c D G A cc nL rt own) (q0 : Nat) {a n : Nat} {g : Nat → Int64} {z x : Int} (ha : ws[q0]? = some (a, al n g)) (h0 : 0 ≤ z) (h1 : z < n) (hn : n ≤ 2147483647) (hdg1 : decode cc pc = .ok (.i2l, 1)) (hdg2 : decode cc (pc + 1) = .ok (.lastore, 1)) (k : S_ p l e R s m args below meth c Q D G A nL cells slots (pc + 2) L st (ws.set q0 (a, al n (va_up g (i32 z).toNatClampNeg (i32 x).toInt64)))) : S_ p l e R s m args below meth c Q D G A nL cells slots pc L (iv x :: iv z :: rv a :: st) ws := by
  intro H locs ls hP hD hS hl
  refine lv_i2l (v := (i32 x).toInt64) X.1 X.2.1 hdg1 rfl ?_
  refine va_last X.1 X.2.1 X.2.2.2.2.2.1 hP hD hS q0 2 (tW_at ha) rfl (i32_vp h0 h1 hn) hdg2 (fun H1 locs1 hP1 hD1 hS1 => ?_)
  have e2 : tW G (ws.set q0 (a, al n (va_up g (i32 z).toNatClampNeg (i32 x).toInt64))) = (tW G ws).set q0 (a, .inl (G.2.2, n, .inr (.inl (va_up g (i32 z).toNatClampNeg (i32 x).toInt64)))) := by
    unfold tW
    rw [List.map_set]
    rfl
  exact k H1 locs1 ls (by rw [e2]; exact hP1) (by rw [e2]; exact hD1) hS1 hl
end LS
