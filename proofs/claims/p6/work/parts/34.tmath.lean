/-! Math.max, min, abs; an array's places as numbers in their range -/
section TM
variable {p : Program} {l : Launch} {e : Env} {R : Room} {s : State} {m : MethodId} {args : Array Value} {below : List Frame} {meth : Method} {c : Code} {Q : State → Prop} {D : va_G} {G : GG} {A : Nat → Prop} {cc : ByteArray} {nL cells slots pc : Nat} {rt : Option FieldType} {own : String} {L : Nat → Option AV} {st : List AV} {ws : EW}
theorem catR {rest : List AV} : ((rest.map tV).map fun v => v.category).sum = rest.length := by
  induction rest with
  | nil => rfl
  | cons v t ih => simp only [List.map_cons, List.sum_cons, List.length_cons, ih, tV_cat]; omega
theorem S_mmax (X : Cx p s m args meth c D G A cc nL rt own) {idx k : Nat} {y : MethodName} {b : ByteArray} (K : LkS own idx y b 2 (some .int) k) (hy : y = Lib.Math.max.name) (hb : b = Lib.Math.max.code) {x z : Int} (hx : inR x) (hz : inR z) (h1 : 1 ≤ R.frames) (h2 : st.length + 13 ≤ R.locals) (h3 : cells ≤ R.cells) (h4 : slots ≤ R.slots) (hdg : decode cc pc = .ok (.invokestatic idx, 3)) (kk : S_ p l e R s m args below meth c Q D G A nL cells slots (pc + 3) L (iv (max x z) :: st) ws) : S_ p l e R s m args below meth c Q D G A nL cells slots pc L (iv z :: iv x :: st) ws := by
  intro H locs ls hP hD hS hl
  obtain ⟨⟨k1, k2, k3, k4⟩, -⟩ := K
  subst hy; subst hb
  have hts := X.2.2.2.2.1
  have h5 := kk H locs ls hP hD hS hl
  refine va_mmax X.1 X.2.1 (by rw [X.2.2.1]; exact hl.1.symm) X.2.2.2.1 (hts _ k1) (hts _ k2) (hts _ k3) (hts _ k4) h1 (by rw [catR]; exact h2) h3 h4 hdg ?_
  have e1 : (if i32 x < i32 z then i32 z else i32 x) = i32 (max x z) := by
    by_cases q : x < z
    · rw [if_pos ((i32_lt hx hz).mpr q), show max x z = z by omega]
    · rw [if_neg (fun h => q ((i32_lt hx hz).mp h)), show max x z = x by omega]
  rw [e1]
  exact h5
theorem S_mmin (X : Cx p s m args meth c D G A cc nL rt own) {idx k : Nat} {y : MethodName} {b : ByteArray} (K : LkS own idx y b 2 (some .int) k) (hy : y = Lib.Math.min.name) (hb : b = Lib.Math.min.code) {x z : Int} (hx : inR x) (hz : inR z) (h1 : 1 ≤ R.frames) (h2 : st.length + 13 ≤ R.locals) (h3 : cells ≤ R.cells) (h4 : slots ≤ R.slots) (hdg : decode cc pc = .ok (.invokestatic idx, 3)) (kk : S_ p l e R s m args below meth c Q D G A nL cells slots (pc + 3) L (iv (min x z) :: st) ws) : S_ p l e R s m args below meth c Q D G A nL cells slots pc L (iv z :: iv x :: st) ws := by
  intro H locs ls hP hD hS hl
  obtain ⟨⟨k1, k2, k3, k4⟩, -⟩ := K
  subst hy; subst hb
  have hts := X.2.2.2.2.1
  have h5 := kk H locs ls hP hD hS hl
  refine va_mmin X.1 X.2.1 (by rw [X.2.2.1]; exact hl.1.symm) X.2.2.2.1 (hts _ k1) (hts _ k2) (hts _ k3) (hts _ k4) h1 (by rw [catR]; exact h2) h3 h4 hdg ?_
  have e1 : (if i32 z < i32 x then i32 z else i32 x) = i32 (min x z) := by
    by_cases q : z < x
    · rw [if_pos ((i32_lt hz hx).mpr q), show min x z = z by omega]
    · rw [if_neg (fun h => q ((i32_lt hz hx).mp h)), show min x z = x by omega]
  rw [e1]
  exact h5
theorem S_mabs (X : Cx p s m args meth c D G A cc nL rt own) {idx k : Nat} {y : MethodName} {b : ByteArray} (K : LkS own idx y b 1 (some .int) k) (hy : y = Lib.Math.abs.name) (hb : b = Lib.Math.abs.code) {x : Int} (hx : inR x) (h1 : 1 ≤ R.frames) (h2 : st.length + 13 ≤ R.locals) (h3 : cells ≤ R.cells) (h4 : slots ≤ R.slots) (hdg : decode cc pc = .ok (.invokestatic idx, 3)) (kk : S_ p l e R s m args below meth c Q D G A nL cells slots (pc + 3) L (iv (x.natAbs : Int) :: st) ws) : S_ p l e R s m args below meth c Q D G A nL cells slots pc L (iv x :: st) ws := by
  intro H locs ls hP hD hS hl
  obtain ⟨⟨k1, k2, k3, k4⟩, -⟩ := K
  subst hy; subst hb
  have hts := X.2.2.2.2.1
  have h5 := kk H locs ls hP hD hS hl
  refine va_mabs X.1 X.2.1 (by rw [X.2.2.1]; exact hl.1.symm) X.2.2.2.1 (hts _ k1) (hts _ k2) (hts _ k3) (hts _ k4) h1 (by rw [catR]; exact h2) h3 h4 hdg ?_
  have e1 : (if 0 ≤ i32 x then i32 x else 0 - i32 x) = i32 (x.natAbs : Int) := by
    by_cases q : 0 ≤ x
    · rw [if_pos (by rw [i32_0]; exact (i32_le inR_0 hx).mpr q), show ((x.natAbs : Nat) : Int) = x by omega]
    · rw [if_neg (fun h => q (by rw [i32_0] at h; exact (i32_le inR_0 hx).mp h)), i32_0, i32_sub, show 0 - x = (x.natAbs : Int) by omega]
  rw [e1]
  exact h5
theorem S_ldcw (X : Cx p s m args meth c D G A cc nL rt own) {index : Nat} {n : Int} (hw : Cond.constant own index (i32 n) ∈ uw) (hdg : decode cc pc = .ok (.ldc_w index, 3)) (k : S_ p l e R s m args below meth c Q D G A nL cells slots (pc + 3) L (iv n :: st) ws) : S_ p l e R s m args below meth c Q D G A nL cells slots pc L st ws :=
  fun H locs ls hP hD hS hl => lv_ldcw X.1 X.2.1 X.2.2.2.1 (X.2.2.2.2.1 _ hw) hdg (k H locs ls hP hD hS hl)
/-- an array's places may be taken as numbers in their range -/
theorem S_nrm {q a n : Nat} {g : Int → Int} (hq : ws[q]? = some (a, ar n g)) (kk : ∀ g2 : Int → Int, (∀ j, inR (g2 j)) → (∀ j, inR (g j) → g2 j = g j) → S_ p l e R s m args below meth c Q D G A nL cells slots pc L st (ws.set q (a, ar n g2))) : S_ p l e R s m args below meth c Q D G A nL cells slots pc L st ws := by
  intro H locs ls hP hD hS hl
  have e1 : tE G (ar n (fun j => (i32 (g j)).toInt)) = tE G (ar n g) := by
    show (Sum.inl (G.1, n, Sum.inl (fun j : Nat => i32 ((i32 (g (j : Int))).toInt))) : va_E) = Sum.inl (G.1, n, Sum.inl (fun j : Nat => i32 (g (j : Int))))
    have e9 : (fun j : Nat => i32 ((i32 (g (j : Int))).toInt)) = (fun j : Nat => i32 (g (j : Int))) := funext (fun j => i32_of _)
    rw [e9]
  have e2 : tW G (ws.set q (a, ar n (fun j => (i32 (g j)).toInt))) = tW G ws := by
    rw [← tW_set (x := ar n (fun j => (i32 (g j)).toInt)), e1]
    apply List.ext_getElem?
    intro j
    rw [List.getElem?_set]
    by_cases h : q = j
    · subst h
      have h9 := tW_at (G := G) hq
      rw [if_pos rfl, if_pos (List.getElem?_eq_some_iff.mp h9).1, h9]
    · rw [if_neg h]
  refine kk (fun j => (i32 (g j)).toInt) (fun j => toInt_inR _) (fun j h => i32_toInt h) H locs ls ?_ ?_ hS hl
  · rw [e2]; exact hP
  · rw [e2]; exact hD
end TM
